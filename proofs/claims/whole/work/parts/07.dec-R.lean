theorem d_R_init_0 : decode b_R_init 0 = .ok (.aload_n 0, 1) := by decide +kernel
theorem d_R_init_1 : decode b_R_init 1 = .ok (.invokespecial 1, 3) := by decide +kernel
theorem d_R_init_4 : decode b_R_init 4 = .ok (.aload_n 0, 1) := by decide +kernel
theorem d_R_init_5 : decode b_R_init 5 = .ok (.iconst 1, 1) := by decide +kernel
theorem d_R_init_6 : decode b_R_init 6 = .ok (.putfield 9, 3) := by decide +kernel
theorem d_R_init_9 : decode b_R_init 9 = .ok (.aload_n 0, 1) := by decide +kernel
theorem d_R_init_10 : decode b_R_init 10 = .ok (.iconst 1, 1) := by decide +kernel
theorem d_R_init_11 : decode b_R_init 11 = .ok (.putfield 13, 3) := by decide +kernel
theorem d_R_init_14 : decode b_R_init 14 = .ok (.aload_n 0, 1) := by decide +kernel
theorem d_R_init_15 : decode b_R_init 15 = .ok (.iconst 1, 1) := by decide +kernel
theorem d_R_init_16 : decode b_R_init 16 = .ok (.putfield 16, 3) := by decide +kernel
theorem d_R_init_19 : decode b_R_init 19 = .ok (.aload_n 0, 1) := by decide +kernel
theorem d_R_init_20 : decode b_R_init 20 = .ok (.sipush 128, 3) := by decide +kernel
theorem d_R_init_23 : decode b_R_init 23 = .ok (.putfield 19, 3) := by decide +kernel
theorem d_R_init_26 : decode b_R_init 26 = .ok (.aload_n 0, 1) := by decide +kernel
theorem d_R_init_27 : decode b_R_init 27 = .ok (.bipush 8, 2) := by decide +kernel
theorem d_R_init_29 : decode b_R_init 29 = .ok (.newarray .int, 2) := by decide +kernel
theorem d_R_init_31 : decode b_R_init 31 = .ok (.putfield 22, 3) := by decide +kernel
theorem d_R_init_34 : decode b_R_init 34 = .ok (.aload_n 0, 1) := by decide +kernel
theorem d_R_init_35 : decode b_R_init 35 = .ok (.bipush 64, 2) := by decide +kernel
theorem d_R_init_37 : decode b_R_init 37 = .ok (.newarray .int, 2) := by decide +kernel
theorem d_R_init_39 : decode b_R_init 39 = .ok (.putfield 26, 3) := by decide +kernel
theorem d_R_init_42 : decode b_R_init 42 = .ok (.aload_n 0, 1) := by decide +kernel
theorem d_R_init_43 : decode b_R_init 43 = .ok (.sipush 128, 3) := by decide +kernel
theorem d_R_init_46 : decode b_R_init 46 = .ok (.newarray .int, 2) := by decide +kernel
theorem d_R_init_48 : decode b_R_init 48 = .ok (.putfield 29, 3) := by decide +kernel
theorem d_R_init_51 : decode b_R_init 51 = .ok (.aload_n 0, 1) := by decide +kernel
theorem d_R_init_52 : decode b_R_init 52 = .ok (.bipush 40, 2) := by decide +kernel
theorem d_R_init_54 : decode b_R_init 54 = .ok (.newarray .int, 2) := by decide +kernel
theorem d_R_init_56 : decode b_R_init 56 = .ok (.putfield 32, 3) := by decide +kernel
theorem d_R_init_59 : decode b_R_init 59 = .ok (.aload_n 0, 1) := by decide +kernel
theorem d_R_init_60 : decode b_R_init 60 = .ok (.bipush 40, 2) := by decide +kernel
theorem d_R_init_62 : decode b_R_init 62 = .ok (.newarray .int, 2) := by decide +kernel
theorem d_R_init_64 : decode b_R_init 64 = .ok (.putfield 35, 3) := by decide +kernel
theorem d_R_init_67 : decode b_R_init 67 = .ok (.aload_n 0, 1) := by decide +kernel
theorem d_R_init_68 : decode b_R_init 68 = .ok (.bipush 40, 2) := by decide +kernel
theorem d_R_init_70 : decode b_R_init 70 = .ok (.newarray .int, 2) := by decide +kernel
theorem d_R_init_72 : decode b_R_init 72 = .ok (.putfield 38, 3) := by decide +kernel
theorem d_R_init_75 : decode b_R_init 75 = .ok (.aload_n 0, 1) := by decide +kernel
theorem d_R_init_76 : decode b_R_init 76 = .ok (.bipush 40, 2) := by decide +kernel
theorem d_R_init_78 : decode b_R_init 78 = .ok (.newarray .int, 2) := by decide +kernel
theorem d_R_init_80 : decode b_R_init 80 = .ok (.putfield 41, 3) := by decide +kernel
theorem d_R_init_83 : decode b_R_init 83 = .ok (.aload_n 0, 1) := by decide +kernel
theorem d_R_init_84 : decode b_R_init 84 = .ok (.bipush 40, 2) := by decide +kernel
theorem d_R_init_86 : decode b_R_init 86 = .ok (.newarray .int, 2) := by decide +kernel
theorem d_R_init_88 : decode b_R_init 88 = .ok (.putfield 44, 3) := by decide +kernel
theorem d_R_init_91 : decode b_R_init 91 = .ok (.aload_n 0, 1) := by decide +kernel
theorem d_R_init_92 : decode b_R_init 92 = .ok (.bipush 40, 2) := by decide +kernel
theorem d_R_init_94 : decode b_R_init 94 = .ok (.newarray .boolean, 2) := by decide +kernel
theorem d_R_init_96 : decode b_R_init 96 = .ok (.putfield 47, 3) := by decide +kernel
theorem d_R_init_99 : decode b_R_init 99 = .ok (.aload_n 0, 1) := by decide +kernel
theorem d_R_init_100 : decode b_R_init 100 = .ok (.iconst 5, 1) := by decide +kernel
theorem d_R_init_101 : decode b_R_init 101 = .ok (.newarray .int, 2) := by decide +kernel
theorem d_R_init_103 : decode b_R_init 103 = .ok (.putfield 51, 3) := by decide +kernel
theorem d_R_init_106 : decode b_R_init 106 = .ok (.aload_n 0, 1) := by decide +kernel
theorem d_R_init_107 : decode b_R_init 107 = .ok (.iconst 5, 1) := by decide +kernel
theorem d_R_init_108 : decode b_R_init 108 = .ok (.newarray .int, 2) := by decide +kernel
theorem d_R_init_110 : decode b_R_init 110 = .ok (.putfield 54, 3) := by decide +kernel
theorem d_R_init_113 : decode b_R_init 113 = .ok (.aload_n 0, 1) := by decide +kernel
theorem d_R_init_114 : decode b_R_init 114 = .ok (.iconst 5, 1) := by decide +kernel
theorem d_R_init_115 : decode b_R_init 115 = .ok (.newarray .int, 2) := by decide +kernel
theorem d_R_init_117 : decode b_R_init 117 = .ok (.putfield 57, 3) := by decide +kernel
theorem d_R_init_120 : decode b_R_init 120 = .ok (.aload_n 0, 1) := by decide +kernel
theorem d_R_init_121 : decode b_R_init 121 = .ok (.iconst 5, 1) := by decide +kernel
theorem d_R_init_122 : decode b_R_init 122 = .ok (.newarray .int, 2) := by decide +kernel
theorem d_R_init_124 : decode b_R_init 124 = .ok (.putfield 60, 3) := by decide +kernel
theorem d_R_init_127 : decode b_R_init 127 = .ok (.aload_n 0, 1) := by decide +kernel
theorem d_R_init_128 : decode b_R_init 128 = .ok (.iconst 5, 1) := by decide +kernel
theorem d_R_init_129 : decode b_R_init 129 = .ok (.newarray .int, 2) := by decide +kernel
theorem d_R_init_131 : decode b_R_init 131 = .ok (.putfield 63, 3) := by decide +kernel
theorem d_R_init_134 : decode b_R_init 134 = .ok (.aload_n 0, 1) := by decide +kernel
theorem d_R_init_135 : decode b_R_init 135 = .ok (.iconst 5, 1) := by decide +kernel
theorem d_R_init_136 : decode b_R_init 136 = .ok (.newarray .int, 2) := by decide +kernel
theorem d_R_init_138 : decode b_R_init 138 = .ok (.putfield 66, 3) := by decide +kernel
theorem d_R_init_141 : decode b_R_init 141 = .ok (.aload_n 0, 1) := by decide +kernel
theorem d_R_init_142 : decode b_R_init 142 = .ok (.iconst 5, 1) := by decide +kernel
theorem d_R_init_143 : decode b_R_init 143 = .ok (.newarray .int, 2) := by decide +kernel
theorem d_R_init_145 : decode b_R_init 145 = .ok (.putfield 69, 3) := by decide +kernel
theorem d_R_init_148 : decode b_R_init 148 = .ok (.aload_n 0, 1) := by decide +kernel
theorem d_R_init_149 : decode b_R_init 149 = .ok (.iconst 5, 1) := by decide +kernel
theorem d_R_init_150 : decode b_R_init 150 = .ok (.newarray .int, 2) := by decide +kernel
theorem d_R_init_152 : decode b_R_init 152 = .ok (.putfield 72, 3) := by decide +kernel
theorem d_R_init_155 : decode b_R_init 155 = .ok (.aload_n 0, 1) := by decide +kernel
theorem d_R_init_156 : decode b_R_init 156 = .ok (.iconst 5, 1) := by decide +kernel
theorem d_R_init_157 : decode b_R_init 157 = .ok (.newarray .int, 2) := by decide +kernel
theorem d_R_init_159 : decode b_R_init 159 = .ok (.putfield 75, 3) := by decide +kernel
theorem d_R_init_162 : decode b_R_init 162 = .ok (.aload_n 0, 1) := by decide +kernel
theorem d_R_init_163 : decode b_R_init 163 = .ok (.iload_n 1, 1) := by decide +kernel
theorem d_R_init_164 : decode b_R_init 164 = .ok (.iconst 1, 1) := by decide +kernel
theorem d_R_init_165 : decode b_R_init 165 = .ok (.if_icmp .ge 7, 3) := by decide +kernel
theorem d_R_init_168 : decode b_R_init 168 = .ok (.iconst 1, 1) := by decide +kernel
theorem d_R_init_169 : decode b_R_init 169 = .ok (.goto 15, 3) := by decide +kernel
theorem d_R_init_172 : decode b_R_init 172 = .ok (.iload_n 1, 1) := by decide +kernel
theorem d_R_init_173 : decode b_R_init 173 = .ok (.bipush 8, 2) := by decide +kernel
theorem d_R_init_175 : decode b_R_init 175 = .ok (.if_icmp .le 8, 3) := by decide +kernel
theorem d_R_init_178 : decode b_R_init 178 = .ok (.bipush 8, 2) := by decide +kernel
theorem d_R_init_180 : decode b_R_init 180 = .ok (.goto 4, 3) := by decide +kernel
theorem d_R_init_183 : decode b_R_init 183 = .ok (.iload_n 1, 1) := by decide +kernel
theorem d_R_init_184 : decode b_R_init 184 = .ok (.putfield 78, 3) := by decide +kernel
theorem d_R_init_187 : decode b_R_init 187 = .ok (.return_, 1) := by decide +kernel
theorem d_R_thrown_0 : decode b_R_thrown 0 = .ok (.aload_n 0, 1) := by decide +kernel
theorem d_R_thrown_1 : decode b_R_thrown 1 = .ok (.getfield 81, 3) := by decide +kernel
theorem d_R_thrown_4 : decode b_R_thrown 4 = .ok (.ireturn, 1) := by decide +kernel
theorem d_R_cycles_0 : decode b_R_cycles 0 = .ok (.aload_n 0, 1) := by decide +kernel
theorem d_R_cycles_1 : decode b_R_cycles 1 = .ok (.iload_n 1, 1) := by decide +kernel
theorem d_R_cycles_2 : decode b_R_cycles 2 = .ok (.iconst 1, 1) := by decide +kernel
theorem d_R_cycles_3 : decode b_R_cycles 3 = .ok (.if_icmp .lt 10, 3) := by decide +kernel
theorem d_R_cycles_6 : decode b_R_cycles 6 = .ok (.iload_n 1, 1) := by decide +kernel
theorem d_R_cycles_7 : decode b_R_cycles 7 = .ok (.sipush 200, 3) := by decide +kernel
theorem d_R_cycles_10 : decode b_R_cycles 10 = .ok (.if_icmp .le 7, 3) := by decide +kernel
theorem d_R_cycles_13 : decode b_R_cycles 13 = .ok (.iconst 1, 1) := by decide +kernel
theorem d_R_cycles_14 : decode b_R_cycles 14 = .ok (.goto 4, 3) := by decide +kernel
theorem d_R_cycles_17 : decode b_R_cycles 17 = .ok (.iconst 0, 1) := by decide +kernel
theorem d_R_cycles_18 : decode b_R_cycles 18 = .ok (.putfield 81, 3) := by decide +kernel
theorem d_R_cycles_21 : decode b_R_cycles 21 = .ok (.iconst 0, 1) := by decide +kernel
theorem d_R_cycles_22 : decode b_R_cycles 22 = .ok (.istore_n 2, 1) := by decide +kernel
theorem d_R_cycles_23 : decode b_R_cycles 23 = .ok (.iload_n 2, 1) := by decide +kernel
theorem d_R_cycles_24 : decode b_R_cycles 24 = .ok (.iload_n 1, 1) := by decide +kernel
theorem d_R_cycles_25 : decode b_R_cycles 25 = .ok (.if_icmp .ge 45, 3) := by decide +kernel
theorem d_R_cycles_28 : decode b_R_cycles 28 = .ok (.aload_n 0, 1) := by decide +kernel
theorem d_R_cycles_29 : decode b_R_cycles 29 = .ok (.getfield 81, 3) := by decide +kernel
theorem d_R_cycles_32 : decode b_R_cycles 32 = .ok (.ifCond .ne 38, 3) := by decide +kernel
theorem d_R_cycles_35 : decode b_R_cycles 35 = .ok (.aload_n 0, 1) := by decide +kernel
theorem d_R_cycles_36 : decode b_R_cycles 36 = .ok (.dup, 1) := by decide +kernel
theorem d_R_cycles_37 : decode b_R_cycles 37 = .ok (.getfield 195, 3) := by decide +kernel
theorem d_R_cycles_40 : decode b_R_cycles 40 = .ok (.iconst 1, 1) := by decide +kernel
theorem d_R_cycles_41 : decode b_R_cycles 41 = .ok (.iadd, 1) := by decide +kernel
theorem d_R_cycles_42 : decode b_R_cycles 42 = .ok (.putfield 195, 3) := by decide +kernel
theorem d_R_cycles_45 : decode b_R_cycles 45 = .ok (.aload_n 0, 1) := by decide +kernel
theorem d_R_cycles_46 : decode b_R_cycles 46 = .ok (.invokevirtual 198, 3) := by decide +kernel
theorem d_R_cycles_49 : decode b_R_cycles 49 = .ok (.aload_n 0, 1) := by decide +kernel
theorem d_R_cycles_50 : decode b_R_cycles 50 = .ok (.invokevirtual 201, 3) := by decide +kernel
theorem d_R_cycles_53 : decode b_R_cycles 53 = .ok (.aload_n 0, 1) := by decide +kernel
theorem d_R_cycles_54 : decode b_R_cycles 54 = .ok (.getfield 9, 3) := by decide +kernel
theorem d_R_cycles_57 : decode b_R_cycles 57 = .ok (.ifCond .ne 7, 3) := by decide +kernel
theorem d_R_cycles_60 : decode b_R_cycles 60 = .ok (.aload_n 0, 1) := by decide +kernel
theorem d_R_cycles_61 : decode b_R_cycles 61 = .ok (.invokevirtual 204, 3) := by decide +kernel
theorem d_R_cycles_64 : decode b_R_cycles 64 = .ok (.iinc 2 1, 3) := by decide +kernel
theorem d_R_cycles_67 : decode b_R_cycles 67 = .ok (.goto (-44), 3) := by decide +kernel
theorem d_R_cycles_70 : decode b_R_cycles 70 = .ok (.aload_n 0, 1) := by decide +kernel
theorem d_R_cycles_71 : decode b_R_cycles 71 = .ok (.getfield 195, 3) := by decide +kernel
theorem d_R_cycles_74 : decode b_R_cycles 74 = .ok (.ireturn, 1) := by decide +kernel
theorem d_R_units_0 : decode b_R_units 0 = .ok (.iconst 0, 1) := by decide +kernel
theorem d_R_units_1 : decode b_R_units 1 = .ok (.istore_n 1, 1) := by decide +kernel
theorem d_R_units_2 : decode b_R_units 2 = .ok (.iload_n 1, 1) := by decide +kernel
theorem d_R_units_3 : decode b_R_units 3 = .ok (.aload_n 0, 1) := by decide +kernel
theorem d_R_units_4 : decode b_R_units 4 = .ok (.getfield 146, 3) := by decide +kernel
theorem d_R_units_7 : decode b_R_units 7 = .ok (.if_icmp .ge 21, 3) := by decide +kernel
theorem d_R_units_10 : decode b_R_units 10 = .ok (.aload_n 0, 1) := by decide +kernel
theorem d_R_units_11 : decode b_R_units 11 = .ok (.getfield 69, 3) := by decide +kernel
theorem d_R_units_14 : decode b_R_units 14 = .ok (.iload_n 1, 1) := by decide +kernel
theorem d_R_units_15 : decode b_R_units 15 = .ok (.aload_n 0, 1) := by decide +kernel
theorem d_R_units_16 : decode b_R_units 16 = .ok (.getfield 66, 3) := by decide +kernel
theorem d_R_units_19 : decode b_R_units 19 = .ok (.iload_n 1, 1) := by decide +kernel
theorem d_R_units_20 : decode b_R_units 20 = .ok (.iaload, 1) := by decide +kernel
theorem d_R_units_21 : decode b_R_units 21 = .ok (.iastore, 1) := by decide +kernel
theorem d_R_units_22 : decode b_R_units 22 = .ok (.iinc 1 1, 3) := by decide +kernel
theorem d_R_units_25 : decode b_R_units 25 = .ok (.goto (-23), 3) := by decide +kernel
theorem d_R_units_28 : decode b_R_units 28 = .ok (.iconst 0, 1) := by decide +kernel
theorem d_R_units_29 : decode b_R_units 29 = .ok (.istore_n 1, 1) := by decide +kernel
theorem d_R_units_30 : decode b_R_units 30 = .ok (.iload_n 1, 1) := by decide +kernel
theorem d_R_units_31 : decode b_R_units 31 = .ok (.iconst 3, 1) := by decide +kernel
theorem d_R_units_32 : decode b_R_units 32 = .ok (.if_icmp .ge 139, 3) := by decide +kernel
theorem d_R_units_35 : decode b_R_units 35 = .ok (.iconst 0, 1) := by decide +kernel
theorem d_R_units_36 : decode b_R_units 36 = .ok (.istore_n 2, 1) := by decide +kernel
theorem d_R_units_37 : decode b_R_units 37 = .ok (.iload_n 2, 1) := by decide +kernel
theorem d_R_units_38 : decode b_R_units 38 = .ok (.aload_n 0, 1) := by decide +kernel
theorem d_R_units_39 : decode b_R_units 39 = .ok (.getfield 146, 3) := by decide +kernel
theorem d_R_units_42 : decode b_R_units 42 = .ok (.if_icmp .ge 27, 3) := by decide +kernel
theorem d_R_units_45 : decode b_R_units 45 = .ok (.aload_n 0, 1) := by decide +kernel
theorem d_R_units_46 : decode b_R_units 46 = .ok (.getfield 32, 3) := by decide +kernel
theorem d_R_units_49 : decode b_R_units 49 = .ok (.aload_n 0, 1) := by decide +kernel
theorem d_R_units_50 : decode b_R_units 50 = .ok (.getfield 51, 3) := by decide +kernel
theorem d_R_units_53 : decode b_R_units 53 = .ok (.iload_n 2, 1) := by decide +kernel
theorem d_R_units_54 : decode b_R_units 54 = .ok (.iaload, 1) := by decide +kernel
theorem d_R_units_55 : decode b_R_units 55 = .ok (.iaload, 1) := by decide +kernel
theorem d_R_units_56 : decode b_R_units 56 = .ok (.invokestatic 149, 3) := by decide +kernel
theorem d_R_units_59 : decode b_R_units 59 = .ok (.iload_n 1, 1) := by decide +kernel
theorem d_R_units_60 : decode b_R_units 60 = .ok (.if_icmp .eq 9, 3) := by decide +kernel
theorem d_R_units_63 : decode b_R_units 63 = .ok (.iinc 2 1, 3) := by decide +kernel
theorem d_R_units_66 : decode b_R_units 66 = .ok (.goto (-29), 3) := by decide +kernel
theorem d_R_units_69 : decode b_R_units 69 = .ok (.iload_n 2, 1) := by decide +kernel
theorem d_R_units_70 : decode b_R_units 70 = .ok (.aload_n 0, 1) := by decide +kernel
theorem d_R_units_71 : decode b_R_units 71 = .ok (.getfield 146, 3) := by decide +kernel
theorem d_R_units_74 : decode b_R_units 74 = .ok (.if_icmp .ge 7, 3) := by decide +kernel
theorem d_R_units_77 : decode b_R_units 77 = .ok (.iconst 1, 1) := by decide +kernel
theorem d_R_units_78 : decode b_R_units 78 = .ok (.goto 4, 3) := by decide +kernel
theorem d_R_units_81 : decode b_R_units 81 = .ok (.iconst 0, 1) := by decide +kernel
theorem d_R_units_82 : decode b_R_units 82 = .ok (.istore_n 3, 1) := by decide +kernel
theorem d_R_units_83 : decode b_R_units 83 = .ok (.iconst 0, 1) := by decide +kernel
theorem d_R_units_84 : decode b_R_units 84 = .ok (.istore 4, 2) := by decide +kernel
theorem d_R_units_86 : decode b_R_units 86 = .ok (.iload 4, 2) := by decide +kernel
theorem d_R_units_88 : decode b_R_units 88 = .ok (.aload_n 0, 1) := by decide +kernel
theorem d_R_units_89 : decode b_R_units 89 = .ok (.getfield 78, 3) := by decide +kernel
theorem d_R_units_92 : decode b_R_units 92 = .ok (.if_icmp .ge 73, 3) := by decide +kernel
theorem d_R_units_95 : decode b_R_units 95 = .ok (.iload_n 3, 1) := by decide +kernel
theorem d_R_units_96 : decode b_R_units 96 = .ok (.ifCond .eq 69, 3) := by decide +kernel
theorem d_R_units_99 : decode b_R_units 99 = .ok (.aload_n 0, 1) := by decide +kernel
theorem d_R_units_100 : decode b_R_units 100 = .ok (.getfield 66, 3) := by decide +kernel
theorem d_R_units_103 : decode b_R_units 103 = .ok (.iload_n 2, 1) := by decide +kernel
theorem d_R_units_104 : decode b_R_units 104 = .ok (.iaload, 1) := by decide +kernel
theorem d_R_units_105 : decode b_R_units 105 = .ok (.aload_n 0, 1) := by decide +kernel
theorem d_R_units_106 : decode b_R_units 106 = .ok (.getfield 63, 3) := by decide +kernel
theorem d_R_units_109 : decode b_R_units 109 = .ok (.iload_n 2, 1) := by decide +kernel
theorem d_R_units_110 : decode b_R_units 110 = .ok (.iaload, 1) := by decide +kernel
theorem d_R_units_111 : decode b_R_units 111 = .ok (.if_icmp .ge 21, 3) := by decide +kernel
theorem d_R_units_114 : decode b_R_units 114 = .ok (.aload_n 0, 1) := by decide +kernel
theorem d_R_units_115 : decode b_R_units 115 = .ok (.iload_n 2, 1) := by decide +kernel
theorem d_R_units_116 : decode b_R_units 116 = .ok (.aload_n 0, 1) := by decide +kernel
theorem d_R_units_117 : decode b_R_units 117 = .ok (.getfield 66, 3) := by decide +kernel
theorem d_R_units_120 : decode b_R_units 120 = .ok (.iload_n 2, 1) := by decide +kernel
theorem d_R_units_121 : decode b_R_units 121 = .ok (.iaload, 1) := by decide +kernel
theorem d_R_units_122 : decode b_R_units 122 = .ok (.invokevirtual 152, 3) := by decide +kernel
theorem d_R_units_125 : decode b_R_units 125 = .ok (.ifCond .eq 7, 3) := by decide +kernel
theorem d_R_units_128 : decode b_R_units 128 = .ok (.iconst 1, 1) := by decide +kernel
theorem d_R_units_129 : decode b_R_units 129 = .ok (.goto 4, 3) := by decide +kernel
theorem d_R_units_132 : decode b_R_units 132 = .ok (.iconst 0, 1) := by decide +kernel
theorem d_R_units_133 : decode b_R_units 133 = .ok (.istore_n 3, 1) := by decide +kernel
theorem d_R_units_134 : decode b_R_units 134 = .ok (.iload_n 3, 1) := by decide +kernel
theorem d_R_units_135 : decode b_R_units 135 = .ok (.ifCond .eq 24, 3) := by decide +kernel
theorem d_R_units_138 : decode b_R_units 138 = .ok (.aload_n 0, 1) := by decide +kernel
theorem d_R_units_139 : decode b_R_units 139 = .ok (.iload_n 2, 1) := by decide +kernel
theorem d_R_units_140 : decode b_R_units 140 = .ok (.aload_n 0, 1) := by decide +kernel
theorem d_R_units_141 : decode b_R_units 141 = .ok (.getfield 66, 3) := by decide +kernel
theorem d_R_units_144 : decode b_R_units 144 = .ok (.iload_n 2, 1) := by decide +kernel
theorem d_R_units_145 : decode b_R_units 145 = .ok (.iaload, 1) := by decide +kernel
theorem d_R_units_146 : decode b_R_units 146 = .ok (.invokevirtual 155, 3) := by decide +kernel
theorem d_R_units_149 : decode b_R_units 149 = .ok (.aload_n 0, 1) := by decide +kernel
theorem d_R_units_150 : decode b_R_units 150 = .ok (.getfield 66, 3) := by decide +kernel
theorem d_R_units_153 : decode b_R_units 153 = .ok (.iload_n 2, 1) := by decide +kernel
theorem d_R_units_154 : decode b_R_units 154 = .ok (.dup2, 1) := by decide +kernel
theorem d_R_units_155 : decode b_R_units 155 = .ok (.iaload, 1) := by decide +kernel
theorem d_R_units_156 : decode b_R_units 156 = .ok (.iconst 1, 1) := by decide +kernel
theorem d_R_units_157 : decode b_R_units 157 = .ok (.iadd, 1) := by decide +kernel
theorem d_R_units_158 : decode b_R_units 158 = .ok (.iastore, 1) := by decide +kernel
theorem d_R_units_159 : decode b_R_units 159 = .ok (.iinc 4 1, 3) := by decide +kernel
theorem d_R_units_162 : decode b_R_units 162 = .ok (.goto (-76), 3) := by decide +kernel
theorem d_R_units_165 : decode b_R_units 165 = .ok (.iinc 1 1, 3) := by decide +kernel
theorem d_R_units_168 : decode b_R_units 168 = .ok (.goto (-138), 3) := by decide +kernel
theorem d_R_units_171 : decode b_R_units 171 = .ok (.return_, 1) := by decide +kernel
theorem d_R_unit_0 : decode b_R_unit 0 = .ok (.iload_n 0, 1) := by decide +kernel
theorem d_R_unit_1 : decode b_R_unit 1 = .ok (.bipush 17, 2) := by decide +kernel
theorem d_R_unit_3 : decode b_R_unit 3 = .ok (.if_icmp .lt 7, 3) := by decide +kernel
theorem d_R_unit_6 : decode b_R_unit 6 = .ok (.iconst 2, 1) := by decide +kernel
theorem d_R_unit_7 : decode b_R_unit 7 = .ok (.goto 20, 3) := by decide +kernel
theorem d_R_unit_10 : decode b_R_unit 10 = .ok (.iload_n 0, 1) := by decide +kernel
theorem d_R_unit_11 : decode b_R_unit 11 = .ok (.bipush 10, 2) := by decide +kernel
theorem d_R_unit_13 : decode b_R_unit 13 = .ok (.if_icmp .eq 9, 3) := by decide +kernel
theorem d_R_unit_16 : decode b_R_unit 16 = .ok (.iload_n 0, 1) := by decide +kernel
theorem d_R_unit_17 : decode b_R_unit 17 = .ok (.bipush 14, 2) := by decide +kernel
theorem d_R_unit_19 : decode b_R_unit 19 = .ok (.if_icmp .lt 7, 3) := by decide +kernel
theorem d_R_unit_22 : decode b_R_unit 22 = .ok (.iconst 1, 1) := by decide +kernel
theorem d_R_unit_23 : decode b_R_unit 23 = .ok (.goto 4, 3) := by decide +kernel
theorem d_R_unit_26 : decode b_R_unit 26 = .ok (.iconst 0, 1) := by decide +kernel
theorem d_R_unit_27 : decode b_R_unit 27 = .ok (.ireturn, 1) := by decide +kernel
theorem d_R_free_0 : decode b_R_free 0 = .ok (.aload_n 0, 1) := by decide +kernel
theorem d_R_free_1 : decode b_R_free 1 = .ok (.iload_n 1, 1) := by decide +kernel
theorem d_R_free_2 : decode b_R_free 2 = .ok (.iload_n 2, 1) := by decide +kernel
theorem d_R_free_3 : decode b_R_free 3 = .ok (.invokevirtual 104, 3) := by decide +kernel
theorem d_R_free_6 : decode b_R_free 6 = .ok (.lstore_n 3, 1) := by decide +kernel
theorem d_R_free_7 : decode b_R_free 7 = .ok (.aload_n 0, 1) := by decide +kernel
theorem d_R_free_8 : decode b_R_free 8 = .ok (.iload_n 1, 1) := by decide +kernel
theorem d_R_free_9 : decode b_R_free 9 = .ok (.iload_n 2, 1) := by decide +kernel
theorem d_R_free_10 : decode b_R_free 10 = .ok (.invokevirtual 107, 3) := by decide +kernel
theorem d_R_free_13 : decode b_R_free 13 = .ok (.lstore 5, 2) := by decide +kernel
theorem d_R_free_15 : decode b_R_free 15 = .ok (.iconst 1, 1) := by decide +kernel
theorem d_R_free_16 : decode b_R_free 16 = .ok (.istore 7, 2) := by decide +kernel
theorem d_R_free_18 : decode b_R_free 18 = .ok (.iconst 0, 1) := by decide +kernel
theorem d_R_free_19 : decode b_R_free 19 = .ok (.istore 8, 2) := by decide +kernel
theorem d_R_free_21 : decode b_R_free 21 = .ok (.iload 8, 2) := by decide +kernel
theorem d_R_free_23 : decode b_R_free 23 = .ok (.iload_n 1, 1) := by decide +kernel
theorem d_R_free_24 : decode b_R_free 24 = .ok (.if_icmp .ge 82, 3) := by decide +kernel
theorem d_R_free_27 : decode b_R_free 27 = .ok (.aload_n 0, 1) := by decide +kernel
theorem d_R_free_28 : decode b_R_free 28 = .ok (.getfield 69, 3) := by decide +kernel
theorem d_R_free_31 : decode b_R_free 31 = .ok (.iload 8, 2) := by decide +kernel
theorem d_R_free_33 : decode b_R_free 33 = .ok (.iaload, 1) := by decide +kernel
theorem d_R_free_34 : decode b_R_free 34 = .ok (.istore 9, 2) := by decide +kernel
theorem d_R_free_36 : decode b_R_free 36 = .ok (.iload 9, 2) := by decide +kernel
theorem d_R_free_38 : decode b_R_free 38 = .ok (.aload_n 0, 1) := by decide +kernel
theorem d_R_free_39 : decode b_R_free 39 = .ok (.getfield 63, 3) := by decide +kernel
theorem d_R_free_42 : decode b_R_free 42 = .ok (.iload 8, 2) := by decide +kernel
theorem d_R_free_44 : decode b_R_free 44 = .ok (.iaload, 1) := by decide +kernel
theorem d_R_free_45 : decode b_R_free 45 = .ok (.if_icmp .ge 55, 3) := by decide +kernel
theorem d_R_free_48 : decode b_R_free 48 = .ok (.iload 7, 2) := by decide +kernel
theorem d_R_free_50 : decode b_R_free 50 = .ok (.ifCond .eq 41, 3) := by decide +kernel
theorem d_R_free_53 : decode b_R_free 53 = .ok (.aload_n 0, 1) := by decide +kernel
theorem d_R_free_54 : decode b_R_free 54 = .ok (.iload 8, 2) := by decide +kernel
theorem d_R_free_56 : decode b_R_free 56 = .ok (.iload 9, 2) := by decide +kernel
theorem d_R_free_58 : decode b_R_free 58 = .ok (.invokevirtual 107, 3) := by decide +kernel
theorem d_R_free_61 : decode b_R_free 61 = .ok (.lload_n 3, 1) := by decide +kernel
theorem d_R_free_62 : decode b_R_free 62 = .ok (.lload 5, 2) := by decide +kernel
theorem d_R_free_64 : decode b_R_free 64 = .ok (.lor, 1) := by decide +kernel
theorem d_R_free_65 : decode b_R_free 65 = .ok (.land, 1) := by decide +kernel
theorem d_R_free_66 : decode b_R_free 66 = .ok (.lconst 0, 1) := by decide +kernel
theorem d_R_free_67 : decode b_R_free 67 = .ok (.lcmp, 1) := by decide +kernel
theorem d_R_free_68 : decode b_R_free 68 = .ok (.ifCond .ne 23, 3) := by decide +kernel
theorem d_R_free_71 : decode b_R_free 71 = .ok (.aload_n 0, 1) := by decide +kernel
theorem d_R_free_72 : decode b_R_free 72 = .ok (.iload 8, 2) := by decide +kernel
theorem d_R_free_74 : decode b_R_free 74 = .ok (.iload 9, 2) := by decide +kernel
theorem d_R_free_76 : decode b_R_free 76 = .ok (.invokevirtual 104, 3) := by decide +kernel
theorem d_R_free_79 : decode b_R_free 79 = .ok (.lload 5, 2) := by decide +kernel
theorem d_R_free_81 : decode b_R_free 81 = .ok (.land, 1) := by decide +kernel
theorem d_R_free_82 : decode b_R_free 82 = .ok (.lconst 0, 1) := by decide +kernel
theorem d_R_free_83 : decode b_R_free 83 = .ok (.lcmp, 1) := by decide +kernel
theorem d_R_free_84 : decode b_R_free 84 = .ok (.ifCond .ne 7, 3) := by decide +kernel
theorem d_R_free_87 : decode b_R_free 87 = .ok (.iconst 1, 1) := by decide +kernel
theorem d_R_free_88 : decode b_R_free 88 = .ok (.goto 4, 3) := by decide +kernel
theorem d_R_free_91 : decode b_R_free 91 = .ok (.iconst 0, 1) := by decide +kernel
theorem d_R_free_92 : decode b_R_free 92 = .ok (.istore 7, 2) := by decide +kernel
theorem d_R_free_94 : decode b_R_free 94 = .ok (.iinc 9 1, 3) := by decide +kernel
theorem d_R_free_97 : decode b_R_free 97 = .ok (.goto (-61), 3) := by decide +kernel
theorem d_R_free_100 : decode b_R_free 100 = .ok (.iinc 8 1, 3) := by decide +kernel
theorem d_R_free_103 : decode b_R_free 103 = .ok (.goto (-82), 3) := by decide +kernel
theorem d_R_free_106 : decode b_R_free 106 = .ok (.iload 7, 2) := by decide +kernel
theorem d_R_free_108 : decode b_R_free 108 = .ok (.ireturn, 1) := by decide +kernel
theorem d_R_reads_0 : decode b_R_reads 0 = .ok (.aload_n 0, 1) := by decide +kernel
theorem d_R_reads_1 : decode b_R_reads 1 = .ok (.getfield 51, 3) := by decide +kernel
theorem d_R_reads_4 : decode b_R_reads 4 = .ok (.iload_n 1, 1) := by decide +kernel
theorem d_R_reads_5 : decode b_R_reads 5 = .ok (.iaload, 1) := by decide +kernel
theorem d_R_reads_6 : decode b_R_reads 6 = .ok (.istore_n 3, 1) := by decide +kernel
theorem d_R_reads_7 : decode b_R_reads 7 = .ok (.aload_n 0, 1) := by decide +kernel
theorem d_R_reads_8 : decode b_R_reads 8 = .ok (.getfield 54, 3) := by decide +kernel
theorem d_R_reads_11 : decode b_R_reads 11 = .ok (.iload_n 1, 1) := by decide +kernel
theorem d_R_reads_12 : decode b_R_reads 12 = .ok (.iaload, 1) := by decide +kernel
theorem d_R_reads_13 : decode b_R_reads 13 = .ok (.istore 4, 2) := by decide +kernel
theorem d_R_reads_15 : decode b_R_reads 15 = .ok (.aload_n 0, 1) := by decide +kernel
theorem d_R_reads_16 : decode b_R_reads 16 = .ok (.getfield 60, 3) := by decide +kernel
theorem d_R_reads_19 : decode b_R_reads 19 = .ok (.iload_n 1, 1) := by decide +kernel
theorem d_R_reads_20 : decode b_R_reads 20 = .ok (.iaload, 1) := by decide +kernel
theorem d_R_reads_21 : decode b_R_reads 21 = .ok (.iload_n 2, 1) := by decide +kernel
theorem d_R_reads_22 : decode b_R_reads 22 = .ok (.iadd, 1) := by decide +kernel
theorem d_R_reads_23 : decode b_R_reads 23 = .ok (.istore 5, 2) := by decide +kernel
theorem d_R_reads_25 : decode b_R_reads 25 = .ok (.aload_n 0, 1) := by decide +kernel
theorem d_R_reads_26 : decode b_R_reads 26 = .ok (.getfield 32, 3) := by decide +kernel
theorem d_R_reads_29 : decode b_R_reads 29 = .ok (.iload_n 3, 1) := by decide +kernel
theorem d_R_reads_30 : decode b_R_reads 30 = .ok (.iaload, 1) := by decide +kernel
theorem d_R_reads_31 : decode b_R_reads 31 = .ok (.istore 6, 2) := by decide +kernel
theorem d_R_reads_33 : decode b_R_reads 33 = .ok (.lconst 0, 1) := by decide +kernel
theorem d_R_reads_34 : decode b_R_reads 34 = .ok (.lstore 7, 2) := by decide +kernel
theorem d_R_reads_36 : decode b_R_reads 36 = .ok (.iload 6, 2) := by decide +kernel
theorem d_R_reads_38 : decode b_R_reads 38 = .ok (.bipush 14, 2) := by decide +kernel
theorem d_R_reads_40 : decode b_R_reads 40 = .ok (.if_icmp .ne 119, 3) := by decide +kernel
theorem d_R_reads_43 : decode b_R_reads 43 = .ok (.aload_n 0, 1) := by decide +kernel
theorem d_R_reads_44 : decode b_R_reads 44 = .ok (.iload_n 1, 1) := by decide +kernel
theorem d_R_reads_45 : decode b_R_reads 45 = .ok (.invokevirtual 96, 3) := by decide +kernel
theorem d_R_reads_48 : decode b_R_reads 48 = .ok (.aload_n 0, 1) := by decide +kernel
theorem d_R_reads_49 : decode b_R_reads 49 = .ok (.getfield 60, 3) := by decide +kernel
theorem d_R_reads_52 : decode b_R_reads 52 = .ok (.iload_n 1, 1) := by decide +kernel
theorem d_R_reads_53 : decode b_R_reads 53 = .ok (.iaload, 1) := by decide +kernel
theorem d_R_reads_54 : decode b_R_reads 54 = .ok (.isub, 1) := by decide +kernel
theorem d_R_reads_55 : decode b_R_reads 55 = .ok (.istore 9, 2) := by decide +kernel
theorem d_R_reads_57 : decode b_R_reads 57 = .ok (.bipush 8, 2) := by decide +kernel
theorem d_R_reads_59 : decode b_R_reads 59 = .ok (.aload_n 0, 1) := by decide +kernel
theorem d_R_reads_60 : decode b_R_reads 60 = .ok (.getfield 41, 3) := by decide +kernel
theorem d_R_reads_63 : decode b_R_reads 63 = .ok (.iload_n 3, 1) := by decide +kernel
theorem d_R_reads_64 : decode b_R_reads 64 = .ok (.iaload, 1) := by decide +kernel
theorem d_R_reads_65 : decode b_R_reads 65 = .ok (.imul, 1) := by decide +kernel
theorem d_R_reads_66 : decode b_R_reads 66 = .ok (.iload 4, 2) := by decide +kernel
theorem d_R_reads_68 : decode b_R_reads 68 = .ok (.invokestatic 100, 3) := by decide +kernel
theorem d_R_reads_71 : decode b_R_reads 71 = .ok (.lstore 7, 2) := by decide +kernel
theorem d_R_reads_73 : decode b_R_reads 73 = .ok (.iconst 0, 1) := by decide +kernel
theorem d_R_reads_74 : decode b_R_reads 74 = .ok (.istore 10, 2) := by decide +kernel
theorem d_R_reads_76 : decode b_R_reads 76 = .ok (.iload 10, 2) := by decide +kernel
theorem d_R_reads_78 : decode b_R_reads 78 = .ok (.iload 9, 2) := by decide +kernel
theorem d_R_reads_80 : decode b_R_reads 80 = .ok (.if_icmp .ge 76, 3) := by decide +kernel
theorem d_R_reads_83 : decode b_R_reads 83 = .ok (.lload 7, 2) := by decide +kernel
theorem d_R_reads_85 : decode b_R_reads 85 = .ok (.bipush 8, 2) := by decide +kernel
theorem d_R_reads_87 : decode b_R_reads 87 = .ok (.aload_n 0, 1) := by decide +kernel
theorem d_R_reads_88 : decode b_R_reads 88 = .ok (.getfield 38, 3) := by decide +kernel
theorem d_R_reads_91 : decode b_R_reads 91 = .ok (.iload_n 3, 1) := by decide +kernel
theorem d_R_reads_92 : decode b_R_reads 92 = .ok (.iaload, 1) := by decide +kernel
theorem d_R_reads_93 : decode b_R_reads 93 = .ok (.imul, 1) := by decide +kernel
theorem d_R_reads_94 : decode b_R_reads 94 = .ok (.aload_n 0, 1) := by decide +kernel
theorem d_R_reads_95 : decode b_R_reads 95 = .ok (.getfield 60, 3) := by decide +kernel
theorem d_R_reads_98 : decode b_R_reads 98 = .ok (.iload_n 1, 1) := by decide +kernel
theorem d_R_reads_99 : decode b_R_reads 99 = .ok (.iaload, 1) := by decide +kernel
theorem d_R_reads_100 : decode b_R_reads 100 = .ok (.iload 10, 2) := by decide +kernel
theorem d_R_reads_102 : decode b_R_reads 102 = .ok (.iadd, 1) := by decide +kernel
theorem d_R_reads_103 : decode b_R_reads 103 = .ok (.iload 4, 2) := by decide +kernel
theorem d_R_reads_105 : decode b_R_reads 105 = .ok (.imul, 1) := by decide +kernel
theorem d_R_reads_106 : decode b_R_reads 106 = .ok (.iadd, 1) := by decide +kernel
theorem d_R_reads_107 : decode b_R_reads 107 = .ok (.iload 4, 2) := by decide +kernel
theorem d_R_reads_109 : decode b_R_reads 109 = .ok (.invokestatic 100, 3) := by decide +kernel
theorem d_R_reads_112 : decode b_R_reads 112 = .ok (.lor, 1) := by decide +kernel
theorem d_R_reads_113 : decode b_R_reads 113 = .ok (.lstore 7, 2) := by decide +kernel
theorem d_R_reads_115 : decode b_R_reads 115 = .ok (.aload_n 0, 1) := by decide +kernel
theorem d_R_reads_116 : decode b_R_reads 116 = .ok (.getfield 47, 3) := by decide +kernel
theorem d_R_reads_119 : decode b_R_reads 119 = .ok (.iload_n 3, 1) := by decide +kernel
theorem d_R_reads_120 : decode b_R_reads 120 = .ok (.baload, 1) := by decide +kernel
theorem d_R_reads_121 : decode b_R_reads 121 = .ok (.ifCond .eq 25, 3) := by decide +kernel
theorem d_R_reads_124 : decode b_R_reads 124 = .ok (.lload 7, 2) := by decide +kernel
theorem d_R_reads_126 : decode b_R_reads 126 = .ok (.aload_n 0, 1) := by decide +kernel
theorem d_R_reads_127 : decode b_R_reads 127 = .ok (.getfield 60, 3) := by decide +kernel
theorem d_R_reads_130 : decode b_R_reads 130 = .ok (.iload_n 1, 1) := by decide +kernel
theorem d_R_reads_131 : decode b_R_reads 131 = .ok (.iaload, 1) := by decide +kernel
theorem d_R_reads_132 : decode b_R_reads 132 = .ok (.iload 10, 2) := by decide +kernel
theorem d_R_reads_134 : decode b_R_reads 134 = .ok (.iadd, 1) := by decide +kernel
theorem d_R_reads_135 : decode b_R_reads 135 = .ok (.bipush 8, 2) := by decide +kernel
theorem d_R_reads_137 : decode b_R_reads 137 = .ok (.idiv, 1) := by decide +kernel
theorem d_R_reads_138 : decode b_R_reads 138 = .ok (.iconst 1, 1) := by decide +kernel
theorem d_R_reads_139 : decode b_R_reads 139 = .ok (.invokestatic 100, 3) := by decide +kernel
theorem d_R_reads_142 : decode b_R_reads 142 = .ok (.lor, 1) := by decide +kernel
theorem d_R_reads_143 : decode b_R_reads 143 = .ok (.goto 5, 3) := by decide +kernel
theorem d_R_reads_146 : decode b_R_reads 146 = .ok (.lload 7, 2) := by decide +kernel
theorem d_R_reads_148 : decode b_R_reads 148 = .ok (.lstore 7, 2) := by decide +kernel
theorem d_R_reads_150 : decode b_R_reads 150 = .ok (.iinc 10 1, 3) := by decide +kernel
theorem d_R_reads_153 : decode b_R_reads 153 = .ok (.goto (-77), 3) := by decide +kernel
theorem d_R_reads_156 : decode b_R_reads 156 = .ok (.lload 7, 2) := by decide +kernel
theorem d_R_reads_158 : decode b_R_reads 158 = .ok (.lreturn, 1) := by decide +kernel
theorem d_R_reads_159 : decode b_R_reads 159 = .ok (.iload 6, 2) := by decide +kernel
theorem d_R_reads_161 : decode b_R_reads 161 = .ok (.bipush 11, 2) := by decide +kernel
theorem d_R_reads_163 : decode b_R_reads 163 = .ok (.if_icmp .le 17, 3) := by decide +kernel
theorem d_R_reads_166 : decode b_R_reads 166 = .ok (.iload 6, 2) := by decide +kernel
theorem d_R_reads_168 : decode b_R_reads 168 = .ok (.bipush 12, 2) := by decide +kernel
theorem d_R_reads_170 : decode b_R_reads 170 = .ok (.if_icmp .eq 10, 3) := by decide +kernel
theorem d_R_reads_173 : decode b_R_reads 173 = .ok (.iload 6, 2) := by decide +kernel
theorem d_R_reads_175 : decode b_R_reads 175 = .ok (.bipush 13, 2) := by decide +kernel
theorem d_R_reads_177 : decode b_R_reads 177 = .ok (.if_icmp .ne 65, 3) := by decide +kernel
theorem d_R_reads_180 : decode b_R_reads 180 = .ok (.bipush 8, 2) := by decide +kernel
theorem d_R_reads_182 : decode b_R_reads 182 = .ok (.aload_n 0, 1) := by decide +kernel
theorem d_R_reads_183 : decode b_R_reads 183 = .ok (.getfield 38, 3) := by decide +kernel
theorem d_R_reads_186 : decode b_R_reads 186 = .ok (.iload_n 3, 1) := by decide +kernel
theorem d_R_reads_187 : decode b_R_reads 187 = .ok (.iaload, 1) := by decide +kernel
theorem d_R_reads_188 : decode b_R_reads 188 = .ok (.imul, 1) := by decide +kernel
theorem d_R_reads_189 : decode b_R_reads 189 = .ok (.iload 5, 2) := by decide +kernel
theorem d_R_reads_191 : decode b_R_reads 191 = .ok (.iload 4, 2) := by decide +kernel
theorem d_R_reads_193 : decode b_R_reads 193 = .ok (.imul, 1) := by decide +kernel
theorem d_R_reads_194 : decode b_R_reads 194 = .ok (.iadd, 1) := by decide +kernel
theorem d_R_reads_195 : decode b_R_reads 195 = .ok (.iload 4, 2) := by decide +kernel
theorem d_R_reads_197 : decode b_R_reads 197 = .ok (.invokestatic 100, 3) := by decide +kernel
theorem d_R_reads_200 : decode b_R_reads 200 = .ok (.lstore 7, 2) := by decide +kernel
theorem d_R_reads_202 : decode b_R_reads 202 = .ok (.iload 6, 2) := by decide +kernel
theorem d_R_reads_204 : decode b_R_reads 204 = .ok (.bipush 11, 2) := by decide +kernel
theorem d_R_reads_206 : decode b_R_reads 206 = .ok (.if_icmp .ne 8, 3) := by decide +kernel
theorem d_R_reads_209 : decode b_R_reads 209 = .ok (.lload 7, 2) := by decide +kernel
theorem d_R_reads_211 : decode b_R_reads 211 = .ok (.goto 26, 3) := by decide +kernel
theorem d_R_reads_214 : decode b_R_reads 214 = .ok (.lload 7, 2) := by decide +kernel
theorem d_R_reads_216 : decode b_R_reads 216 = .ok (.bipush 8, 2) := by decide +kernel
theorem d_R_reads_218 : decode b_R_reads 218 = .ok (.aload_n 0, 1) := by decide +kernel
theorem d_R_reads_219 : decode b_R_reads 219 = .ok (.getfield 41, 3) := by decide +kernel
theorem d_R_reads_222 : decode b_R_reads 222 = .ok (.iload_n 3, 1) := by decide +kernel
theorem d_R_reads_223 : decode b_R_reads 223 = .ok (.iaload, 1) := by decide +kernel
theorem d_R_reads_224 : decode b_R_reads 224 = .ok (.imul, 1) := by decide +kernel
theorem d_R_reads_225 : decode b_R_reads 225 = .ok (.iload 5, 2) := by decide +kernel
theorem d_R_reads_227 : decode b_R_reads 227 = .ok (.iload 4, 2) := by decide +kernel
theorem d_R_reads_229 : decode b_R_reads 229 = .ok (.imul, 1) := by decide +kernel
theorem d_R_reads_230 : decode b_R_reads 230 = .ok (.iadd, 1) := by decide +kernel
theorem d_R_reads_231 : decode b_R_reads 231 = .ok (.iload 4, 2) := by decide +kernel
theorem d_R_reads_233 : decode b_R_reads 233 = .ok (.invokestatic 100, 3) := by decide +kernel
theorem d_R_reads_236 : decode b_R_reads 236 = .ok (.lor, 1) := by decide +kernel
theorem d_R_reads_237 : decode b_R_reads 237 = .ok (.lstore 7, 2) := by decide +kernel
theorem d_R_reads_239 : decode b_R_reads 239 = .ok (.goto 212, 3) := by decide +kernel
theorem d_R_reads_242 : decode b_R_reads 242 = .ok (.iload 6, 2) := by decide +kernel
theorem d_R_reads_244 : decode b_R_reads 244 = .ok (.bipush 15, 2) := by decide +kernel
theorem d_R_reads_246 : decode b_R_reads 246 = .ok (.if_icmp .ne 65, 3) := by decide +kernel
theorem d_R_reads_249 : decode b_R_reads 249 = .ok (.iload 5, 2) := by decide +kernel
theorem d_R_reads_251 : decode b_R_reads 251 = .ok (.aload_n 0, 1) := by decide +kernel
theorem d_R_reads_252 : decode b_R_reads 252 = .ok (.getfield 75, 3) := by decide +kernel
theorem d_R_reads_255 : decode b_R_reads 255 = .ok (.iload_n 1, 1) := by decide +kernel
theorem d_R_reads_256 : decode b_R_reads 256 = .ok (.iaload, 1) := by decide +kernel
theorem d_R_reads_257 : decode b_R_reads 257 = .ok (.iadd, 1) := by decide +kernel
theorem d_R_reads_258 : decode b_R_reads 258 = .ok (.istore 9, 2) := by decide +kernel
theorem d_R_reads_260 : decode b_R_reads 260 = .ok (.iload 9, 2) := by decide +kernel
theorem d_R_reads_262 : decode b_R_reads 262 = .ok (.ifCond .lt 43, 3) := by decide +kernel
theorem d_R_reads_265 : decode b_R_reads 265 = .ok (.iload 9, 2) := by decide +kernel
theorem d_R_reads_267 : decode b_R_reads 267 = .ok (.bipush 8, 2) := by decide +kernel
theorem d_R_reads_269 : decode b_R_reads 269 = .ok (.aload_n 0, 1) := by decide +kernel
theorem d_R_reads_270 : decode b_R_reads 270 = .ok (.getfield 57, 3) := by decide +kernel
theorem d_R_reads_273 : decode b_R_reads 273 = .ok (.iload_n 1, 1) := by decide +kernel
theorem d_R_reads_274 : decode b_R_reads 274 = .ok (.iaload, 1) := by decide +kernel
theorem d_R_reads_275 : decode b_R_reads 275 = .ok (.imul, 1) := by decide +kernel
theorem d_R_reads_276 : decode b_R_reads 276 = .ok (.iload 4, 2) := by decide +kernel
theorem d_R_reads_278 : decode b_R_reads 278 = .ok (.idiv, 1) := by decide +kernel
theorem d_R_reads_279 : decode b_R_reads 279 = .ok (.if_icmp .ge 26, 3) := by decide +kernel
theorem d_R_reads_282 : decode b_R_reads 282 = .ok (.bipush 8, 2) := by decide +kernel
theorem d_R_reads_284 : decode b_R_reads 284 = .ok (.aload_n 0, 1) := by decide +kernel
theorem d_R_reads_285 : decode b_R_reads 285 = .ok (.getfield 38, 3) := by decide +kernel
theorem d_R_reads_288 : decode b_R_reads 288 = .ok (.iload_n 3, 1) := by decide +kernel
theorem d_R_reads_289 : decode b_R_reads 289 = .ok (.iaload, 1) := by decide +kernel
theorem d_R_reads_290 : decode b_R_reads 290 = .ok (.imul, 1) := by decide +kernel
theorem d_R_reads_291 : decode b_R_reads 291 = .ok (.iload 9, 2) := by decide +kernel
theorem d_R_reads_293 : decode b_R_reads 293 = .ok (.iload 4, 2) := by decide +kernel
theorem d_R_reads_295 : decode b_R_reads 295 = .ok (.imul, 1) := by decide +kernel
theorem d_R_reads_296 : decode b_R_reads 296 = .ok (.iadd, 1) := by decide +kernel
theorem d_R_reads_297 : decode b_R_reads 297 = .ok (.iload 4, 2) := by decide +kernel
theorem d_R_reads_299 : decode b_R_reads 299 = .ok (.invokestatic 100, 3) := by decide +kernel
theorem d_R_reads_302 : decode b_R_reads 302 = .ok (.goto 4, 3) := by decide +kernel
theorem d_R_reads_305 : decode b_R_reads 305 = .ok (.lconst 0, 1) := by decide +kernel
theorem d_R_reads_306 : decode b_R_reads 306 = .ok (.lstore 7, 2) := by decide +kernel
theorem d_R_reads_308 : decode b_R_reads 308 = .ok (.goto 143, 3) := by decide +kernel
theorem d_R_reads_311 : decode b_R_reads 311 = .ok (.iload 6, 2) := by decide +kernel
theorem d_R_reads_313 : decode b_R_reads 313 = .ok (.bipush 16, 2) := by decide +kernel
theorem d_R_reads_315 : decode b_R_reads 315 = .ok (.if_icmp .ne 75, 3) := by decide +kernel
theorem d_R_reads_318 : decode b_R_reads 318 = .ok (.iconst 0, 1) := by decide +kernel
theorem d_R_reads_319 : decode b_R_reads 319 = .ok (.istore 9, 2) := by decide +kernel
theorem d_R_reads_321 : decode b_R_reads 321 = .ok (.iload 9, 2) := by decide +kernel
theorem d_R_reads_323 : decode b_R_reads 323 = .ok (.bipush 8, 2) := by decide +kernel
theorem d_R_reads_325 : decode b_R_reads 325 = .ok (.aload_n 0, 1) := by decide +kernel
theorem d_R_reads_326 : decode b_R_reads 326 = .ok (.getfield 57, 3) := by decide +kernel
theorem d_R_reads_329 : decode b_R_reads 329 = .ok (.iload_n 1, 1) := by decide +kernel
theorem d_R_reads_330 : decode b_R_reads 330 = .ok (.iaload, 1) := by decide +kernel
theorem d_R_reads_331 : decode b_R_reads 331 = .ok (.imul, 1) := by decide +kernel
theorem d_R_reads_332 : decode b_R_reads 332 = .ok (.if_icmp .ge 30, 3) := by decide +kernel
theorem d_R_reads_335 : decode b_R_reads 335 = .ok (.lload 7, 2) := by decide +kernel
theorem d_R_reads_337 : decode b_R_reads 337 = .ok (.bipush 8, 2) := by decide +kernel
theorem d_R_reads_339 : decode b_R_reads 339 = .ok (.aload_n 0, 1) := by decide +kernel
theorem d_R_reads_340 : decode b_R_reads 340 = .ok (.getfield 38, 3) := by decide +kernel
theorem d_R_reads_343 : decode b_R_reads 343 = .ok (.iload_n 3, 1) := by decide +kernel
theorem d_R_reads_344 : decode b_R_reads 344 = .ok (.iaload, 1) := by decide +kernel
theorem d_R_reads_345 : decode b_R_reads 345 = .ok (.imul, 1) := by decide +kernel
theorem d_R_reads_346 : decode b_R_reads 346 = .ok (.iload 9, 2) := by decide +kernel
theorem d_R_reads_348 : decode b_R_reads 348 = .ok (.iadd, 1) := by decide +kernel
theorem d_R_reads_349 : decode b_R_reads 349 = .ok (.iconst 1, 1) := by decide +kernel
theorem d_R_reads_350 : decode b_R_reads 350 = .ok (.invokestatic 100, 3) := by decide +kernel
theorem d_R_reads_353 : decode b_R_reads 353 = .ok (.lor, 1) := by decide +kernel
theorem d_R_reads_354 : decode b_R_reads 354 = .ok (.lstore 7, 2) := by decide +kernel
theorem d_R_reads_356 : decode b_R_reads 356 = .ok (.iinc 9 1, 3) := by decide +kernel
theorem d_R_reads_359 : decode b_R_reads 359 = .ok (.goto (-38), 3) := by decide +kernel
theorem d_R_reads_362 : decode b_R_reads 362 = .ok (.lload 7, 2) := by decide +kernel
theorem d_R_reads_364 : decode b_R_reads 364 = .ok (.bipush 8, 2) := by decide +kernel
theorem d_R_reads_366 : decode b_R_reads 366 = .ok (.aload_n 0, 1) := by decide +kernel
theorem d_R_reads_367 : decode b_R_reads 367 = .ok (.getfield 41, 3) := by decide +kernel
theorem d_R_reads_370 : decode b_R_reads 370 = .ok (.iload_n 3, 1) := by decide +kernel
theorem d_R_reads_371 : decode b_R_reads 371 = .ok (.iaload, 1) := by decide +kernel
theorem d_R_reads_372 : decode b_R_reads 372 = .ok (.imul, 1) := by decide +kernel
theorem d_R_reads_373 : decode b_R_reads 373 = .ok (.iload 5, 2) := by decide +kernel
theorem d_R_reads_375 : decode b_R_reads 375 = .ok (.iload 4, 2) := by decide +kernel
theorem d_R_reads_377 : decode b_R_reads 377 = .ok (.imul, 1) := by decide +kernel
theorem d_R_reads_378 : decode b_R_reads 378 = .ok (.iadd, 1) := by decide +kernel
theorem d_R_reads_379 : decode b_R_reads 379 = .ok (.iload 4, 2) := by decide +kernel
theorem d_R_reads_381 : decode b_R_reads 381 = .ok (.invokestatic 100, 3) := by decide +kernel
theorem d_R_reads_384 : decode b_R_reads 384 = .ok (.lor, 1) := by decide +kernel
theorem d_R_reads_385 : decode b_R_reads 385 = .ok (.lstore 7, 2) := by decide +kernel
theorem d_R_reads_387 : decode b_R_reads 387 = .ok (.goto 64, 3) := by decide +kernel
theorem d_R_reads_390 : decode b_R_reads 390 = .ok (.iload 6, 2) := by decide +kernel
theorem d_R_reads_392 : decode b_R_reads 392 = .ok (.bipush 18, 2) := by decide +kernel
theorem d_R_reads_394 : decode b_R_reads 394 = .ok (.if_icmp .ne 28, 3) := by decide +kernel
theorem d_R_reads_397 : decode b_R_reads 397 = .ok (.bipush 8, 2) := by decide +kernel
theorem d_R_reads_399 : decode b_R_reads 399 = .ok (.aload_n 0, 1) := by decide +kernel
theorem d_R_reads_400 : decode b_R_reads 400 = .ok (.getfield 35, 3) := by decide +kernel
theorem d_R_reads_403 : decode b_R_reads 403 = .ok (.iload_n 3, 1) := by decide +kernel
theorem d_R_reads_404 : decode b_R_reads 404 = .ok (.iaload, 1) := by decide +kernel
theorem d_R_reads_405 : decode b_R_reads 405 = .ok (.imul, 1) := by decide +kernel
theorem d_R_reads_406 : decode b_R_reads 406 = .ok (.iload 5, 2) := by decide +kernel
theorem d_R_reads_408 : decode b_R_reads 408 = .ok (.iload 4, 2) := by decide +kernel
theorem d_R_reads_410 : decode b_R_reads 410 = .ok (.imul, 1) := by decide +kernel
theorem d_R_reads_411 : decode b_R_reads 411 = .ok (.iadd, 1) := by decide +kernel
theorem d_R_reads_412 : decode b_R_reads 412 = .ok (.iload 4, 2) := by decide +kernel
theorem d_R_reads_414 : decode b_R_reads 414 = .ok (.invokestatic 100, 3) := by decide +kernel
theorem d_R_reads_417 : decode b_R_reads 417 = .ok (.lstore 7, 2) := by decide +kernel
theorem d_R_reads_419 : decode b_R_reads 419 = .ok (.goto 32, 3) := by decide +kernel
theorem d_R_reads_422 : decode b_R_reads 422 = .ok (.iload 6, 2) := by decide +kernel
theorem d_R_reads_424 : decode b_R_reads 424 = .ok (.bipush 19, 2) := by decide +kernel
theorem d_R_reads_426 : decode b_R_reads 426 = .ok (.if_icmp .ne 25, 3) := by decide +kernel
theorem d_R_reads_429 : decode b_R_reads 429 = .ok (.bipush 8, 2) := by decide +kernel
theorem d_R_reads_431 : decode b_R_reads 431 = .ok (.aload_n 0, 1) := by decide +kernel
theorem d_R_reads_432 : decode b_R_reads 432 = .ok (.getfield 41, 3) := by decide +kernel
theorem d_R_reads_435 : decode b_R_reads 435 = .ok (.iload_n 3, 1) := by decide +kernel
theorem d_R_reads_436 : decode b_R_reads 436 = .ok (.iaload, 1) := by decide +kernel
theorem d_R_reads_437 : decode b_R_reads 437 = .ok (.imul, 1) := by decide +kernel
theorem d_R_reads_438 : decode b_R_reads 438 = .ok (.iload 5, 2) := by decide +kernel
theorem d_R_reads_440 : decode b_R_reads 440 = .ok (.iload 4, 2) := by decide +kernel
theorem d_R_reads_442 : decode b_R_reads 442 = .ok (.imul, 1) := by decide +kernel
theorem d_R_reads_443 : decode b_R_reads 443 = .ok (.iadd, 1) := by decide +kernel
theorem d_R_reads_444 : decode b_R_reads 444 = .ok (.iload 4, 2) := by decide +kernel
theorem d_R_reads_446 : decode b_R_reads 446 = .ok (.invokestatic 100, 3) := by decide +kernel
theorem d_R_reads_449 : decode b_R_reads 449 = .ok (.lstore 7, 2) := by decide +kernel
theorem d_R_reads_451 : decode b_R_reads 451 = .ok (.aload_n 0, 1) := by decide +kernel
theorem d_R_reads_452 : decode b_R_reads 452 = .ok (.getfield 47, 3) := by decide +kernel
theorem d_R_reads_455 : decode b_R_reads 455 = .ok (.iload_n 3, 1) := by decide +kernel
theorem d_R_reads_456 : decode b_R_reads 456 = .ok (.baload, 1) := by decide +kernel
theorem d_R_reads_457 : decode b_R_reads 457 = .ok (.ifCond .eq 18, 3) := by decide +kernel
theorem d_R_reads_460 : decode b_R_reads 460 = .ok (.lload 7, 2) := by decide +kernel
theorem d_R_reads_462 : decode b_R_reads 462 = .ok (.iload 5, 2) := by decide +kernel
theorem d_R_reads_464 : decode b_R_reads 464 = .ok (.bipush 8, 2) := by decide +kernel
theorem d_R_reads_466 : decode b_R_reads 466 = .ok (.idiv, 1) := by decide +kernel
theorem d_R_reads_467 : decode b_R_reads 467 = .ok (.iconst 1, 1) := by decide +kernel
theorem d_R_reads_468 : decode b_R_reads 468 = .ok (.invokestatic 100, 3) := by decide +kernel
theorem d_R_reads_471 : decode b_R_reads 471 = .ok (.lor, 1) := by decide +kernel
theorem d_R_reads_472 : decode b_R_reads 472 = .ok (.goto 5, 3) := by decide +kernel
theorem d_R_reads_475 : decode b_R_reads 475 = .ok (.lload 7, 2) := by decide +kernel
theorem d_R_reads_477 : decode b_R_reads 477 = .ok (.lreturn, 1) := by decide +kernel
theorem d_R_vlOf_0 : decode b_R_vlOf 0 = .ok (.aload_n 0, 1) := by decide +kernel
theorem d_R_vlOf_1 : decode b_R_vlOf 1 = .ok (.getfield 72, 3) := by decide +kernel
theorem d_R_vlOf_4 : decode b_R_vlOf 4 = .ok (.iload_n 1, 1) := by decide +kernel
theorem d_R_vlOf_5 : decode b_R_vlOf 5 = .ok (.iaload, 1) := by decide +kernel
theorem d_R_vlOf_6 : decode b_R_vlOf 6 = .ok (.ireturn, 1) := by decide +kernel
theorem d_R_bytes_0 : decode b_R_bytes 0 = .ok (.lconst 1, 1) := by decide +kernel
theorem d_R_bytes_1 : decode b_R_bytes 1 = .ok (.iload_n 1, 1) := by decide +kernel
theorem d_R_bytes_2 : decode b_R_bytes 2 = .ok (.lshl, 1) := by decide +kernel
theorem d_R_bytes_3 : decode b_R_bytes 3 = .ok (.lconst 1, 1) := by decide +kernel
theorem d_R_bytes_4 : decode b_R_bytes 4 = .ok (.lsub, 1) := by decide +kernel
theorem d_R_bytes_5 : decode b_R_bytes 5 = .ok (.iload_n 0, 1) := by decide +kernel
theorem d_R_bytes_6 : decode b_R_bytes 6 = .ok (.lshl, 1) := by decide +kernel
theorem d_R_bytes_7 : decode b_R_bytes 7 = .ok (.lreturn, 1) := by decide +kernel
theorem d_R_writes_0 : decode b_R_writes 0 = .ok (.aload_n 0, 1) := by decide +kernel
theorem d_R_writes_1 : decode b_R_writes 1 = .ok (.getfield 51, 3) := by decide +kernel
theorem d_R_writes_4 : decode b_R_writes 4 = .ok (.iload_n 1, 1) := by decide +kernel
theorem d_R_writes_5 : decode b_R_writes 5 = .ok (.iaload, 1) := by decide +kernel
theorem d_R_writes_6 : decode b_R_writes 6 = .ok (.istore_n 3, 1) := by decide +kernel
theorem d_R_writes_7 : decode b_R_writes 7 = .ok (.aload_n 0, 1) := by decide +kernel
theorem d_R_writes_8 : decode b_R_writes 8 = .ok (.getfield 54, 3) := by decide +kernel
theorem d_R_writes_11 : decode b_R_writes 11 = .ok (.iload_n 1, 1) := by decide +kernel
theorem d_R_writes_12 : decode b_R_writes 12 = .ok (.iaload, 1) := by decide +kernel
theorem d_R_writes_13 : decode b_R_writes 13 = .ok (.istore 4, 2) := by decide +kernel
theorem d_R_writes_15 : decode b_R_writes 15 = .ok (.aload_n 0, 1) := by decide +kernel
theorem d_R_writes_16 : decode b_R_writes 16 = .ok (.getfield 60, 3) := by decide +kernel
theorem d_R_writes_19 : decode b_R_writes 19 = .ok (.iload_n 1, 1) := by decide +kernel
theorem d_R_writes_20 : decode b_R_writes 20 = .ok (.iaload, 1) := by decide +kernel
theorem d_R_writes_21 : decode b_R_writes 21 = .ok (.iload_n 2, 1) := by decide +kernel
theorem d_R_writes_22 : decode b_R_writes 22 = .ok (.iadd, 1) := by decide +kernel
theorem d_R_writes_23 : decode b_R_writes 23 = .ok (.istore 5, 2) := by decide +kernel
theorem d_R_writes_25 : decode b_R_writes 25 = .ok (.aload_n 0, 1) := by decide +kernel
theorem d_R_writes_26 : decode b_R_writes 26 = .ok (.getfield 32, 3) := by decide +kernel
theorem d_R_writes_29 : decode b_R_writes 29 = .ok (.iload_n 3, 1) := by decide +kernel
theorem d_R_writes_30 : decode b_R_writes 30 = .ok (.iaload, 1) := by decide +kernel
theorem d_R_writes_31 : decode b_R_writes 31 = .ok (.istore 6, 2) := by decide +kernel
theorem d_R_writes_33 : decode b_R_writes 33 = .ok (.iload 6, 2) := by decide +kernel
theorem d_R_writes_35 : decode b_R_writes 35 = .ok (.bipush 18, 2) := by decide +kernel
theorem d_R_writes_37 : decode b_R_writes 37 = .ok (.if_icmp .ne 5, 3) := by decide +kernel
theorem d_R_writes_40 : decode b_R_writes 40 = .ok (.lconst 0, 1) := by decide +kernel
theorem d_R_writes_41 : decode b_R_writes 41 = .ok (.lreturn, 1) := by decide +kernel
theorem d_R_writes_42 : decode b_R_writes 42 = .ok (.iload 6, 2) := by decide +kernel
theorem d_R_writes_44 : decode b_R_writes 44 = .ok (.bipush 12, 2) := by decide +kernel
theorem d_R_writes_46 : decode b_R_writes 46 = .ok (.if_icmp .ne 23, 3) := by decide +kernel
theorem d_R_writes_49 : decode b_R_writes 49 = .ok (.bipush 8, 2) := by decide +kernel
theorem d_R_writes_51 : decode b_R_writes 51 = .ok (.aload_n 0, 1) := by decide +kernel
theorem d_R_writes_52 : decode b_R_writes 52 = .ok (.getfield 35, 3) := by decide +kernel
theorem d_R_writes_55 : decode b_R_writes 55 = .ok (.iload_n 3, 1) := by decide +kernel
theorem d_R_writes_56 : decode b_R_writes 56 = .ok (.iaload, 1) := by decide +kernel
theorem d_R_writes_57 : decode b_R_writes 57 = .ok (.imul, 1) := by decide +kernel
theorem d_R_writes_58 : decode b_R_writes 58 = .ok (.iload 5, 2) := by decide +kernel
theorem d_R_writes_60 : decode b_R_writes 60 = .ok (.bipush 8, 2) := by decide +kernel
theorem d_R_writes_62 : decode b_R_writes 62 = .ok (.idiv, 1) := by decide +kernel
theorem d_R_writes_63 : decode b_R_writes 63 = .ok (.iadd, 1) := by decide +kernel
theorem d_R_writes_64 : decode b_R_writes 64 = .ok (.iconst 1, 1) := by decide +kernel
theorem d_R_writes_65 : decode b_R_writes 65 = .ok (.invokestatic 100, 3) := by decide +kernel
theorem d_R_writes_68 : decode b_R_writes 68 = .ok (.lreturn, 1) := by decide +kernel
theorem d_R_writes_69 : decode b_R_writes 69 = .ok (.iload 6, 2) := by decide +kernel
theorem d_R_writes_71 : decode b_R_writes 71 = .ok (.bipush 14, 2) := by decide +kernel
theorem d_R_writes_73 : decode b_R_writes 73 = .ok (.if_icmp .ne 20, 3) := by decide +kernel
theorem d_R_writes_76 : decode b_R_writes 76 = .ok (.bipush 8, 2) := by decide +kernel
theorem d_R_writes_78 : decode b_R_writes 78 = .ok (.aload_n 0, 1) := by decide +kernel
theorem d_R_writes_79 : decode b_R_writes 79 = .ok (.getfield 35, 3) := by decide +kernel
theorem d_R_writes_82 : decode b_R_writes 82 = .ok (.iload_n 3, 1) := by decide +kernel
theorem d_R_writes_83 : decode b_R_writes 83 = .ok (.iaload, 1) := by decide +kernel
theorem d_R_writes_84 : decode b_R_writes 84 = .ok (.imul, 1) := by decide +kernel
theorem d_R_writes_85 : decode b_R_writes 85 = .ok (.iload 4, 2) := by decide +kernel
theorem d_R_writes_87 : decode b_R_writes 87 = .ok (.invokestatic 100, 3) := by decide +kernel
theorem d_R_writes_90 : decode b_R_writes 90 = .ok (.goto 57, 3) := by decide +kernel
theorem d_R_writes_93 : decode b_R_writes 93 = .ok (.iload 6, 2) := by decide +kernel
theorem d_R_writes_95 : decode b_R_writes 95 = .ok (.bipush 13, 2) := by decide +kernel
theorem d_R_writes_97 : decode b_R_writes 97 = .ok (.if_icmp .ne 30, 3) := by decide +kernel
theorem d_R_writes_100 : decode b_R_writes 100 = .ok (.bipush 8, 2) := by decide +kernel
theorem d_R_writes_102 : decode b_R_writes 102 = .ok (.aload_n 0, 1) := by decide +kernel
theorem d_R_writes_103 : decode b_R_writes 103 = .ok (.getfield 35, 3) := by decide +kernel
theorem d_R_writes_106 : decode b_R_writes 106 = .ok (.iload_n 3, 1) := by decide +kernel
theorem d_R_writes_107 : decode b_R_writes 107 = .ok (.iaload, 1) := by decide +kernel
theorem d_R_writes_108 : decode b_R_writes 108 = .ok (.imul, 1) := by decide +kernel
theorem d_R_writes_109 : decode b_R_writes 109 = .ok (.iconst 2, 1) := by decide +kernel
theorem d_R_writes_110 : decode b_R_writes 110 = .ok (.iload 5, 2) := by decide +kernel
theorem d_R_writes_112 : decode b_R_writes 112 = .ok (.imul, 1) := by decide +kernel
theorem d_R_writes_113 : decode b_R_writes 113 = .ok (.iload 4, 2) := by decide +kernel
theorem d_R_writes_115 : decode b_R_writes 115 = .ok (.imul, 1) := by decide +kernel
theorem d_R_writes_116 : decode b_R_writes 116 = .ok (.iadd, 1) := by decide +kernel
theorem d_R_writes_117 : decode b_R_writes 117 = .ok (.iconst 2, 1) := by decide +kernel
theorem d_R_writes_118 : decode b_R_writes 118 = .ok (.iload 4, 2) := by decide +kernel
theorem d_R_writes_120 : decode b_R_writes 120 = .ok (.imul, 1) := by decide +kernel
theorem d_R_writes_121 : decode b_R_writes 121 = .ok (.invokestatic 100, 3) := by decide +kernel
theorem d_R_writes_124 : decode b_R_writes 124 = .ok (.goto 23, 3) := by decide +kernel
theorem d_R_writes_127 : decode b_R_writes 127 = .ok (.bipush 8, 2) := by decide +kernel
theorem d_R_writes_129 : decode b_R_writes 129 = .ok (.aload_n 0, 1) := by decide +kernel
theorem d_R_writes_130 : decode b_R_writes 130 = .ok (.getfield 35, 3) := by decide +kernel
theorem d_R_writes_133 : decode b_R_writes 133 = .ok (.iload_n 3, 1) := by decide +kernel
theorem d_R_writes_134 : decode b_R_writes 134 = .ok (.iaload, 1) := by decide +kernel
theorem d_R_writes_135 : decode b_R_writes 135 = .ok (.imul, 1) := by decide +kernel
theorem d_R_writes_136 : decode b_R_writes 136 = .ok (.iload 5, 2) := by decide +kernel
theorem d_R_writes_138 : decode b_R_writes 138 = .ok (.iload 4, 2) := by decide +kernel
theorem d_R_writes_140 : decode b_R_writes 140 = .ok (.imul, 1) := by decide +kernel
theorem d_R_writes_141 : decode b_R_writes 141 = .ok (.iadd, 1) := by decide +kernel
theorem d_R_writes_142 : decode b_R_writes 142 = .ok (.iload 4, 2) := by decide +kernel
theorem d_R_writes_144 : decode b_R_writes 144 = .ok (.invokestatic 100, 3) := by decide +kernel
theorem d_R_writes_147 : decode b_R_writes 147 = .ok (.lreturn, 1) := by decide +kernel
theorem d_R_does_0 : decode b_R_does 0 = .ok (.aload_n 0, 1) := by decide +kernel
theorem d_R_does_1 : decode b_R_does 1 = .ok (.getfield 51, 3) := by decide +kernel
theorem d_R_does_4 : decode b_R_does 4 = .ok (.iload_n 1, 1) := by decide +kernel
theorem d_R_does_5 : decode b_R_does 5 = .ok (.iaload, 1) := by decide +kernel
theorem d_R_does_6 : decode b_R_does 6 = .ok (.istore_n 3, 1) := by decide +kernel
theorem d_R_does_7 : decode b_R_does 7 = .ok (.aload_n 0, 1) := by decide +kernel
theorem d_R_does_8 : decode b_R_does 8 = .ok (.getfield 60, 3) := by decide +kernel
theorem d_R_does_11 : decode b_R_does 11 = .ok (.iload_n 1, 1) := by decide +kernel
theorem d_R_does_12 : decode b_R_does 12 = .ok (.iaload, 1) := by decide +kernel
theorem d_R_does_13 : decode b_R_does 13 = .ok (.iload_n 2, 1) := by decide +kernel
theorem d_R_does_14 : decode b_R_does 14 = .ok (.iadd, 1) := by decide +kernel
theorem d_R_does_15 : decode b_R_does 15 = .ok (.istore 4, 2) := by decide +kernel
theorem d_R_does_17 : decode b_R_does 17 = .ok (.aload_n 0, 1) := by decide +kernel
theorem d_R_does_18 : decode b_R_does 18 = .ok (.getfield 32, 3) := by decide +kernel
theorem d_R_does_21 : decode b_R_does 21 = .ok (.iload_n 3, 1) := by decide +kernel
theorem d_R_does_22 : decode b_R_does 22 = .ok (.iaload, 1) := by decide +kernel
theorem d_R_does_23 : decode b_R_does 23 = .ok (.istore 5, 2) := by decide +kernel
theorem d_R_does_25 : decode b_R_does 25 = .ok (.aload_n 0, 1) := by decide +kernel
theorem d_R_does_26 : decode b_R_does 26 = .ok (.dup, 1) := by decide +kernel
theorem d_R_does_27 : decode b_R_does 27 = .ok (.getfield 129, 3) := by decide +kernel
theorem d_R_does_30 : decode b_R_does 30 = .ok (.iconst 1, 1) := by decide +kernel
theorem d_R_does_31 : decode b_R_does 31 = .ok (.iadd, 1) := by decide +kernel
theorem d_R_does_32 : decode b_R_does 32 = .ok (.putfield 129, 3) := by decide +kernel
theorem d_R_does_35 : decode b_R_does 35 = .ok (.iload 5, 2) := by decide +kernel
theorem d_R_does_37 : decode b_R_does 37 = .ok (.bipush 14, 2) := by decide +kernel
theorem d_R_does_39 : decode b_R_does 39 = .ok (.if_icmp .ne 9, 3) := by decide +kernel
theorem d_R_does_42 : decode b_R_does 42 = .ok (.aload_n 0, 1) := by decide +kernel
theorem d_R_does_43 : decode b_R_does 43 = .ok (.iload_n 1, 1) := by decide +kernel
theorem d_R_does_44 : decode b_R_does 44 = .ok (.invokevirtual 132, 3) := by decide +kernel
theorem d_R_does_47 : decode b_R_does 47 = .ok (.return_, 1) := by decide +kernel
theorem d_R_does_48 : decode b_R_does 48 = .ok (.aload_n 0, 1) := by decide +kernel
theorem d_R_does_49 : decode b_R_does 49 = .ok (.getfield 47, 3) := by decide +kernel
theorem d_R_does_52 : decode b_R_does 52 = .ok (.iload_n 3, 1) := by decide +kernel
theorem d_R_does_53 : decode b_R_does 53 = .ok (.baload, 1) := by decide +kernel
theorem d_R_does_54 : decode b_R_does 54 = .ok (.ifCond .eq 14, 3) := by decide +kernel
theorem d_R_does_57 : decode b_R_does 57 = .ok (.aload_n 0, 1) := by decide +kernel
theorem d_R_does_58 : decode b_R_does 58 = .ok (.iconst 0, 1) := by decide +kernel
theorem d_R_does_59 : decode b_R_does 59 = .ok (.iload 4, 2) := by decide +kernel
theorem d_R_does_61 : decode b_R_does 61 = .ok (.invokevirtual 114, 3) := by decide +kernel
theorem d_R_does_64 : decode b_R_does 64 = .ok (.ifCond .ne 4, 3) := by decide +kernel
theorem d_R_does_67 : decode b_R_does 67 = .ok (.return_, 1) := by decide +kernel
theorem d_R_does_68 : decode b_R_does 68 = .ok (.iload 5, 2) := by decide +kernel
theorem d_R_does_70 : decode b_R_does 70 = .ok (.bipush 12, 2) := by decide +kernel
theorem d_R_does_72 : decode b_R_does 72 = .ok (.if_icmp .ne 121, 3) := by decide +kernel
theorem d_R_does_75 : decode b_R_does 75 = .ok (.aload_n 0, 1) := by decide +kernel
theorem d_R_does_76 : decode b_R_does 76 = .ok (.aload_n 0, 1) := by decide +kernel
theorem d_R_does_77 : decode b_R_does 77 = .ok (.getfield 38, 3) := by decide +kernel
theorem d_R_does_80 : decode b_R_does 80 = .ok (.iload_n 3, 1) := by decide +kernel
theorem d_R_does_81 : decode b_R_does 81 = .ok (.iaload, 1) := by decide +kernel
theorem d_R_does_82 : decode b_R_does 82 = .ok (.iload 4, 2) := by decide +kernel
theorem d_R_does_84 : decode b_R_does 84 = .ok (.aload_n 0, 1) := by decide +kernel
theorem d_R_does_85 : decode b_R_does 85 = .ok (.getfield 54, 3) := by decide +kernel
theorem d_R_does_88 : decode b_R_does 88 = .ok (.iload_n 1, 1) := by decide +kernel
theorem d_R_does_89 : decode b_R_does 89 = .ok (.iaload, 1) := by decide +kernel
theorem d_R_does_90 : decode b_R_does 90 = .ok (.invokevirtual 110, 3) := by decide +kernel
theorem d_R_does_93 : decode b_R_does 93 = .ok (.aload_n 0, 1) := by decide +kernel
theorem d_R_does_94 : decode b_R_does 94 = .ok (.aload_n 0, 1) := by decide +kernel
theorem d_R_does_95 : decode b_R_does 95 = .ok (.getfield 41, 3) := by decide +kernel
theorem d_R_does_98 : decode b_R_does 98 = .ok (.iload_n 3, 1) := by decide +kernel
theorem d_R_does_99 : decode b_R_does 99 = .ok (.iaload, 1) := by decide +kernel
theorem d_R_does_100 : decode b_R_does 100 = .ok (.iload 4, 2) := by decide +kernel
theorem d_R_does_102 : decode b_R_does 102 = .ok (.aload_n 0, 1) := by decide +kernel
theorem d_R_does_103 : decode b_R_does 103 = .ok (.getfield 54, 3) := by decide +kernel
theorem d_R_does_106 : decode b_R_does 106 = .ok (.iload_n 1, 1) := by decide +kernel
theorem d_R_does_107 : decode b_R_does 107 = .ok (.iaload, 1) := by decide +kernel
theorem d_R_does_108 : decode b_R_does 108 = .ok (.invokevirtual 110, 3) := by decide +kernel
theorem d_R_does_111 : decode b_R_does 111 = .ok (.if_icmp .ge 7, 3) := by decide +kernel
theorem d_R_does_114 : decode b_R_does 114 = .ok (.iconst 1, 1) := by decide +kernel
theorem d_R_does_115 : decode b_R_does 115 = .ok (.goto 4, 3) := by decide +kernel
theorem d_R_does_118 : decode b_R_does 118 = .ok (.iconst 0, 1) := by decide +kernel
theorem d_R_does_119 : decode b_R_does 119 = .ok (.istore 6, 2) := by decide +kernel
theorem d_R_does_121 : decode b_R_does 121 = .ok (.bipush 8, 2) := by decide +kernel
theorem d_R_does_123 : decode b_R_does 123 = .ok (.aload_n 0, 1) := by decide +kernel
theorem d_R_does_124 : decode b_R_does 124 = .ok (.getfield 35, 3) := by decide +kernel
theorem d_R_does_127 : decode b_R_does 127 = .ok (.iload_n 3, 1) := by decide +kernel
theorem d_R_does_128 : decode b_R_does 128 = .ok (.iaload, 1) := by decide +kernel
theorem d_R_does_129 : decode b_R_does 129 = .ok (.imul, 1) := by decide +kernel
theorem d_R_does_130 : decode b_R_does 130 = .ok (.iload 4, 2) := by decide +kernel
theorem d_R_does_132 : decode b_R_does 132 = .ok (.bipush 8, 2) := by decide +kernel
theorem d_R_does_134 : decode b_R_does 134 = .ok (.idiv, 1) := by decide +kernel
theorem d_R_does_135 : decode b_R_does 135 = .ok (.iadd, 1) := by decide +kernel
theorem d_R_does_136 : decode b_R_does 136 = .ok (.istore 7, 2) := by decide +kernel
theorem d_R_does_138 : decode b_R_does 138 = .ok (.iconst 1, 1) := by decide +kernel
theorem d_R_does_139 : decode b_R_does 139 = .ok (.iload 4, 2) := by decide +kernel
theorem d_R_does_141 : decode b_R_does 141 = .ok (.bipush 8, 2) := by decide +kernel
theorem d_R_does_143 : decode b_R_does 143 = .ok (.irem, 1) := by decide +kernel
theorem d_R_does_144 : decode b_R_does 144 = .ok (.ishl, 1) := by decide +kernel
theorem d_R_does_145 : decode b_R_does 145 = .ok (.istore 8, 2) := by decide +kernel
theorem d_R_does_147 : decode b_R_does 147 = .ok (.aload_n 0, 1) := by decide +kernel
theorem d_R_does_148 : decode b_R_does 148 = .ok (.getfield 26, 3) := by decide +kernel
theorem d_R_does_151 : decode b_R_does 151 = .ok (.iload 7, 2) := by decide +kernel
theorem d_R_does_153 : decode b_R_does 153 = .ok (.iload 6, 2) := by decide +kernel
theorem d_R_does_155 : decode b_R_does 155 = .ok (.ifCond .eq 16, 3) := by decide +kernel
theorem d_R_does_158 : decode b_R_does 158 = .ok (.aload_n 0, 1) := by decide +kernel
theorem d_R_does_159 : decode b_R_does 159 = .ok (.getfield 26, 3) := by decide +kernel
theorem d_R_does_162 : decode b_R_does 162 = .ok (.iload 7, 2) := by decide +kernel
theorem d_R_does_164 : decode b_R_does 164 = .ok (.iaload, 1) := by decide +kernel
theorem d_R_does_165 : decode b_R_does 165 = .ok (.iload 8, 2) := by decide +kernel
theorem d_R_does_167 : decode b_R_does 167 = .ok (.ior, 1) := by decide +kernel
theorem d_R_does_168 : decode b_R_does 168 = .ok (.goto 15, 3) := by decide +kernel
theorem d_R_does_171 : decode b_R_does 171 = .ok (.aload_n 0, 1) := by decide +kernel
theorem d_R_does_172 : decode b_R_does 172 = .ok (.getfield 26, 3) := by decide +kernel
theorem d_R_does_175 : decode b_R_does 175 = .ok (.iload 7, 2) := by decide +kernel
theorem d_R_does_177 : decode b_R_does 177 = .ok (.iaload, 1) := by decide +kernel
theorem d_R_does_178 : decode b_R_does 178 = .ok (.iload 8, 2) := by decide +kernel
theorem d_R_does_180 : decode b_R_does 180 = .ok (.iconst (-1), 1) := by decide +kernel
theorem d_R_does_181 : decode b_R_does 181 = .ok (.ixor, 1) := by decide +kernel
theorem d_R_does_182 : decode b_R_does 182 = .ok (.iand, 1) := by decide +kernel
theorem d_R_does_183 : decode b_R_does 183 = .ok (.bipush 24, 2) := by decide +kernel
theorem d_R_does_185 : decode b_R_does 185 = .ok (.ishl, 1) := by decide +kernel
theorem d_R_does_186 : decode b_R_does 186 = .ok (.bipush 24, 2) := by decide +kernel
theorem d_R_does_188 : decode b_R_does 188 = .ok (.ishr, 1) := by decide +kernel
theorem d_R_does_189 : decode b_R_does 189 = .ok (.iastore, 1) := by decide +kernel
theorem d_R_does_190 : decode b_R_does 190 = .ok (.goto 107, 3) := by decide +kernel
theorem d_R_does_193 : decode b_R_does 193 = .ok (.iload 5, 2) := by decide +kernel
theorem d_R_does_195 : decode b_R_does 195 = .ok (.bipush 13, 2) := by decide +kernel
theorem d_R_does_197 : decode b_R_does 197 = .ok (.if_icmp .ne 37, 3) := by decide +kernel
theorem d_R_does_200 : decode b_R_does 200 = .ok (.aload_n 0, 1) := by decide +kernel
theorem d_R_does_201 : decode b_R_does 201 = .ok (.iload_n 1, 1) := by decide +kernel
theorem d_R_does_202 : decode b_R_does 202 = .ok (.iload 4, 2) := by decide +kernel
theorem d_R_does_204 : decode b_R_does 204 = .ok (.invokevirtual 136, 3) := by decide +kernel
theorem d_R_does_207 : decode b_R_does 207 = .ok (.istore 6, 2) := by decide +kernel
theorem d_R_does_209 : decode b_R_does 209 = .ok (.aload_n 0, 1) := by decide +kernel
theorem d_R_does_210 : decode b_R_does 210 = .ok (.aload_n 0, 1) := by decide +kernel
theorem d_R_does_211 : decode b_R_does 211 = .ok (.getfield 35, 3) := by decide +kernel
theorem d_R_does_214 : decode b_R_does 214 = .ok (.iload_n 3, 1) := by decide +kernel
theorem d_R_does_215 : decode b_R_does 215 = .ok (.iaload, 1) := by decide +kernel
theorem d_R_does_216 : decode b_R_does 216 = .ok (.iload 4, 2) := by decide +kernel
theorem d_R_does_218 : decode b_R_does 218 = .ok (.iconst 2, 1) := by decide +kernel
theorem d_R_does_219 : decode b_R_does 219 = .ok (.aload_n 0, 1) := by decide +kernel
theorem d_R_does_220 : decode b_R_does 220 = .ok (.getfield 54, 3) := by decide +kernel
theorem d_R_does_223 : decode b_R_does 223 = .ok (.iload_n 1, 1) := by decide +kernel
theorem d_R_does_224 : decode b_R_does 224 = .ok (.iaload, 1) := by decide +kernel
theorem d_R_does_225 : decode b_R_does 225 = .ok (.imul, 1) := by decide +kernel
theorem d_R_does_226 : decode b_R_does 226 = .ok (.iload 6, 2) := by decide +kernel
theorem d_R_does_228 : decode b_R_does 228 = .ok (.invokevirtual 118, 3) := by decide +kernel
theorem d_R_does_231 : decode b_R_does 231 = .ok (.goto 66, 3) := by decide +kernel
theorem d_R_does_234 : decode b_R_does 234 = .ok (.iload 5, 2) := by decide +kernel
theorem d_R_does_236 : decode b_R_does 236 = .ok (.bipush 17, 2) := by decide +kernel
theorem d_R_does_238 : decode b_R_does 238 = .ok (.if_icmp .lt 13, 3) := by decide +kernel
theorem d_R_does_241 : decode b_R_does 241 = .ok (.aload_n 0, 1) := by decide +kernel
theorem d_R_does_242 : decode b_R_does 242 = .ok (.iload_n 1, 1) := by decide +kernel
theorem d_R_does_243 : decode b_R_does 243 = .ok (.iload 4, 2) := by decide +kernel
theorem d_R_does_245 : decode b_R_does 245 = .ok (.invokevirtual 139, 3) := by decide +kernel
theorem d_R_does_248 : decode b_R_does 248 = .ok (.goto 49, 3) := by decide +kernel
theorem d_R_does_251 : decode b_R_does 251 = .ok (.iload 5, 2) := by decide +kernel
theorem d_R_does_253 : decode b_R_does 253 = .ok (.bipush 15, 2) := by decide +kernel
theorem d_R_does_255 : decode b_R_does 255 = .ok (.if_icmp .lt 13, 3) := by decide +kernel
theorem d_R_does_258 : decode b_R_does 258 = .ok (.aload_n 0, 1) := by decide +kernel
theorem d_R_does_259 : decode b_R_does 259 = .ok (.iload_n 1, 1) := by decide +kernel
theorem d_R_does_260 : decode b_R_does 260 = .ok (.iload 4, 2) := by decide +kernel
theorem d_R_does_262 : decode b_R_does 262 = .ok (.invokevirtual 143, 3) := by decide +kernel
theorem d_R_does_265 : decode b_R_does 265 = .ok (.goto 10, 3) := by decide +kernel
theorem d_R_does_268 : decode b_R_does 268 = .ok (.aload_n 0, 1) := by decide +kernel
theorem d_R_does_269 : decode b_R_does 269 = .ok (.iload_n 1, 1) := by decide +kernel
theorem d_R_does_270 : decode b_R_does 270 = .ok (.iload 4, 2) := by decide +kernel
theorem d_R_does_272 : decode b_R_does 272 = .ok (.invokevirtual 136, 3) := by decide +kernel
theorem d_R_does_275 : decode b_R_does 275 = .ok (.istore 6, 2) := by decide +kernel
theorem d_R_does_277 : decode b_R_does 277 = .ok (.aload_n 0, 1) := by decide +kernel
theorem d_R_does_278 : decode b_R_does 278 = .ok (.aload_n 0, 1) := by decide +kernel
theorem d_R_does_279 : decode b_R_does 279 = .ok (.getfield 35, 3) := by decide +kernel
theorem d_R_does_282 : decode b_R_does 282 = .ok (.iload_n 3, 1) := by decide +kernel
theorem d_R_does_283 : decode b_R_does 283 = .ok (.iaload, 1) := by decide +kernel
theorem d_R_does_284 : decode b_R_does 284 = .ok (.iload 4, 2) := by decide +kernel
theorem d_R_does_286 : decode b_R_does 286 = .ok (.aload_n 0, 1) := by decide +kernel
theorem d_R_does_287 : decode b_R_does 287 = .ok (.getfield 54, 3) := by decide +kernel
theorem d_R_does_290 : decode b_R_does 290 = .ok (.iload_n 1, 1) := by decide +kernel
theorem d_R_does_291 : decode b_R_does 291 = .ok (.iaload, 1) := by decide +kernel
theorem d_R_does_292 : decode b_R_does 292 = .ok (.iload 6, 2) := by decide +kernel
theorem d_R_does_294 : decode b_R_does 294 = .ok (.invokevirtual 118, 3) := by decide +kernel
theorem d_R_does_297 : decode b_R_does 297 = .ok (.return_, 1) := by decide +kernel
theorem d_R_sums_0 : decode b_R_sums 0 = .ok (.aload_n 0, 1) := by decide +kernel
theorem d_R_sums_1 : decode b_R_sums 1 = .ok (.getfield 51, 3) := by decide +kernel
theorem d_R_sums_4 : decode b_R_sums 4 = .ok (.iload_n 1, 1) := by decide +kernel
theorem d_R_sums_5 : decode b_R_sums 5 = .ok (.iaload, 1) := by decide +kernel
theorem d_R_sums_6 : decode b_R_sums 6 = .ok (.istore_n 2, 1) := by decide +kernel
theorem d_R_sums_7 : decode b_R_sums 7 = .ok (.aload_n 0, 1) := by decide +kernel
theorem d_R_sums_8 : decode b_R_sums 8 = .ok (.getfield 54, 3) := by decide +kernel
theorem d_R_sums_11 : decode b_R_sums 11 = .ok (.iload_n 1, 1) := by decide +kernel
theorem d_R_sums_12 : decode b_R_sums 12 = .ok (.iaload, 1) := by decide +kernel
theorem d_R_sums_13 : decode b_R_sums 13 = .ok (.istore_n 3, 1) := by decide +kernel
theorem d_R_sums_14 : decode b_R_sums 14 = .ok (.aload_n 0, 1) := by decide +kernel
theorem d_R_sums_15 : decode b_R_sums 15 = .ok (.aload_n 0, 1) := by decide +kernel
theorem d_R_sums_16 : decode b_R_sums 16 = .ok (.getfield 41, 3) := by decide +kernel
theorem d_R_sums_19 : decode b_R_sums 19 = .ok (.iload_n 2, 1) := by decide +kernel
theorem d_R_sums_20 : decode b_R_sums 20 = .ok (.iaload, 1) := by decide +kernel
theorem d_R_sums_21 : decode b_R_sums 21 = .ok (.iconst 0, 1) := by decide +kernel
theorem d_R_sums_22 : decode b_R_sums 22 = .ok (.iload_n 3, 1) := by decide +kernel
theorem d_R_sums_23 : decode b_R_sums 23 = .ok (.invokevirtual 110, 3) := by decide +kernel
theorem d_R_sums_26 : decode b_R_sums 26 = .ok (.istore 4, 2) := by decide +kernel
theorem d_R_sums_28 : decode b_R_sums 28 = .ok (.iconst 0, 1) := by decide +kernel
theorem d_R_sums_29 : decode b_R_sums 29 = .ok (.istore 5, 2) := by decide +kernel
theorem d_R_sums_31 : decode b_R_sums 31 = .ok (.aload_n 0, 1) := by decide +kernel
theorem d_R_sums_32 : decode b_R_sums 32 = .ok (.getfield 60, 3) := by decide +kernel
theorem d_R_sums_35 : decode b_R_sums 35 = .ok (.iload_n 1, 1) := by decide +kernel
theorem d_R_sums_36 : decode b_R_sums 36 = .ok (.iaload, 1) := by decide +kernel
theorem d_R_sums_37 : decode b_R_sums 37 = .ok (.istore 6, 2) := by decide +kernel
theorem d_R_sums_39 : decode b_R_sums 39 = .ok (.iload 6, 2) := by decide +kernel
theorem d_R_sums_41 : decode b_R_sums 41 = .ok (.aload_n 0, 1) := by decide +kernel
theorem d_R_sums_42 : decode b_R_sums 42 = .ok (.iload_n 1, 1) := by decide +kernel
theorem d_R_sums_43 : decode b_R_sums 43 = .ok (.invokevirtual 96, 3) := by decide +kernel
theorem d_R_sums_46 : decode b_R_sums 46 = .ok (.if_icmp .ge 79, 3) := by decide +kernel
theorem d_R_sums_49 : decode b_R_sums 49 = .ok (.aload_n 0, 1) := by decide +kernel
theorem d_R_sums_50 : decode b_R_sums 50 = .ok (.getfield 47, 3) := by decide +kernel
theorem d_R_sums_53 : decode b_R_sums 53 = .ok (.iload_n 2, 1) := by decide +kernel
theorem d_R_sums_54 : decode b_R_sums 54 = .ok (.baload, 1) := by decide +kernel
theorem d_R_sums_55 : decode b_R_sums 55 = .ok (.ifCond .eq 13, 3) := by decide +kernel
theorem d_R_sums_58 : decode b_R_sums 58 = .ok (.aload_n 0, 1) := by decide +kernel
theorem d_R_sums_59 : decode b_R_sums 59 = .ok (.iconst 0, 1) := by decide +kernel
theorem d_R_sums_60 : decode b_R_sums 60 = .ok (.iload 6, 2) := by decide +kernel
theorem d_R_sums_62 : decode b_R_sums 62 = .ok (.invokevirtual 114, 3) := by decide +kernel
theorem d_R_sums_65 : decode b_R_sums 65 = .ok (.ifCond .eq 7, 3) := by decide +kernel
theorem d_R_sums_68 : decode b_R_sums 68 = .ok (.iconst 1, 1) := by decide +kernel
theorem d_R_sums_69 : decode b_R_sums 69 = .ok (.goto 4, 3) := by decide +kernel
theorem d_R_sums_72 : decode b_R_sums 72 = .ok (.iconst 0, 1) := by decide +kernel
theorem d_R_sums_73 : decode b_R_sums 73 = .ok (.istore 7, 2) := by decide +kernel
theorem d_R_sums_75 : decode b_R_sums 75 = .ok (.iload 4, 2) := by decide +kernel
theorem d_R_sums_77 : decode b_R_sums 77 = .ok (.iload 7, 2) := by decide +kernel
theorem d_R_sums_79 : decode b_R_sums 79 = .ok (.ifCond .eq 19, 3) := by decide +kernel
theorem d_R_sums_82 : decode b_R_sums 82 = .ok (.aload_n 0, 1) := by decide +kernel
theorem d_R_sums_83 : decode b_R_sums 83 = .ok (.aload_n 0, 1) := by decide +kernel
theorem d_R_sums_84 : decode b_R_sums 84 = .ok (.getfield 38, 3) := by decide +kernel
theorem d_R_sums_87 : decode b_R_sums 87 = .ok (.iload_n 2, 1) := by decide +kernel
theorem d_R_sums_88 : decode b_R_sums 88 = .ok (.iaload, 1) := by decide +kernel
theorem d_R_sums_89 : decode b_R_sums 89 = .ok (.iload 6, 2) := by decide +kernel
theorem d_R_sums_91 : decode b_R_sums 91 = .ok (.iload_n 3, 1) := by decide +kernel
theorem d_R_sums_92 : decode b_R_sums 92 = .ok (.invokevirtual 110, 3) := by decide +kernel
theorem d_R_sums_95 : decode b_R_sums 95 = .ok (.goto 4, 3) := by decide +kernel
theorem d_R_sums_98 : decode b_R_sums 98 = .ok (.iconst 0, 1) := by decide +kernel
theorem d_R_sums_99 : decode b_R_sums 99 = .ok (.iadd, 1) := by decide +kernel
theorem d_R_sums_100 : decode b_R_sums 100 = .ok (.istore 4, 2) := by decide +kernel
theorem d_R_sums_102 : decode b_R_sums 102 = .ok (.iload 5, 2) := by decide +kernel
theorem d_R_sums_104 : decode b_R_sums 104 = .ok (.ifCond .ne 8, 3) := by decide +kernel
theorem d_R_sums_107 : decode b_R_sums 107 = .ok (.iload 7, 2) := by decide +kernel
theorem d_R_sums_109 : decode b_R_sums 109 = .ok (.ifCond .eq 7, 3) := by decide +kernel
theorem d_R_sums_112 : decode b_R_sums 112 = .ok (.iconst 1, 1) := by decide +kernel
theorem d_R_sums_113 : decode b_R_sums 113 = .ok (.goto 4, 3) := by decide +kernel
theorem d_R_sums_116 : decode b_R_sums 116 = .ok (.iconst 0, 1) := by decide +kernel
theorem d_R_sums_117 : decode b_R_sums 117 = .ok (.istore 5, 2) := by decide +kernel
theorem d_R_sums_119 : decode b_R_sums 119 = .ok (.iinc 6 1, 3) := by decide +kernel
theorem d_R_sums_122 : decode b_R_sums 122 = .ok (.goto (-83), 3) := by decide +kernel
theorem d_R_sums_125 : decode b_R_sums 125 = .ok (.iload 5, 2) := by decide +kernel
theorem d_R_sums_127 : decode b_R_sums 127 = .ok (.ifCond .eq 17, 3) := by decide +kernel
theorem d_R_sums_130 : decode b_R_sums 130 = .ok (.aload_n 0, 1) := by decide +kernel
theorem d_R_sums_131 : decode b_R_sums 131 = .ok (.aload_n 0, 1) := by decide +kernel
theorem d_R_sums_132 : decode b_R_sums 132 = .ok (.getfield 35, 3) := by decide +kernel
theorem d_R_sums_135 : decode b_R_sums 135 = .ok (.iload_n 2, 1) := by decide +kernel
theorem d_R_sums_136 : decode b_R_sums 136 = .ok (.iaload, 1) := by decide +kernel
theorem d_R_sums_137 : decode b_R_sums 137 = .ok (.iconst 0, 1) := by decide +kernel
theorem d_R_sums_138 : decode b_R_sums 138 = .ok (.iload_n 3, 1) := by decide +kernel
theorem d_R_sums_139 : decode b_R_sums 139 = .ok (.iload 4, 2) := by decide +kernel
theorem d_R_sums_141 : decode b_R_sums 141 = .ok (.invokevirtual 118, 3) := by decide +kernel
theorem d_R_sums_144 : decode b_R_sums 144 = .ok (.return_, 1) := by decide +kernel
theorem d_R_element_0 : decode b_R_element 0 = .ok (.lconst 0, 1) := by decide +kernel
theorem d_R_element_1 : decode b_R_element 1 = .ok (.lstore 4, 2) := by decide +kernel
theorem d_R_element_3 : decode b_R_element 3 = .ok (.iload_n 3, 1) := by decide +kernel
theorem d_R_element_4 : decode b_R_element 4 = .ok (.iconst 1, 1) := by decide +kernel
theorem d_R_element_5 : decode b_R_element 5 = .ok (.isub, 1) := by decide +kernel
theorem d_R_element_6 : decode b_R_element 6 = .ok (.istore 6, 2) := by decide +kernel
theorem d_R_element_8 : decode b_R_element 8 = .ok (.iload 6, 2) := by decide +kernel
theorem d_R_element_10 : decode b_R_element 10 = .ok (.ifCond .lt 39, 3) := by decide +kernel
theorem d_R_element_13 : decode b_R_element 13 = .ok (.lload 4, 2) := by decide +kernel
theorem d_R_element_15 : decode b_R_element 15 = .ok (.ldc2_w 84, 3) := by decide +kernel
theorem d_R_element_18 : decode b_R_element 18 = .ok (.lmul, 1) := by decide +kernel
theorem d_R_element_19 : decode b_R_element 19 = .ok (.aload_n 0, 1) := by decide +kernel
theorem d_R_element_20 : decode b_R_element 20 = .ok (.getfield 26, 3) := by decide +kernel
theorem d_R_element_23 : decode b_R_element 23 = .ok (.bipush 8, 2) := by decide +kernel
theorem d_R_element_25 : decode b_R_element 25 = .ok (.iload_n 1, 1) := by decide +kernel
theorem d_R_element_26 : decode b_R_element 26 = .ok (.imul, 1) := by decide +kernel
theorem d_R_element_27 : decode b_R_element 27 = .ok (.iload_n 2, 1) := by decide +kernel
theorem d_R_element_28 : decode b_R_element 28 = .ok (.iload_n 3, 1) := by decide +kernel
theorem d_R_element_29 : decode b_R_element 29 = .ok (.imul, 1) := by decide +kernel
theorem d_R_element_30 : decode b_R_element 30 = .ok (.iadd, 1) := by decide +kernel
theorem d_R_element_31 : decode b_R_element 31 = .ok (.iload 6, 2) := by decide +kernel
theorem d_R_element_33 : decode b_R_element 33 = .ok (.iadd, 1) := by decide +kernel
theorem d_R_element_34 : decode b_R_element 34 = .ok (.iaload, 1) := by decide +kernel
theorem d_R_element_35 : decode b_R_element 35 = .ok (.sipush 255, 3) := by decide +kernel
theorem d_R_element_38 : decode b_R_element 38 = .ok (.iand, 1) := by decide +kernel
theorem d_R_element_39 : decode b_R_element 39 = .ok (.i2l, 1) := by decide +kernel
theorem d_R_element_40 : decode b_R_element 40 = .ok (.ladd, 1) := by decide +kernel
theorem d_R_element_41 : decode b_R_element 41 = .ok (.lstore 4, 2) := by decide +kernel
theorem d_R_element_43 : decode b_R_element 43 = .ok (.iinc 6 (-1), 3) := by decide +kernel
theorem d_R_element_46 : decode b_R_element 46 = .ok (.goto (-38), 3) := by decide +kernel
theorem d_R_element_49 : decode b_R_element 49 = .ok (.lload 4, 2) := by decide +kernel
theorem d_R_element_51 : decode b_R_element 51 = .ok (.iload_n 3, 1) := by decide +kernel
theorem d_R_element_52 : decode b_R_element 52 = .ok (.invokestatic 86, 3) := by decide +kernel
theorem d_R_element_55 : decode b_R_element 55 = .ok (.ireturn, 1) := by decide +kernel
theorem d_R_signed_0 : decode b_R_signed 0 = .ok (.iload_n 2, 1) := by decide +kernel
theorem d_R_signed_1 : decode b_R_signed 1 = .ok (.iconst 4, 1) := by decide +kernel
theorem d_R_signed_2 : decode b_R_signed 2 = .ok (.if_icmp .ne 8, 3) := by decide +kernel
theorem d_R_signed_5 : decode b_R_signed 5 = .ok (.lload_n 0, 1) := by decide +kernel
theorem d_R_signed_6 : decode b_R_signed 6 = .ok (.l2i, 1) := by decide +kernel
theorem d_R_signed_7 : decode b_R_signed 7 = .ok (.goto 27, 3) := by decide +kernel
theorem d_R_signed_10 : decode b_R_signed 10 = .ok (.iload_n 2, 1) := by decide +kernel
theorem d_R_signed_11 : decode b_R_signed 11 = .ok (.iconst 2, 1) := by decide +kernel
theorem d_R_signed_12 : decode b_R_signed 12 = .ok (.if_icmp .ne 14, 3) := by decide +kernel
theorem d_R_signed_15 : decode b_R_signed 15 = .ok (.lload_n 0, 1) := by decide +kernel
theorem d_R_signed_16 : decode b_R_signed 16 = .ok (.bipush 48, 2) := by decide +kernel
theorem d_R_signed_18 : decode b_R_signed 18 = .ok (.lshl, 1) := by decide +kernel
theorem d_R_signed_19 : decode b_R_signed 19 = .ok (.bipush 48, 2) := by decide +kernel
theorem d_R_signed_21 : decode b_R_signed 21 = .ok (.lshr, 1) := by decide +kernel
theorem d_R_signed_22 : decode b_R_signed 22 = .ok (.l2i, 1) := by decide +kernel
theorem d_R_signed_23 : decode b_R_signed 23 = .ok (.goto 11, 3) := by decide +kernel
theorem d_R_signed_26 : decode b_R_signed 26 = .ok (.lload_n 0, 1) := by decide +kernel
theorem d_R_signed_27 : decode b_R_signed 27 = .ok (.bipush 56, 2) := by decide +kernel
theorem d_R_signed_29 : decode b_R_signed 29 = .ok (.lshl, 1) := by decide +kernel
theorem d_R_signed_30 : decode b_R_signed 30 = .ok (.bipush 56, 2) := by decide +kernel
theorem d_R_signed_32 : decode b_R_signed 32 = .ok (.lshr, 1) := by decide +kernel
theorem d_R_signed_33 : decode b_R_signed 33 = .ok (.l2i, 1) := by decide +kernel
theorem d_R_signed_34 : decode b_R_signed 34 = .ok (.ireturn, 1) := by decide +kernel
theorem d_R_bit_0 : decode b_R_bit 0 = .ok (.aload_n 0, 1) := by decide +kernel
theorem d_R_bit_1 : decode b_R_bit 1 = .ok (.getfield 26, 3) := by decide +kernel
theorem d_R_bit_4 : decode b_R_bit 4 = .ok (.bipush 8, 2) := by decide +kernel
theorem d_R_bit_6 : decode b_R_bit 6 = .ok (.iload_n 1, 1) := by decide +kernel
theorem d_R_bit_7 : decode b_R_bit 7 = .ok (.imul, 1) := by decide +kernel
theorem d_R_bit_8 : decode b_R_bit 8 = .ok (.iload_n 2, 1) := by decide +kernel
theorem d_R_bit_9 : decode b_R_bit 9 = .ok (.bipush 8, 2) := by decide +kernel
theorem d_R_bit_11 : decode b_R_bit 11 = .ok (.idiv, 1) := by decide +kernel
theorem d_R_bit_12 : decode b_R_bit 12 = .ok (.iadd, 1) := by decide +kernel
theorem d_R_bit_13 : decode b_R_bit 13 = .ok (.iaload, 1) := by decide +kernel
theorem d_R_bit_14 : decode b_R_bit 14 = .ok (.iload_n 2, 1) := by decide +kernel
theorem d_R_bit_15 : decode b_R_bit 15 = .ok (.bipush 8, 2) := by decide +kernel
theorem d_R_bit_17 : decode b_R_bit 17 = .ok (.irem, 1) := by decide +kernel
theorem d_R_bit_18 : decode b_R_bit 18 = .ok (.ishr, 1) := by decide +kernel
theorem d_R_bit_19 : decode b_R_bit 19 = .ok (.iconst 1, 1) := by decide +kernel
theorem d_R_bit_20 : decode b_R_bit 20 = .ok (.iand, 1) := by decide +kernel
theorem d_R_bit_21 : decode b_R_bit 21 = .ok (.iconst 1, 1) := by decide +kernel
theorem d_R_bit_22 : decode b_R_bit 22 = .ok (.if_icmp .ne 7, 3) := by decide +kernel
theorem d_R_bit_25 : decode b_R_bit 25 = .ok (.iconst 1, 1) := by decide +kernel
theorem d_R_bit_26 : decode b_R_bit 26 = .ok (.goto 4, 3) := by decide +kernel
theorem d_R_bit_29 : decode b_R_bit 29 = .ok (.iconst 0, 1) := by decide +kernel
theorem d_R_bit_30 : decode b_R_bit 30 = .ok (.ireturn, 1) := by decide +kernel
theorem d_R_set_0 : decode b_R_set 0 = .ok (.iconst 0, 1) := by decide +kernel
theorem d_R_set_1 : decode b_R_set 1 = .ok (.istore 5, 2) := by decide +kernel
theorem d_R_set_3 : decode b_R_set 3 = .ok (.iload 5, 2) := by decide +kernel
theorem d_R_set_5 : decode b_R_set 5 = .ok (.iload_n 3, 1) := by decide +kernel
theorem d_R_set_6 : decode b_R_set 6 = .ok (.if_icmp .ge 39, 3) := by decide +kernel
theorem d_R_set_9 : decode b_R_set 9 = .ok (.aload_n 0, 1) := by decide +kernel
theorem d_R_set_10 : decode b_R_set 10 = .ok (.getfield 26, 3) := by decide +kernel
theorem d_R_set_13 : decode b_R_set 13 = .ok (.bipush 8, 2) := by decide +kernel
theorem d_R_set_15 : decode b_R_set 15 = .ok (.iload_n 1, 1) := by decide +kernel
theorem d_R_set_16 : decode b_R_set 16 = .ok (.imul, 1) := by decide +kernel
theorem d_R_set_17 : decode b_R_set 17 = .ok (.iload_n 2, 1) := by decide +kernel
theorem d_R_set_18 : decode b_R_set 18 = .ok (.iload_n 3, 1) := by decide +kernel
theorem d_R_set_19 : decode b_R_set 19 = .ok (.imul, 1) := by decide +kernel
theorem d_R_set_20 : decode b_R_set 20 = .ok (.iadd, 1) := by decide +kernel
theorem d_R_set_21 : decode b_R_set 21 = .ok (.iload 5, 2) := by decide +kernel
theorem d_R_set_23 : decode b_R_set 23 = .ok (.iadd, 1) := by decide +kernel
theorem d_R_set_24 : decode b_R_set 24 = .ok (.iload 4, 2) := by decide +kernel
theorem d_R_set_26 : decode b_R_set 26 = .ok (.bipush 8, 2) := by decide +kernel
theorem d_R_set_28 : decode b_R_set 28 = .ok (.iload 5, 2) := by decide +kernel
theorem d_R_set_30 : decode b_R_set 30 = .ok (.imul, 1) := by decide +kernel
theorem d_R_set_31 : decode b_R_set 31 = .ok (.ishr, 1) := by decide +kernel
theorem d_R_set_32 : decode b_R_set 32 = .ok (.bipush 24, 2) := by decide +kernel
theorem d_R_set_34 : decode b_R_set 34 = .ok (.ishl, 1) := by decide +kernel
theorem d_R_set_35 : decode b_R_set 35 = .ok (.bipush 24, 2) := by decide +kernel
theorem d_R_set_37 : decode b_R_set 37 = .ok (.ishr, 1) := by decide +kernel
theorem d_R_set_38 : decode b_R_set 38 = .ok (.iastore, 1) := by decide +kernel
theorem d_R_set_39 : decode b_R_set 39 = .ok (.iinc 5 1, 3) := by decide +kernel
theorem d_R_set_42 : decode b_R_set 42 = .ok (.goto (-39), 3) := by decide +kernel
theorem d_R_set_45 : decode b_R_set 45 = .ok (.return_, 1) := by decide +kernel
theorem d_R_pairs_0 : decode b_R_pairs 0 = .ok (.aload_n 0, 1) := by decide +kernel
theorem d_R_pairs_1 : decode b_R_pairs 1 = .ok (.getfield 51, 3) := by decide +kernel
theorem d_R_pairs_4 : decode b_R_pairs 4 = .ok (.iload_n 1, 1) := by decide +kernel
theorem d_R_pairs_5 : decode b_R_pairs 5 = .ok (.iaload, 1) := by decide +kernel
theorem d_R_pairs_6 : decode b_R_pairs 6 = .ok (.istore_n 3, 1) := by decide +kernel
theorem d_R_pairs_7 : decode b_R_pairs 7 = .ok (.aload_n 0, 1) := by decide +kernel
theorem d_R_pairs_8 : decode b_R_pairs 8 = .ok (.getfield 54, 3) := by decide +kernel
theorem d_R_pairs_11 : decode b_R_pairs 11 = .ok (.iload_n 1, 1) := by decide +kernel
theorem d_R_pairs_12 : decode b_R_pairs 12 = .ok (.iaload, 1) := by decide +kernel
theorem d_R_pairs_13 : decode b_R_pairs 13 = .ok (.istore 4, 2) := by decide +kernel
theorem d_R_pairs_15 : decode b_R_pairs 15 = .ok (.aload_n 0, 1) := by decide +kernel
theorem d_R_pairs_16 : decode b_R_pairs 16 = .ok (.aload_n 0, 1) := by decide +kernel
theorem d_R_pairs_17 : decode b_R_pairs 17 = .ok (.getfield 38, 3) := by decide +kernel
theorem d_R_pairs_20 : decode b_R_pairs 20 = .ok (.iload_n 3, 1) := by decide +kernel
theorem d_R_pairs_21 : decode b_R_pairs 21 = .ok (.iaload, 1) := by decide +kernel
theorem d_R_pairs_22 : decode b_R_pairs 22 = .ok (.iload_n 2, 1) := by decide +kernel
theorem d_R_pairs_23 : decode b_R_pairs 23 = .ok (.iload 4, 2) := by decide +kernel
theorem d_R_pairs_25 : decode b_R_pairs 25 = .ok (.invokevirtual 110, 3) := by decide +kernel
theorem d_R_pairs_28 : decode b_R_pairs 28 = .ok (.istore 5, 2) := by decide +kernel
theorem d_R_pairs_30 : decode b_R_pairs 30 = .ok (.aload_n 0, 1) := by decide +kernel
theorem d_R_pairs_31 : decode b_R_pairs 31 = .ok (.getfield 32, 3) := by decide +kernel
theorem d_R_pairs_34 : decode b_R_pairs 34 = .ok (.iload_n 3, 1) := by decide +kernel
theorem d_R_pairs_35 : decode b_R_pairs 35 = .ok (.iaload, 1) := by decide +kernel
theorem d_R_pairs_36 : decode b_R_pairs 36 = .ok (.bipush 11, 2) := by decide +kernel
theorem d_R_pairs_38 : decode b_R_pairs 38 = .ok (.if_icmp .ne 12, 3) := by decide +kernel
theorem d_R_pairs_41 : decode b_R_pairs 41 = .ok (.aload_n 0, 1) := by decide +kernel
theorem d_R_pairs_42 : decode b_R_pairs 42 = .ok (.getfield 75, 3) := by decide +kernel
theorem d_R_pairs_45 : decode b_R_pairs 45 = .ok (.iload_n 1, 1) := by decide +kernel
theorem d_R_pairs_46 : decode b_R_pairs 46 = .ok (.iaload, 1) := by decide +kernel
theorem d_R_pairs_47 : decode b_R_pairs 47 = .ok (.goto 16, 3) := by decide +kernel
theorem d_R_pairs_50 : decode b_R_pairs 50 = .ok (.aload_n 0, 1) := by decide +kernel
theorem d_R_pairs_51 : decode b_R_pairs 51 = .ok (.aload_n 0, 1) := by decide +kernel
theorem d_R_pairs_52 : decode b_R_pairs 52 = .ok (.getfield 41, 3) := by decide +kernel
theorem d_R_pairs_55 : decode b_R_pairs 55 = .ok (.iload_n 3, 1) := by decide +kernel
theorem d_R_pairs_56 : decode b_R_pairs 56 = .ok (.iaload, 1) := by decide +kernel
theorem d_R_pairs_57 : decode b_R_pairs 57 = .ok (.iload_n 2, 1) := by decide +kernel
theorem d_R_pairs_58 : decode b_R_pairs 58 = .ok (.iload 4, 2) := by decide +kernel
theorem d_R_pairs_60 : decode b_R_pairs 60 = .ok (.invokevirtual 110, 3) := by decide +kernel
theorem d_R_pairs_63 : decode b_R_pairs 63 = .ok (.istore 6, 2) := by decide +kernel
theorem d_R_pairs_65 : decode b_R_pairs 65 = .ok (.aload_n 0, 1) := by decide +kernel
theorem d_R_pairs_66 : decode b_R_pairs 66 = .ok (.getfield 32, 3) := by decide +kernel
theorem d_R_pairs_69 : decode b_R_pairs 69 = .ok (.iload_n 3, 1) := by decide +kernel
theorem d_R_pairs_70 : decode b_R_pairs 70 = .ok (.iaload, 1) := by decide +kernel
theorem d_R_pairs_71 : decode b_R_pairs 71 = .ok (.bipush 9, 2) := by decide +kernel
theorem d_R_pairs_73 : decode b_R_pairs 73 = .ok (.if_icmp .ne 11, 3) := by decide +kernel
theorem d_R_pairs_76 : decode b_R_pairs 76 = .ok (.iload 5, 2) := by decide +kernel
theorem d_R_pairs_78 : decode b_R_pairs 78 = .ok (.iload 6, 2) := by decide +kernel
theorem d_R_pairs_80 : decode b_R_pairs 80 = .ok (.isub, 1) := by decide +kernel
theorem d_R_pairs_81 : decode b_R_pairs 81 = .ok (.goto 27, 3) := by decide +kernel
theorem d_R_pairs_84 : decode b_R_pairs 84 = .ok (.aload_n 0, 1) := by decide +kernel
theorem d_R_pairs_85 : decode b_R_pairs 85 = .ok (.getfield 32, 3) := by decide +kernel
theorem d_R_pairs_88 : decode b_R_pairs 88 = .ok (.iload_n 3, 1) := by decide +kernel
theorem d_R_pairs_89 : decode b_R_pairs 89 = .ok (.iaload, 1) := by decide +kernel
theorem d_R_pairs_90 : decode b_R_pairs 90 = .ok (.bipush 10, 2) := by decide +kernel
theorem d_R_pairs_92 : decode b_R_pairs 92 = .ok (.if_icmp .ne 11, 3) := by decide +kernel
theorem d_R_pairs_95 : decode b_R_pairs 95 = .ok (.iload 5, 2) := by decide +kernel
theorem d_R_pairs_97 : decode b_R_pairs 97 = .ok (.iload 6, 2) := by decide +kernel
theorem d_R_pairs_99 : decode b_R_pairs 99 = .ok (.imul, 1) := by decide +kernel
theorem d_R_pairs_100 : decode b_R_pairs 100 = .ok (.goto 8, 3) := by decide +kernel
theorem d_R_pairs_103 : decode b_R_pairs 103 = .ok (.iload 5, 2) := by decide +kernel
theorem d_R_pairs_105 : decode b_R_pairs 105 = .ok (.iload 6, 2) := by decide +kernel
theorem d_R_pairs_107 : decode b_R_pairs 107 = .ok (.iadd, 1) := by decide +kernel
theorem d_R_pairs_108 : decode b_R_pairs 108 = .ok (.ireturn, 1) := by decide +kernel
theorem d_R_moves_0 : decode b_R_moves 0 = .ok (.aload_n 0, 1) := by decide +kernel
theorem d_R_moves_1 : decode b_R_moves 1 = .ok (.getfield 51, 3) := by decide +kernel
theorem d_R_moves_4 : decode b_R_moves 4 = .ok (.iload_n 1, 1) := by decide +kernel
theorem d_R_moves_5 : decode b_R_moves 5 = .ok (.iaload, 1) := by decide +kernel
theorem d_R_moves_6 : decode b_R_moves 6 = .ok (.istore_n 3, 1) := by decide +kernel
theorem d_R_moves_7 : decode b_R_moves 7 = .ok (.aload_n 0, 1) := by decide +kernel
theorem d_R_moves_8 : decode b_R_moves 8 = .ok (.getfield 54, 3) := by decide +kernel
theorem d_R_moves_11 : decode b_R_moves 11 = .ok (.iload_n 1, 1) := by decide +kernel
theorem d_R_moves_12 : decode b_R_moves 12 = .ok (.iaload, 1) := by decide +kernel
theorem d_R_moves_13 : decode b_R_moves 13 = .ok (.istore 4, 2) := by decide +kernel
theorem d_R_moves_15 : decode b_R_moves 15 = .ok (.aload_n 0, 1) := by decide +kernel
theorem d_R_moves_16 : decode b_R_moves 16 = .ok (.iload_n 1, 1) := by decide +kernel
theorem d_R_moves_17 : decode b_R_moves 17 = .ok (.iload_n 2, 1) := by decide +kernel
theorem d_R_moves_18 : decode b_R_moves 18 = .ok (.invokevirtual 125, 3) := by decide +kernel
theorem d_R_moves_21 : decode b_R_moves 21 = .ok (.istore 5, 2) := by decide +kernel
theorem d_R_moves_23 : decode b_R_moves 23 = .ok (.aload_n 0, 1) := by decide +kernel
theorem d_R_moves_24 : decode b_R_moves 24 = .ok (.getfield 32, 3) := by decide +kernel
theorem d_R_moves_27 : decode b_R_moves 27 = .ok (.iload_n 3, 1) := by decide +kernel
theorem d_R_moves_28 : decode b_R_moves 28 = .ok (.iaload, 1) := by decide +kernel
theorem d_R_moves_29 : decode b_R_moves 29 = .ok (.bipush 18, 2) := by decide +kernel
theorem d_R_moves_31 : decode b_R_moves 31 = .ok (.if_icmp .ne 54, 3) := by decide +kernel
theorem d_R_moves_34 : decode b_R_moves 34 = .ok (.iconst 0, 1) := by decide +kernel
theorem d_R_moves_35 : decode b_R_moves 35 = .ok (.istore 6, 2) := by decide +kernel
theorem d_R_moves_37 : decode b_R_moves 37 = .ok (.iload 6, 2) := by decide +kernel
theorem d_R_moves_39 : decode b_R_moves 39 = .ok (.iload 4, 2) := by decide +kernel
theorem d_R_moves_41 : decode b_R_moves 41 = .ok (.if_icmp .ge 41, 3) := by decide +kernel
theorem d_R_moves_44 : decode b_R_moves 44 = .ok (.aload_n 0, 1) := by decide +kernel
theorem d_R_moves_45 : decode b_R_moves 45 = .ok (.getfield 29, 3) := by decide +kernel
theorem d_R_moves_48 : decode b_R_moves 48 = .ok (.iload 5, 2) := by decide +kernel
theorem d_R_moves_50 : decode b_R_moves 50 = .ok (.iload 6, 2) := by decide +kernel
theorem d_R_moves_52 : decode b_R_moves 52 = .ok (.iadd, 1) := by decide +kernel
theorem d_R_moves_53 : decode b_R_moves 53 = .ok (.aload_n 0, 1) := by decide +kernel
theorem d_R_moves_54 : decode b_R_moves 54 = .ok (.getfield 26, 3) := by decide +kernel
theorem d_R_moves_57 : decode b_R_moves 57 = .ok (.bipush 8, 2) := by decide +kernel
theorem d_R_moves_59 : decode b_R_moves 59 = .ok (.aload_n 0, 1) := by decide +kernel
theorem d_R_moves_60 : decode b_R_moves 60 = .ok (.getfield 35, 3) := by decide +kernel
theorem d_R_moves_63 : decode b_R_moves 63 = .ok (.iload_n 3, 1) := by decide +kernel
theorem d_R_moves_64 : decode b_R_moves 64 = .ok (.iaload, 1) := by decide +kernel
theorem d_R_moves_65 : decode b_R_moves 65 = .ok (.imul, 1) := by decide +kernel
theorem d_R_moves_66 : decode b_R_moves 66 = .ok (.iload_n 2, 1) := by decide +kernel
theorem d_R_moves_67 : decode b_R_moves 67 = .ok (.iload 4, 2) := by decide +kernel
theorem d_R_moves_69 : decode b_R_moves 69 = .ok (.imul, 1) := by decide +kernel
theorem d_R_moves_70 : decode b_R_moves 70 = .ok (.iadd, 1) := by decide +kernel
theorem d_R_moves_71 : decode b_R_moves 71 = .ok (.iload 6, 2) := by decide +kernel
theorem d_R_moves_73 : decode b_R_moves 73 = .ok (.iadd, 1) := by decide +kernel
theorem d_R_moves_74 : decode b_R_moves 74 = .ok (.iaload, 1) := by decide +kernel
theorem d_R_moves_75 : decode b_R_moves 75 = .ok (.iastore, 1) := by decide +kernel
theorem d_R_moves_76 : decode b_R_moves 76 = .ok (.iinc 6 1, 3) := by decide +kernel
theorem d_R_moves_79 : decode b_R_moves 79 = .ok (.goto (-42), 3) := by decide +kernel
theorem d_R_moves_82 : decode b_R_moves 82 = .ok (.goto 51, 3) := by decide +kernel
theorem d_R_moves_85 : decode b_R_moves 85 = .ok (.iconst 0, 1) := by decide +kernel
theorem d_R_moves_86 : decode b_R_moves 86 = .ok (.istore 6, 2) := by decide +kernel
theorem d_R_moves_88 : decode b_R_moves 88 = .ok (.iload 6, 2) := by decide +kernel
theorem d_R_moves_90 : decode b_R_moves 90 = .ok (.iload 4, 2) := by decide +kernel
theorem d_R_moves_92 : decode b_R_moves 92 = .ok (.if_icmp .ge 41, 3) := by decide +kernel
theorem d_R_moves_95 : decode b_R_moves 95 = .ok (.aload_n 0, 1) := by decide +kernel
theorem d_R_moves_96 : decode b_R_moves 96 = .ok (.getfield 26, 3) := by decide +kernel
theorem d_R_moves_99 : decode b_R_moves 99 = .ok (.bipush 8, 2) := by decide +kernel
theorem d_R_moves_101 : decode b_R_moves 101 = .ok (.aload_n 0, 1) := by decide +kernel
theorem d_R_moves_102 : decode b_R_moves 102 = .ok (.getfield 35, 3) := by decide +kernel
theorem d_R_moves_105 : decode b_R_moves 105 = .ok (.iload_n 3, 1) := by decide +kernel
theorem d_R_moves_106 : decode b_R_moves 106 = .ok (.iaload, 1) := by decide +kernel
theorem d_R_moves_107 : decode b_R_moves 107 = .ok (.imul, 1) := by decide +kernel
theorem d_R_moves_108 : decode b_R_moves 108 = .ok (.iload_n 2, 1) := by decide +kernel
theorem d_R_moves_109 : decode b_R_moves 109 = .ok (.iload 4, 2) := by decide +kernel
theorem d_R_moves_111 : decode b_R_moves 111 = .ok (.imul, 1) := by decide +kernel
theorem d_R_moves_112 : decode b_R_moves 112 = .ok (.iadd, 1) := by decide +kernel
theorem d_R_moves_113 : decode b_R_moves 113 = .ok (.iload 6, 2) := by decide +kernel
theorem d_R_moves_115 : decode b_R_moves 115 = .ok (.iadd, 1) := by decide +kernel
theorem d_R_moves_116 : decode b_R_moves 116 = .ok (.aload_n 0, 1) := by decide +kernel
theorem d_R_moves_117 : decode b_R_moves 117 = .ok (.getfield 29, 3) := by decide +kernel
theorem d_R_moves_120 : decode b_R_moves 120 = .ok (.iload 5, 2) := by decide +kernel
theorem d_R_moves_122 : decode b_R_moves 122 = .ok (.iload 6, 2) := by decide +kernel
theorem d_R_moves_124 : decode b_R_moves 124 = .ok (.iadd, 1) := by decide +kernel
theorem d_R_moves_125 : decode b_R_moves 125 = .ok (.iaload, 1) := by decide +kernel
theorem d_R_moves_126 : decode b_R_moves 126 = .ok (.iastore, 1) := by decide +kernel
theorem d_R_moves_127 : decode b_R_moves 127 = .ok (.iinc 6 1, 3) := by decide +kernel
theorem d_R_moves_130 : decode b_R_moves 130 = .ok (.goto (-42), 3) := by decide +kernel
theorem d_R_moves_133 : decode b_R_moves 133 = .ok (.return_, 1) := by decide +kernel
theorem d_R_place_0 : decode b_R_place 0 = .ok (.aload_n 0, 1) := by decide +kernel
theorem d_R_place_1 : decode b_R_place 1 = .ok (.getfield 51, 3) := by decide +kernel
theorem d_R_place_4 : decode b_R_place 4 = .ok (.iload_n 1, 1) := by decide +kernel
theorem d_R_place_5 : decode b_R_place 5 = .ok (.iaload, 1) := by decide +kernel
theorem d_R_place_6 : decode b_R_place 6 = .ok (.istore_n 3, 1) := by decide +kernel
theorem d_R_place_7 : decode b_R_place 7 = .ok (.aload_n 0, 1) := by decide +kernel
theorem d_R_place_8 : decode b_R_place 8 = .ok (.getfield 32, 3) := by decide +kernel
theorem d_R_place_11 : decode b_R_place 11 = .ok (.iload_n 3, 1) := by decide +kernel
theorem d_R_place_12 : decode b_R_place 12 = .ok (.iaload, 1) := by decide +kernel
theorem d_R_place_13 : decode b_R_place 13 = .ok (.bipush 19, 2) := by decide +kernel
theorem d_R_place_15 : decode b_R_place 15 = .ok (.if_icmp .ne 40, 3) := by decide +kernel
theorem d_R_place_18 : decode b_R_place 18 = .ok (.aload_n 0, 1) := by decide +kernel
theorem d_R_place_19 : decode b_R_place 19 = .ok (.getfield 72, 3) := by decide +kernel
theorem d_R_place_22 : decode b_R_place 22 = .ok (.iload_n 1, 1) := by decide +kernel
theorem d_R_place_23 : decode b_R_place 23 = .ok (.iaload, 1) := by decide +kernel
theorem d_R_place_24 : decode b_R_place 24 = .ok (.aload_n 0, 1) := by decide +kernel
theorem d_R_place_25 : decode b_R_place 25 = .ok (.aload_n 0, 1) := by decide +kernel
theorem d_R_place_26 : decode b_R_place 26 = .ok (.getfield 41, 3) := by decide +kernel
theorem d_R_place_29 : decode b_R_place 29 = .ok (.iload_n 3, 1) := by decide +kernel
theorem d_R_place_30 : decode b_R_place 30 = .ok (.iaload, 1) := by decide +kernel
theorem d_R_place_31 : decode b_R_place 31 = .ok (.iload_n 2, 1) := by decide +kernel
theorem d_R_place_32 : decode b_R_place 32 = .ok (.aload_n 0, 1) := by decide +kernel
theorem d_R_place_33 : decode b_R_place 33 = .ok (.getfield 54, 3) := by decide +kernel
theorem d_R_place_36 : decode b_R_place 36 = .ok (.iload_n 1, 1) := by decide +kernel
theorem d_R_place_37 : decode b_R_place 37 = .ok (.iaload, 1) := by decide +kernel
theorem d_R_place_38 : decode b_R_place 38 = .ok (.invokevirtual 110, 3) := by decide +kernel
theorem d_R_place_41 : decode b_R_place 41 = .ok (.aload_n 0, 1) := by decide +kernel
theorem d_R_place_42 : decode b_R_place 42 = .ok (.getfield 54, 3) := by decide +kernel
theorem d_R_place_45 : decode b_R_place 45 = .ok (.iload_n 1, 1) := by decide +kernel
theorem d_R_place_46 : decode b_R_place 46 = .ok (.iaload, 1) := by decide +kernel
theorem d_R_place_47 : decode b_R_place 47 = .ok (.invokestatic 122, 3) := by decide +kernel
theorem d_R_place_50 : decode b_R_place 50 = .ok (.l2i, 1) := by decide +kernel
theorem d_R_place_51 : decode b_R_place 51 = .ok (.iadd, 1) := by decide +kernel
theorem d_R_place_52 : decode b_R_place 52 = .ok (.goto 18, 3) := by decide +kernel
theorem d_R_place_55 : decode b_R_place 55 = .ok (.aload_n 0, 1) := by decide +kernel
theorem d_R_place_56 : decode b_R_place 56 = .ok (.getfield 72, 3) := by decide +kernel
theorem d_R_place_59 : decode b_R_place 59 = .ok (.iload_n 1, 1) := by decide +kernel
theorem d_R_place_60 : decode b_R_place 60 = .ok (.iaload, 1) := by decide +kernel
theorem d_R_place_61 : decode b_R_place 61 = .ok (.iload_n 2, 1) := by decide +kernel
theorem d_R_place_62 : decode b_R_place 62 = .ok (.aload_n 0, 1) := by decide +kernel
theorem d_R_place_63 : decode b_R_place 63 = .ok (.getfield 75, 3) := by decide +kernel
theorem d_R_place_66 : decode b_R_place 66 = .ok (.iload_n 1, 1) := by decide +kernel
theorem d_R_place_67 : decode b_R_place 67 = .ok (.iaload, 1) := by decide +kernel
theorem d_R_place_68 : decode b_R_place 68 = .ok (.imul, 1) := by decide +kernel
theorem d_R_place_69 : decode b_R_place 69 = .ok (.iadd, 1) := by decide +kernel
theorem d_R_place_70 : decode b_R_place 70 = .ok (.ireturn, 1) := by decide +kernel
theorem d_R_plain_0 : decode b_R_plain 0 = .ok (.iload_n 1, 1) := by decide +kernel
theorem d_R_plain_1 : decode b_R_plain 1 = .ok (.iconst 4, 1) := by decide +kernel
theorem d_R_plain_2 : decode b_R_plain 2 = .ok (.if_icmp .ne 12, 3) := by decide +kernel
theorem d_R_plain_5 : decode b_R_plain 5 = .ok (.iload_n 0, 1) := by decide +kernel
theorem d_R_plain_6 : decode b_R_plain 6 = .ok (.i2l, 1) := by decide +kernel
theorem d_R_plain_7 : decode b_R_plain 7 = .ok (.ldc2_w 90, 3) := by decide +kernel
theorem d_R_plain_10 : decode b_R_plain 10 = .ok (.land, 1) := by decide +kernel
theorem d_R_plain_11 : decode b_R_plain 11 = .ok (.goto 23, 3) := by decide +kernel
theorem d_R_plain_14 : decode b_R_plain 14 = .ok (.iload_n 1, 1) := by decide +kernel
theorem d_R_plain_15 : decode b_R_plain 15 = .ok (.iconst 2, 1) := by decide +kernel
theorem d_R_plain_16 : decode b_R_plain 16 = .ok (.if_icmp .ne 12, 3) := by decide +kernel
theorem d_R_plain_19 : decode b_R_plain 19 = .ok (.iload_n 0, 1) := by decide +kernel
theorem d_R_plain_20 : decode b_R_plain 20 = .ok (.i2l, 1) := by decide +kernel
theorem d_R_plain_21 : decode b_R_plain 21 = .ok (.ldc2_w 92, 3) := by decide +kernel
theorem d_R_plain_24 : decode b_R_plain 24 = .ok (.land, 1) := by decide +kernel
theorem d_R_plain_25 : decode b_R_plain 25 = .ok (.goto 9, 3) := by decide +kernel
theorem d_R_plain_28 : decode b_R_plain 28 = .ok (.iload_n 0, 1) := by decide +kernel
theorem d_R_plain_29 : decode b_R_plain 29 = .ok (.i2l, 1) := by decide +kernel
theorem d_R_plain_30 : decode b_R_plain 30 = .ok (.ldc2_w 94, 3) := by decide +kernel
theorem d_R_plain_33 : decode b_R_plain 33 = .ok (.land, 1) := by decide +kernel
theorem d_R_plain_34 : decode b_R_plain 34 = .ok (.lreturn, 1) := by decide +kernel
theorem d_R_picks_0 : decode b_R_picks 0 = .ok (.aload_n 0, 1) := by decide +kernel
theorem d_R_picks_1 : decode b_R_picks 1 = .ok (.getfield 51, 3) := by decide +kernel
theorem d_R_picks_4 : decode b_R_picks 4 = .ok (.iload_n 1, 1) := by decide +kernel
theorem d_R_picks_5 : decode b_R_picks 5 = .ok (.iaload, 1) := by decide +kernel
theorem d_R_picks_6 : decode b_R_picks 6 = .ok (.istore_n 3, 1) := by decide +kernel
theorem d_R_picks_7 : decode b_R_picks 7 = .ok (.aload_n 0, 1) := by decide +kernel
theorem d_R_picks_8 : decode b_R_picks 8 = .ok (.getfield 54, 3) := by decide +kernel
theorem d_R_picks_11 : decode b_R_picks 11 = .ok (.iload_n 1, 1) := by decide +kernel
theorem d_R_picks_12 : decode b_R_picks 12 = .ok (.iaload, 1) := by decide +kernel
theorem d_R_picks_13 : decode b_R_picks 13 = .ok (.istore 4, 2) := by decide +kernel
theorem d_R_picks_15 : decode b_R_picks 15 = .ok (.bipush 8, 2) := by decide +kernel
theorem d_R_picks_17 : decode b_R_picks 17 = .ok (.aload_n 0, 1) := by decide +kernel
theorem d_R_picks_18 : decode b_R_picks 18 = .ok (.getfield 57, 3) := by decide +kernel
theorem d_R_picks_21 : decode b_R_picks 21 = .ok (.iload_n 1, 1) := by decide +kernel
theorem d_R_picks_22 : decode b_R_picks 22 = .ok (.iaload, 1) := by decide +kernel
theorem d_R_picks_23 : decode b_R_picks 23 = .ok (.imul, 1) := by decide +kernel
theorem d_R_picks_24 : decode b_R_picks 24 = .ok (.iload 4, 2) := by decide +kernel
theorem d_R_picks_26 : decode b_R_picks 26 = .ok (.idiv, 1) := by decide +kernel
theorem d_R_picks_27 : decode b_R_picks 27 = .ok (.istore 5, 2) := by decide +kernel
theorem d_R_picks_29 : decode b_R_picks 29 = .ok (.aload_n 0, 1) := by decide +kernel
theorem d_R_picks_30 : decode b_R_picks 30 = .ok (.getfield 32, 3) := by decide +kernel
theorem d_R_picks_33 : decode b_R_picks 33 = .ok (.iload_n 3, 1) := by decide +kernel
theorem d_R_picks_34 : decode b_R_picks 34 = .ok (.iaload, 1) := by decide +kernel
theorem d_R_picks_35 : decode b_R_picks 35 = .ok (.bipush 15, 2) := by decide +kernel
theorem d_R_picks_37 : decode b_R_picks 37 = .ok (.if_icmp .ne 15, 3) := by decide +kernel
theorem d_R_picks_40 : decode b_R_picks 40 = .ok (.iload_n 2, 1) := by decide +kernel
theorem d_R_picks_41 : decode b_R_picks 41 = .ok (.aload_n 0, 1) := by decide +kernel
theorem d_R_picks_42 : decode b_R_picks 42 = .ok (.getfield 75, 3) := by decide +kernel
theorem d_R_picks_45 : decode b_R_picks 45 = .ok (.iload_n 1, 1) := by decide +kernel
theorem d_R_picks_46 : decode b_R_picks 46 = .ok (.iaload, 1) := by decide +kernel
theorem d_R_picks_47 : decode b_R_picks 47 = .ok (.iadd, 1) := by decide +kernel
theorem d_R_picks_48 : decode b_R_picks 48 = .ok (.i2l, 1) := by decide +kernel
theorem d_R_picks_49 : decode b_R_picks 49 = .ok (.goto 21, 3) := by decide +kernel
theorem d_R_picks_52 : decode b_R_picks 52 = .ok (.aload_n 0, 1) := by decide +kernel
theorem d_R_picks_53 : decode b_R_picks 53 = .ok (.aload_n 0, 1) := by decide +kernel
theorem d_R_picks_54 : decode b_R_picks 54 = .ok (.getfield 41, 3) := by decide +kernel
theorem d_R_picks_57 : decode b_R_picks 57 = .ok (.iload_n 3, 1) := by decide +kernel
theorem d_R_picks_58 : decode b_R_picks 58 = .ok (.iaload, 1) := by decide +kernel
theorem d_R_picks_59 : decode b_R_picks 59 = .ok (.iload_n 2, 1) := by decide +kernel
theorem d_R_picks_60 : decode b_R_picks 60 = .ok (.iload 4, 2) := by decide +kernel
theorem d_R_picks_62 : decode b_R_picks 62 = .ok (.invokevirtual 110, 3) := by decide +kernel
theorem d_R_picks_65 : decode b_R_picks 65 = .ok (.iload 4, 2) := by decide +kernel
theorem d_R_picks_67 : decode b_R_picks 67 = .ok (.invokestatic 122, 3) := by decide +kernel
theorem d_R_picks_70 : decode b_R_picks 70 = .ok (.lstore 6, 2) := by decide +kernel
theorem d_R_picks_72 : decode b_R_picks 72 = .ok (.lload 6, 2) := by decide +kernel
theorem d_R_picks_74 : decode b_R_picks 74 = .ok (.lconst 0, 1) := by decide +kernel
theorem d_R_picks_75 : decode b_R_picks 75 = .ok (.lcmp, 1) := by decide +kernel
theorem d_R_picks_76 : decode b_R_picks 76 = .ok (.ifCond .lt 12, 3) := by decide +kernel
theorem d_R_picks_79 : decode b_R_picks 79 = .ok (.lload 6, 2) := by decide +kernel
theorem d_R_picks_81 : decode b_R_picks 81 = .ok (.iload 5, 2) := by decide +kernel
theorem d_R_picks_83 : decode b_R_picks 83 = .ok (.i2l, 1) := by decide +kernel
theorem d_R_picks_84 : decode b_R_picks 84 = .ok (.lcmp, 1) := by decide +kernel
theorem d_R_picks_85 : decode b_R_picks 85 = .ok (.ifCond .lt 7, 3) := by decide +kernel
theorem d_R_picks_88 : decode b_R_picks 88 = .ok (.iconst 0, 1) := by decide +kernel
theorem d_R_picks_89 : decode b_R_picks 89 = .ok (.goto 18, 3) := by decide +kernel
theorem d_R_picks_92 : decode b_R_picks 92 = .ok (.aload_n 0, 1) := by decide +kernel
theorem d_R_picks_93 : decode b_R_picks 93 = .ok (.aload_n 0, 1) := by decide +kernel
theorem d_R_picks_94 : decode b_R_picks 94 = .ok (.getfield 38, 3) := by decide +kernel
theorem d_R_picks_97 : decode b_R_picks 97 = .ok (.iload_n 3, 1) := by decide +kernel
theorem d_R_picks_98 : decode b_R_picks 98 = .ok (.iaload, 1) := by decide +kernel
theorem d_R_picks_99 : decode b_R_picks 99 = .ok (.lload 6, 2) := by decide +kernel
theorem d_R_picks_101 : decode b_R_picks 101 = .ok (.l2i, 1) := by decide +kernel
theorem d_R_picks_102 : decode b_R_picks 102 = .ok (.iload 4, 2) := by decide +kernel
theorem d_R_picks_104 : decode b_R_picks 104 = .ok (.invokevirtual 110, 3) := by decide +kernel
theorem d_R_picks_107 : decode b_R_picks 107 = .ok (.ireturn, 1) := by decide +kernel
theorem d_R_leaves_0 : decode b_R_leaves 0 = .ok (.iconst 0, 1) := by decide +kernel
theorem d_R_leaves_1 : decode b_R_leaves 1 = .ok (.istore_n 1, 1) := by decide +kernel
theorem d_R_leaves_2 : decode b_R_leaves 2 = .ok (.iconst 0, 1) := by decide +kernel
theorem d_R_leaves_3 : decode b_R_leaves 3 = .ok (.istore_n 2, 1) := by decide +kernel
theorem d_R_leaves_4 : decode b_R_leaves 4 = .ok (.iload_n 2, 1) := by decide +kernel
theorem d_R_leaves_5 : decode b_R_leaves 5 = .ok (.aload_n 0, 1) := by decide +kernel
theorem d_R_leaves_6 : decode b_R_leaves 6 = .ok (.getfield 146, 3) := by decide +kernel
theorem d_R_leaves_9 : decode b_R_leaves 9 = .ok (.if_icmp .ge 135, 3) := by decide +kernel
theorem d_R_leaves_12 : decode b_R_leaves 12 = .ok (.aload_n 0, 1) := by decide +kernel
theorem d_R_leaves_13 : decode b_R_leaves 13 = .ok (.getfield 66, 3) := by decide +kernel
theorem d_R_leaves_16 : decode b_R_leaves 16 = .ok (.iload_n 2, 1) := by decide +kernel
theorem d_R_leaves_17 : decode b_R_leaves 17 = .ok (.iaload, 1) := by decide +kernel
theorem d_R_leaves_18 : decode b_R_leaves 18 = .ok (.aload_n 0, 1) := by decide +kernel
theorem d_R_leaves_19 : decode b_R_leaves 19 = .ok (.getfield 63, 3) := by decide +kernel
theorem d_R_leaves_22 : decode b_R_leaves 22 = .ok (.iload_n 2, 1) := by decide +kernel
theorem d_R_leaves_23 : decode b_R_leaves 23 = .ok (.iaload, 1) := by decide +kernel
theorem d_R_leaves_24 : decode b_R_leaves 24 = .ok (.if_icmp .ge 114, 3) := by decide +kernel
theorem d_R_leaves_27 : decode b_R_leaves 27 = .ok (.aload_n 0, 1) := by decide +kernel
theorem d_R_leaves_28 : decode b_R_leaves 28 = .ok (.getfield 51, 3) := by decide +kernel
theorem d_R_leaves_31 : decode b_R_leaves 31 = .ok (.iload_n 1, 1) := by decide +kernel
theorem d_R_leaves_32 : decode b_R_leaves 32 = .ok (.aload_n 0, 1) := by decide +kernel
theorem d_R_leaves_33 : decode b_R_leaves 33 = .ok (.getfield 51, 3) := by decide +kernel
theorem d_R_leaves_36 : decode b_R_leaves 36 = .ok (.iload_n 2, 1) := by decide +kernel
theorem d_R_leaves_37 : decode b_R_leaves 37 = .ok (.iaload, 1) := by decide +kernel
theorem d_R_leaves_38 : decode b_R_leaves 38 = .ok (.iastore, 1) := by decide +kernel
theorem d_R_leaves_39 : decode b_R_leaves 39 = .ok (.aload_n 0, 1) := by decide +kernel
theorem d_R_leaves_40 : decode b_R_leaves 40 = .ok (.getfield 54, 3) := by decide +kernel
theorem d_R_leaves_43 : decode b_R_leaves 43 = .ok (.iload_n 1, 1) := by decide +kernel
theorem d_R_leaves_44 : decode b_R_leaves 44 = .ok (.aload_n 0, 1) := by decide +kernel
theorem d_R_leaves_45 : decode b_R_leaves 45 = .ok (.getfield 54, 3) := by decide +kernel
theorem d_R_leaves_48 : decode b_R_leaves 48 = .ok (.iload_n 2, 1) := by decide +kernel
theorem d_R_leaves_49 : decode b_R_leaves 49 = .ok (.iaload, 1) := by decide +kernel
theorem d_R_leaves_50 : decode b_R_leaves 50 = .ok (.iastore, 1) := by decide +kernel
theorem d_R_leaves_51 : decode b_R_leaves 51 = .ok (.aload_n 0, 1) := by decide +kernel
theorem d_R_leaves_52 : decode b_R_leaves 52 = .ok (.getfield 57, 3) := by decide +kernel
theorem d_R_leaves_55 : decode b_R_leaves 55 = .ok (.iload_n 1, 1) := by decide +kernel
theorem d_R_leaves_56 : decode b_R_leaves 56 = .ok (.aload_n 0, 1) := by decide +kernel
theorem d_R_leaves_57 : decode b_R_leaves 57 = .ok (.getfield 57, 3) := by decide +kernel
theorem d_R_leaves_60 : decode b_R_leaves 60 = .ok (.iload_n 2, 1) := by decide +kernel
theorem d_R_leaves_61 : decode b_R_leaves 61 = .ok (.iaload, 1) := by decide +kernel
theorem d_R_leaves_62 : decode b_R_leaves 62 = .ok (.iastore, 1) := by decide +kernel
theorem d_R_leaves_63 : decode b_R_leaves 63 = .ok (.aload_n 0, 1) := by decide +kernel
theorem d_R_leaves_64 : decode b_R_leaves 64 = .ok (.getfield 60, 3) := by decide +kernel
theorem d_R_leaves_67 : decode b_R_leaves 67 = .ok (.iload_n 1, 1) := by decide +kernel
theorem d_R_leaves_68 : decode b_R_leaves 68 = .ok (.aload_n 0, 1) := by decide +kernel
theorem d_R_leaves_69 : decode b_R_leaves 69 = .ok (.getfield 60, 3) := by decide +kernel
theorem d_R_leaves_72 : decode b_R_leaves 72 = .ok (.iload_n 2, 1) := by decide +kernel
theorem d_R_leaves_73 : decode b_R_leaves 73 = .ok (.iaload, 1) := by decide +kernel
theorem d_R_leaves_74 : decode b_R_leaves 74 = .ok (.iastore, 1) := by decide +kernel
theorem d_R_leaves_75 : decode b_R_leaves 75 = .ok (.aload_n 0, 1) := by decide +kernel
theorem d_R_leaves_76 : decode b_R_leaves 76 = .ok (.getfield 63, 3) := by decide +kernel
theorem d_R_leaves_79 : decode b_R_leaves 79 = .ok (.iload_n 1, 1) := by decide +kernel
theorem d_R_leaves_80 : decode b_R_leaves 80 = .ok (.aload_n 0, 1) := by decide +kernel
theorem d_R_leaves_81 : decode b_R_leaves 81 = .ok (.getfield 63, 3) := by decide +kernel
theorem d_R_leaves_84 : decode b_R_leaves 84 = .ok (.iload_n 2, 1) := by decide +kernel
theorem d_R_leaves_85 : decode b_R_leaves 85 = .ok (.iaload, 1) := by decide +kernel
theorem d_R_leaves_86 : decode b_R_leaves 86 = .ok (.iastore, 1) := by decide +kernel
theorem d_R_leaves_87 : decode b_R_leaves 87 = .ok (.aload_n 0, 1) := by decide +kernel
theorem d_R_leaves_88 : decode b_R_leaves 88 = .ok (.getfield 66, 3) := by decide +kernel
theorem d_R_leaves_91 : decode b_R_leaves 91 = .ok (.iload_n 1, 1) := by decide +kernel
theorem d_R_leaves_92 : decode b_R_leaves 92 = .ok (.aload_n 0, 1) := by decide +kernel
theorem d_R_leaves_93 : decode b_R_leaves 93 = .ok (.getfield 66, 3) := by decide +kernel
theorem d_R_leaves_96 : decode b_R_leaves 96 = .ok (.iload_n 2, 1) := by decide +kernel
theorem d_R_leaves_97 : decode b_R_leaves 97 = .ok (.iaload, 1) := by decide +kernel
theorem d_R_leaves_98 : decode b_R_leaves 98 = .ok (.iastore, 1) := by decide +kernel
theorem d_R_leaves_99 : decode b_R_leaves 99 = .ok (.aload_n 0, 1) := by decide +kernel
theorem d_R_leaves_100 : decode b_R_leaves 100 = .ok (.getfield 69, 3) := by decide +kernel
theorem d_R_leaves_103 : decode b_R_leaves 103 = .ok (.iload_n 1, 1) := by decide +kernel
theorem d_R_leaves_104 : decode b_R_leaves 104 = .ok (.aload_n 0, 1) := by decide +kernel
theorem d_R_leaves_105 : decode b_R_leaves 105 = .ok (.getfield 69, 3) := by decide +kernel
theorem d_R_leaves_108 : decode b_R_leaves 108 = .ok (.iload_n 2, 1) := by decide +kernel
theorem d_R_leaves_109 : decode b_R_leaves 109 = .ok (.iaload, 1) := by decide +kernel
theorem d_R_leaves_110 : decode b_R_leaves 110 = .ok (.iastore, 1) := by decide +kernel
theorem d_R_leaves_111 : decode b_R_leaves 111 = .ok (.aload_n 0, 1) := by decide +kernel
theorem d_R_leaves_112 : decode b_R_leaves 112 = .ok (.getfield 72, 3) := by decide +kernel
theorem d_R_leaves_115 : decode b_R_leaves 115 = .ok (.iload_n 1, 1) := by decide +kernel
theorem d_R_leaves_116 : decode b_R_leaves 116 = .ok (.aload_n 0, 1) := by decide +kernel
theorem d_R_leaves_117 : decode b_R_leaves 117 = .ok (.getfield 72, 3) := by decide +kernel
theorem d_R_leaves_120 : decode b_R_leaves 120 = .ok (.iload_n 2, 1) := by decide +kernel
theorem d_R_leaves_121 : decode b_R_leaves 121 = .ok (.iaload, 1) := by decide +kernel
theorem d_R_leaves_122 : decode b_R_leaves 122 = .ok (.iastore, 1) := by decide +kernel
theorem d_R_leaves_123 : decode b_R_leaves 123 = .ok (.aload_n 0, 1) := by decide +kernel
theorem d_R_leaves_124 : decode b_R_leaves 124 = .ok (.getfield 75, 3) := by decide +kernel
theorem d_R_leaves_127 : decode b_R_leaves 127 = .ok (.iload_n 1, 1) := by decide +kernel
theorem d_R_leaves_128 : decode b_R_leaves 128 = .ok (.aload_n 0, 1) := by decide +kernel
theorem d_R_leaves_129 : decode b_R_leaves 129 = .ok (.getfield 75, 3) := by decide +kernel
theorem d_R_leaves_132 : decode b_R_leaves 132 = .ok (.iload_n 2, 1) := by decide +kernel
theorem d_R_leaves_133 : decode b_R_leaves 133 = .ok (.iaload, 1) := by decide +kernel
theorem d_R_leaves_134 : decode b_R_leaves 134 = .ok (.iastore, 1) := by decide +kernel
theorem d_R_leaves_135 : decode b_R_leaves 135 = .ok (.iinc 1 1, 3) := by decide +kernel
theorem d_R_leaves_138 : decode b_R_leaves 138 = .ok (.iinc 2 1, 3) := by decide +kernel
theorem d_R_leaves_141 : decode b_R_leaves 141 = .ok (.goto (-137), 3) := by decide +kernel
theorem d_R_leaves_144 : decode b_R_leaves 144 = .ok (.aload_n 0, 1) := by decide +kernel
theorem d_R_leaves_145 : decode b_R_leaves 145 = .ok (.iload_n 1, 1) := by decide +kernel
theorem d_R_leaves_146 : decode b_R_leaves 146 = .ok (.putfield 146, 3) := by decide +kernel
theorem d_R_leaves_149 : decode b_R_leaves 149 = .ok (.return_, 1) := by decide +kernel
theorem d_R_goesOn_0 : decode b_R_goesOn 0 = .ok (.aload_n 0, 1) := by decide +kernel
theorem d_R_goesOn_1 : decode b_R_goesOn 1 = .ok (.getfield 170, 3) := by decide +kernel
theorem d_R_goesOn_4 : decode b_R_goesOn 4 = .ok (.ifCond .lt 39, 3) := by decide +kernel
theorem d_R_goesOn_7 : decode b_R_goesOn 7 = .ok (.aload_n 0, 1) := by decide +kernel
theorem d_R_goesOn_8 : decode b_R_goesOn 8 = .ok (.getfield 170, 3) := by decide +kernel
theorem d_R_goesOn_11 : decode b_R_goesOn 11 = .ok (.aload_n 0, 1) := by decide +kernel
theorem d_R_goesOn_12 : decode b_R_goesOn 12 = .ok (.getfield 179, 3) := by decide +kernel
theorem d_R_goesOn_15 : decode b_R_goesOn 15 = .ok (.if_icmp .ge 28, 3) := by decide +kernel
theorem d_R_goesOn_18 : decode b_R_goesOn 18 = .ok (.aload_n 0, 1) := by decide +kernel
theorem d_R_goesOn_19 : decode b_R_goesOn 19 = .ok (.getfield 32, 3) := by decide +kernel
theorem d_R_goesOn_22 : decode b_R_goesOn 22 = .ok (.aload_n 0, 1) := by decide +kernel
theorem d_R_goesOn_23 : decode b_R_goesOn 23 = .ok (.getfield 170, 3) := by decide +kernel
theorem d_R_goesOn_26 : decode b_R_goesOn 26 = .ok (.iaload, 1) := by decide +kernel
theorem d_R_goesOn_27 : decode b_R_goesOn 27 = .ok (.bipush 8, 2) := by decide +kernel
theorem d_R_goesOn_29 : decode b_R_goesOn 29 = .ok (.if_icmp .lt 22, 3) := by decide +kernel
theorem d_R_goesOn_32 : decode b_R_goesOn 32 = .ok (.aload_n 0, 1) := by decide +kernel
theorem d_R_goesOn_33 : decode b_R_goesOn 33 = .ok (.aload_n 0, 1) := by decide +kernel
theorem d_R_goesOn_34 : decode b_R_goesOn 34 = .ok (.getfield 170, 3) := by decide +kernel
theorem d_R_goesOn_37 : decode b_R_goesOn 37 = .ok (.invokevirtual 182, 3) := by decide +kernel
theorem d_R_goesOn_40 : decode b_R_goesOn 40 = .ok (.ifCond .eq 11, 3) := by decide +kernel
theorem d_R_goesOn_43 : decode b_R_goesOn 43 = .ok (.aload_n 0, 1) := by decide +kernel
theorem d_R_goesOn_44 : decode b_R_goesOn 44 = .ok (.iconst 3, 1) := by decide +kernel
theorem d_R_goesOn_45 : decode b_R_goesOn 45 = .ok (.putfield 9, 3) := by decide +kernel
theorem d_R_goesOn_48 : decode b_R_goesOn 48 = .ok (.goto 109, 3) := by decide +kernel
theorem d_R_goesOn_51 : decode b_R_goesOn 51 = .ok (.aload_n 0, 1) := by decide +kernel
theorem d_R_goesOn_52 : decode b_R_goesOn 52 = .ok (.getfield 32, 3) := by decide +kernel
theorem d_R_goesOn_55 : decode b_R_goesOn 55 = .ok (.aload_n 0, 1) := by decide +kernel
theorem d_R_goesOn_56 : decode b_R_goesOn 56 = .ok (.getfield 170, 3) := by decide +kernel
theorem d_R_goesOn_59 : decode b_R_goesOn 59 = .ok (.iaload, 1) := by decide +kernel
theorem d_R_goesOn_60 : decode b_R_goesOn 60 = .ok (.iconst 4, 1) := by decide +kernel
theorem d_R_goesOn_61 : decode b_R_goesOn 61 = .ok (.if_icmp .ne 11, 3) := by decide +kernel
theorem d_R_goesOn_64 : decode b_R_goesOn 64 = .ok (.aload_n 0, 1) := by decide +kernel
theorem d_R_goesOn_65 : decode b_R_goesOn 65 = .ok (.iconst 1, 1) := by decide +kernel
theorem d_R_goesOn_66 : decode b_R_goesOn 66 = .ok (.putfield 9, 3) := by decide +kernel
theorem d_R_goesOn_69 : decode b_R_goesOn 69 = .ok (.goto 88, 3) := by decide +kernel
theorem d_R_goesOn_72 : decode b_R_goesOn 72 = .ok (.aload_n 0, 1) := by decide +kernel
theorem d_R_goesOn_73 : decode b_R_goesOn 73 = .ok (.getfield 32, 3) := by decide +kernel
theorem d_R_goesOn_76 : decode b_R_goesOn 76 = .ok (.aload_n 0, 1) := by decide +kernel
theorem d_R_goesOn_77 : decode b_R_goesOn 77 = .ok (.getfield 170, 3) := by decide +kernel
theorem d_R_goesOn_80 : decode b_R_goesOn 80 = .ok (.iaload, 1) := by decide +kernel
theorem d_R_goesOn_81 : decode b_R_goesOn 81 = .ok (.bipush 8, 2) := by decide +kernel
theorem d_R_goesOn_83 : decode b_R_goesOn 83 = .ok (.if_icmp .ge 31, 3) := by decide +kernel
theorem d_R_goesOn_86 : decode b_R_goesOn 86 = .ok (.aload_n 0, 1) := by decide +kernel
theorem d_R_goesOn_87 : decode b_R_goesOn 87 = .ok (.aload_n 0, 1) := by decide +kernel
theorem d_R_goesOn_88 : decode b_R_goesOn 88 = .ok (.getfield 170, 3) := by decide +kernel
theorem d_R_goesOn_91 : decode b_R_goesOn 91 = .ok (.invokevirtual 186, 3) := by decide +kernel
theorem d_R_goesOn_94 : decode b_R_goesOn 94 = .ok (.istore_n 1, 1) := by decide +kernel
theorem d_R_goesOn_95 : decode b_R_goesOn 95 = .ok (.aload_n 0, 1) := by decide +kernel
theorem d_R_goesOn_96 : decode b_R_goesOn 96 = .ok (.iload_n 1, 1) := by decide +kernel
theorem d_R_goesOn_97 : decode b_R_goesOn 97 = .ok (.ifCond .eq 7, 3) := by decide +kernel
theorem d_R_goesOn_100 : decode b_R_goesOn 100 = .ok (.iconst 0, 1) := by decide +kernel
theorem d_R_goesOn_101 : decode b_R_goesOn 101 = .ok (.goto 7, 3) := by decide +kernel
theorem d_R_goesOn_104 : decode b_R_goesOn 104 = .ok (.aload_n 0, 1) := by decide +kernel
theorem d_R_goesOn_105 : decode b_R_goesOn 105 = .ok (.getfield 9, 3) := by decide +kernel
theorem d_R_goesOn_108 : decode b_R_goesOn 108 = .ok (.putfield 9, 3) := by decide +kernel
theorem d_R_goesOn_111 : decode b_R_goesOn 111 = .ok (.goto 46, 3) := by decide +kernel
theorem d_R_goesOn_114 : decode b_R_goesOn 114 = .ok (.aload_n 0, 1) := by decide +kernel
theorem d_R_goesOn_115 : decode b_R_goesOn 115 = .ok (.getfield 146, 3) := by decide +kernel
theorem d_R_goesOn_118 : decode b_R_goesOn 118 = .ok (.iconst 4, 1) := by decide +kernel
theorem d_R_goesOn_119 : decode b_R_goesOn 119 = .ok (.if_icmp .ge 38, 3) := by decide +kernel
theorem d_R_goesOn_122 : decode b_R_goesOn 122 = .ok (.aload_n 0, 1) := by decide +kernel
theorem d_R_goesOn_123 : decode b_R_goesOn 123 = .ok (.getfield 32, 3) := by decide +kernel
theorem d_R_goesOn_126 : decode b_R_goesOn 126 = .ok (.aload_n 0, 1) := by decide +kernel
theorem d_R_goesOn_127 : decode b_R_goesOn 127 = .ok (.getfield 170, 3) := by decide +kernel
theorem d_R_goesOn_130 : decode b_R_goesOn 130 = .ok (.iaload, 1) := by decide +kernel
theorem d_R_goesOn_131 : decode b_R_goesOn 131 = .ok (.invokestatic 149, 3) := by decide +kernel
theorem d_R_goesOn_134 : decode b_R_goesOn 134 = .ok (.iconst 2, 1) := by decide +kernel
theorem d_R_goesOn_135 : decode b_R_goesOn 135 = .ok (.if_icmp .ne 14, 3) := by decide +kernel
theorem d_R_goesOn_138 : decode b_R_goesOn 138 = .ok (.aload_n 0, 1) := by decide +kernel
theorem d_R_goesOn_139 : decode b_R_goesOn 139 = .ok (.aload_n 0, 1) := by decide +kernel
theorem d_R_goesOn_140 : decode b_R_goesOn 140 = .ok (.getfield 170, 3) := by decide +kernel
theorem d_R_goesOn_143 : decode b_R_goesOn 143 = .ok (.invokevirtual 189, 3) := by decide +kernel
theorem d_R_goesOn_146 : decode b_R_goesOn 146 = .ok (.ifCond .ne 11, 3) := by decide +kernel
theorem d_R_goesOn_149 : decode b_R_goesOn 149 = .ok (.aload_n 0, 1) := by decide +kernel
theorem d_R_goesOn_150 : decode b_R_goesOn 150 = .ok (.aload_n 0, 1) := by decide +kernel
theorem d_R_goesOn_151 : decode b_R_goesOn 151 = .ok (.getfield 170, 3) := by decide +kernel
theorem d_R_goesOn_154 : decode b_R_goesOn 154 = .ok (.invokevirtual 192, 3) := by decide +kernel
theorem d_R_goesOn_157 : decode b_R_goesOn 157 = .ok (.return_, 1) := by decide +kernel
theorem d_R_illegal_0 : decode b_R_illegal 0 = .ok (.aload_n 0, 1) := by decide +kernel
theorem d_R_illegal_1 : decode b_R_illegal 1 = .ok (.getfield 32, 3) := by decide +kernel
theorem d_R_illegal_4 : decode b_R_illegal 4 = .ok (.iload_n 1, 1) := by decide +kernel
theorem d_R_illegal_5 : decode b_R_illegal 5 = .ok (.iaload, 1) := by decide +kernel
theorem d_R_illegal_6 : decode b_R_illegal 6 = .ok (.istore_n 2, 1) := by decide +kernel
theorem d_R_illegal_7 : decode b_R_illegal 7 = .ok (.aload_n 0, 1) := by decide +kernel
theorem d_R_illegal_8 : decode b_R_illegal 8 = .ok (.getfield 16, 3) := by decide +kernel
theorem d_R_illegal_11 : decode b_R_illegal 11 = .ok (.istore_n 3, 1) := by decide +kernel
theorem d_R_illegal_12 : decode b_R_illegal 12 = .ok (.iload_n 2, 1) := by decide +kernel
theorem d_R_illegal_13 : decode b_R_illegal 13 = .ok (.bipush 16, 2) := by decide +kernel
theorem d_R_illegal_15 : decode b_R_illegal 15 = .ok (.if_icmp .gt 7, 3) := by decide +kernel
theorem d_R_illegal_18 : decode b_R_illegal 18 = .ok (.iconst 1, 1) := by decide +kernel
theorem d_R_illegal_19 : decode b_R_illegal 19 = .ok (.goto 4, 3) := by decide +kernel
theorem d_R_illegal_22 : decode b_R_illegal 22 = .ok (.iconst 0, 1) := by decide +kernel
theorem d_R_illegal_23 : decode b_R_illegal 23 = .ok (.istore 4, 2) := by decide +kernel
theorem d_R_illegal_25 : decode b_R_illegal 25 = .ok (.iload_n 2, 1) := by decide +kernel
theorem d_R_illegal_26 : decode b_R_illegal 26 = .ok (.bipush 10, 2) := by decide +kernel
theorem d_R_illegal_28 : decode b_R_illegal 28 = .ok (.if_icmp .le 27, 3) := by decide +kernel
theorem d_R_illegal_31 : decode b_R_illegal 31 = .ok (.iload_n 2, 1) := by decide +kernel
theorem d_R_illegal_32 : decode b_R_illegal 32 = .ok (.bipush 12, 2) := by decide +kernel
theorem d_R_illegal_34 : decode b_R_illegal 34 = .ok (.if_icmp .eq 21, 3) := by decide +kernel
theorem d_R_illegal_37 : decode b_R_illegal 37 = .ok (.iload_n 2, 1) := by decide +kernel
theorem d_R_illegal_38 : decode b_R_illegal 38 = .ok (.bipush 13, 2) := by decide +kernel
theorem d_R_illegal_40 : decode b_R_illegal 40 = .ok (.if_icmp .eq 15, 3) := by decide +kernel
theorem d_R_illegal_43 : decode b_R_illegal 43 = .ok (.iload_n 2, 1) := by decide +kernel
theorem d_R_illegal_44 : decode b_R_illegal 44 = .ok (.bipush 16, 2) := by decide +kernel
theorem d_R_illegal_46 : decode b_R_illegal 46 = .ok (.if_icmp .eq 9, 3) := by decide +kernel
theorem d_R_illegal_49 : decode b_R_illegal 49 = .ok (.iload_n 2, 1) := by decide +kernel
theorem d_R_illegal_50 : decode b_R_illegal 50 = .ok (.bipush 19, 2) := by decide +kernel
theorem d_R_illegal_52 : decode b_R_illegal 52 = .ok (.if_icmp .ne 7, 3) := by decide +kernel
theorem d_R_illegal_55 : decode b_R_illegal 55 = .ok (.iconst 1, 1) := by decide +kernel
theorem d_R_illegal_56 : decode b_R_illegal 56 = .ok (.goto 4, 3) := by decide +kernel
theorem d_R_illegal_59 : decode b_R_illegal 59 = .ok (.iconst 0, 1) := by decide +kernel
theorem d_R_illegal_60 : decode b_R_illegal 60 = .ok (.istore 5, 2) := by decide +kernel
theorem d_R_illegal_62 : decode b_R_illegal 62 = .ok (.iload_n 2, 1) := by decide +kernel
theorem d_R_illegal_63 : decode b_R_illegal 63 = .ok (.bipush 12, 2) := by decide +kernel
theorem d_R_illegal_65 : decode b_R_illegal 65 = .ok (.if_icmp .eq 13, 3) := by decide +kernel
theorem d_R_illegal_68 : decode b_R_illegal 68 = .ok (.iload_n 2, 1) := by decide +kernel
theorem d_R_illegal_69 : decode b_R_illegal 69 = .ok (.bipush 14, 2) := by decide +kernel
theorem d_R_illegal_71 : decode b_R_illegal 71 = .ok (.if_icmp .eq 7, 3) := by decide +kernel
theorem d_R_illegal_74 : decode b_R_illegal 74 = .ok (.iconst 1, 1) := by decide +kernel
theorem d_R_illegal_75 : decode b_R_illegal 75 = .ok (.goto 4, 3) := by decide +kernel
theorem d_R_illegal_78 : decode b_R_illegal 78 = .ok (.iconst 0, 1) := by decide +kernel
theorem d_R_illegal_79 : decode b_R_illegal 79 = .ok (.istore 6, 2) := by decide +kernel
theorem d_R_illegal_81 : decode b_R_illegal 81 = .ok (.iload 4, 2) := by decide +kernel
theorem d_R_illegal_83 : decode b_R_illegal 83 = .ok (.ifCond .eq 17, 3) := by decide +kernel
theorem d_R_illegal_86 : decode b_R_illegal 86 = .ok (.aload_n 0, 1) := by decide +kernel
theorem d_R_illegal_87 : decode b_R_illegal 87 = .ok (.aload_n 0, 1) := by decide +kernel
theorem d_R_illegal_88 : decode b_R_illegal 88 = .ok (.getfield 38, 3) := by decide +kernel
theorem d_R_illegal_91 : decode b_R_illegal 91 = .ok (.iload_n 1, 1) := by decide +kernel
theorem d_R_illegal_92 : decode b_R_illegal 92 = .ok (.iaload, 1) := by decide +kernel
theorem d_R_illegal_93 : decode b_R_illegal 93 = .ok (.iload_n 3, 1) := by decide +kernel
theorem d_R_illegal_94 : decode b_R_illegal 94 = .ok (.invokevirtual 158, 3) := by decide +kernel
theorem d_R_illegal_97 : decode b_R_illegal 97 = .ok (.ifCond .ne 53, 3) := by decide +kernel
theorem d_R_illegal_100 : decode b_R_illegal 100 = .ok (.iload 5, 2) := by decide +kernel
theorem d_R_illegal_102 : decode b_R_illegal 102 = .ok (.ifCond .eq 17, 3) := by decide +kernel
theorem d_R_illegal_105 : decode b_R_illegal 105 = .ok (.aload_n 0, 1) := by decide +kernel
theorem d_R_illegal_106 : decode b_R_illegal 106 = .ok (.aload_n 0, 1) := by decide +kernel
theorem d_R_illegal_107 : decode b_R_illegal 107 = .ok (.getfield 41, 3) := by decide +kernel
theorem d_R_illegal_110 : decode b_R_illegal 110 = .ok (.iload_n 1, 1) := by decide +kernel
theorem d_R_illegal_111 : decode b_R_illegal 111 = .ok (.iaload, 1) := by decide +kernel
theorem d_R_illegal_112 : decode b_R_illegal 112 = .ok (.iload_n 3, 1) := by decide +kernel
theorem d_R_illegal_113 : decode b_R_illegal 113 = .ok (.invokevirtual 158, 3) := by decide +kernel
theorem d_R_illegal_116 : decode b_R_illegal 116 = .ok (.ifCond .ne 34, 3) := by decide +kernel
theorem d_R_illegal_119 : decode b_R_illegal 119 = .ok (.iload 6, 2) := by decide +kernel
theorem d_R_illegal_121 : decode b_R_illegal 121 = .ok (.ifCond .eq 31, 3) := by decide +kernel
theorem d_R_illegal_124 : decode b_R_illegal 124 = .ok (.aload_n 0, 1) := by decide +kernel
theorem d_R_illegal_125 : decode b_R_illegal 125 = .ok (.aload_n 0, 1) := by decide +kernel
theorem d_R_illegal_126 : decode b_R_illegal 126 = .ok (.getfield 35, 3) := by decide +kernel
theorem d_R_illegal_129 : decode b_R_illegal 129 = .ok (.iload_n 1, 1) := by decide +kernel
theorem d_R_illegal_130 : decode b_R_illegal 130 = .ok (.iaload, 1) := by decide +kernel
theorem d_R_illegal_131 : decode b_R_illegal 131 = .ok (.iload_n 2, 1) := by decide +kernel
theorem d_R_illegal_132 : decode b_R_illegal 132 = .ok (.bipush 13, 2) := by decide +kernel
theorem d_R_illegal_134 : decode b_R_illegal 134 = .ok (.if_icmp .ne 9, 3) := by decide +kernel
theorem d_R_illegal_137 : decode b_R_illegal 137 = .ok (.iconst 2, 1) := by decide +kernel
theorem d_R_illegal_138 : decode b_R_illegal 138 = .ok (.iload_n 3, 1) := by decide +kernel
theorem d_R_illegal_139 : decode b_R_illegal 139 = .ok (.imul, 1) := by decide +kernel
theorem d_R_illegal_140 : decode b_R_illegal 140 = .ok (.goto 4, 3) := by decide +kernel
theorem d_R_illegal_143 : decode b_R_illegal 143 = .ok (.iload_n 3, 1) := by decide +kernel
theorem d_R_illegal_144 : decode b_R_illegal 144 = .ok (.invokevirtual 158, 3) := by decide +kernel
theorem d_R_illegal_147 : decode b_R_illegal 147 = .ok (.ifCond .eq 5, 3) := by decide +kernel
theorem d_R_illegal_150 : decode b_R_illegal 150 = .ok (.iconst 1, 1) := by decide +kernel
theorem d_R_illegal_151 : decode b_R_illegal 151 = .ok (.ireturn, 1) := by decide +kernel
theorem d_R_illegal_152 : decode b_R_illegal 152 = .ok (.iload_n 2, 1) := by decide +kernel
theorem d_R_illegal_153 : decode b_R_illegal 153 = .ok (.bipush 13, 2) := by decide +kernel
theorem d_R_illegal_155 : decode b_R_illegal 155 = .ok (.if_icmp .ne 86, 3) := by decide +kernel
theorem d_R_illegal_158 : decode b_R_illegal 158 = .ok (.aload_n 0, 1) := by decide +kernel
theorem d_R_illegal_159 : decode b_R_illegal 159 = .ok (.getfield 13, 3) := by decide +kernel
theorem d_R_illegal_162 : decode b_R_illegal 162 = .ok (.iconst 4, 1) := by decide +kernel
theorem d_R_illegal_163 : decode b_R_illegal 163 = .ok (.if_icmp .eq 76, 3) := by decide +kernel
theorem d_R_illegal_166 : decode b_R_illegal 166 = .ok (.iload_n 3, 1) := by decide +kernel
theorem d_R_illegal_167 : decode b_R_illegal 167 = .ok (.iconst 4, 1) := by decide +kernel
theorem d_R_illegal_168 : decode b_R_illegal 168 = .ok (.if_icmp .eq 71, 3) := by decide +kernel
theorem d_R_illegal_171 : decode b_R_illegal 171 = .ok (.aload_n 0, 1) := by decide +kernel
theorem d_R_illegal_172 : decode b_R_illegal 172 = .ok (.getfield 38, 3) := by decide +kernel
theorem d_R_illegal_175 : decode b_R_illegal 175 = .ok (.iload_n 1, 1) := by decide +kernel
theorem d_R_illegal_176 : decode b_R_illegal 176 = .ok (.iaload, 1) := by decide +kernel
theorem d_R_illegal_177 : decode b_R_illegal 177 = .ok (.aload_n 0, 1) := by decide +kernel
theorem d_R_illegal_178 : decode b_R_illegal 178 = .ok (.getfield 35, 3) := by decide +kernel
theorem d_R_illegal_181 : decode b_R_illegal 181 = .ok (.iload_n 1, 1) := by decide +kernel
theorem d_R_illegal_182 : decode b_R_illegal 182 = .ok (.iaload, 1) := by decide +kernel
theorem d_R_illegal_183 : decode b_R_illegal 183 = .ok (.if_icmp .lt 22, 3) := by decide +kernel
theorem d_R_illegal_186 : decode b_R_illegal 186 = .ok (.aload_n 0, 1) := by decide +kernel
theorem d_R_illegal_187 : decode b_R_illegal 187 = .ok (.getfield 38, 3) := by decide +kernel
theorem d_R_illegal_190 : decode b_R_illegal 190 = .ok (.iload_n 1, 1) := by decide +kernel
theorem d_R_illegal_191 : decode b_R_illegal 191 = .ok (.iaload, 1) := by decide +kernel
theorem d_R_illegal_192 : decode b_R_illegal 192 = .ok (.aload_n 0, 1) := by decide +kernel
theorem d_R_illegal_193 : decode b_R_illegal 193 = .ok (.getfield 35, 3) := by decide +kernel
theorem d_R_illegal_196 : decode b_R_illegal 196 = .ok (.iload_n 1, 1) := by decide +kernel
theorem d_R_illegal_197 : decode b_R_illegal 197 = .ok (.iaload, 1) := by decide +kernel
theorem d_R_illegal_198 : decode b_R_illegal 198 = .ok (.iconst 2, 1) := by decide +kernel
theorem d_R_illegal_199 : decode b_R_illegal 199 = .ok (.iload_n 3, 1) := by decide +kernel
theorem d_R_illegal_200 : decode b_R_illegal 200 = .ok (.imul, 1) := by decide +kernel
theorem d_R_illegal_201 : decode b_R_illegal 201 = .ok (.iadd, 1) := by decide +kernel
theorem d_R_illegal_202 : decode b_R_illegal 202 = .ok (.if_icmp .lt 37, 3) := by decide +kernel
theorem d_R_illegal_205 : decode b_R_illegal 205 = .ok (.aload_n 0, 1) := by decide +kernel
theorem d_R_illegal_206 : decode b_R_illegal 206 = .ok (.getfield 41, 3) := by decide +kernel
theorem d_R_illegal_209 : decode b_R_illegal 209 = .ok (.iload_n 1, 1) := by decide +kernel
theorem d_R_illegal_210 : decode b_R_illegal 210 = .ok (.iaload, 1) := by decide +kernel
theorem d_R_illegal_211 : decode b_R_illegal 211 = .ok (.aload_n 0, 1) := by decide +kernel
theorem d_R_illegal_212 : decode b_R_illegal 212 = .ok (.getfield 35, 3) := by decide +kernel
theorem d_R_illegal_215 : decode b_R_illegal 215 = .ok (.iload_n 1, 1) := by decide +kernel
theorem d_R_illegal_216 : decode b_R_illegal 216 = .ok (.iaload, 1) := by decide +kernel
theorem d_R_illegal_217 : decode b_R_illegal 217 = .ok (.if_icmp .lt 24, 3) := by decide +kernel
theorem d_R_illegal_220 : decode b_R_illegal 220 = .ok (.aload_n 0, 1) := by decide +kernel
theorem d_R_illegal_221 : decode b_R_illegal 221 = .ok (.getfield 41, 3) := by decide +kernel
theorem d_R_illegal_224 : decode b_R_illegal 224 = .ok (.iload_n 1, 1) := by decide +kernel
theorem d_R_illegal_225 : decode b_R_illegal 225 = .ok (.iaload, 1) := by decide +kernel
theorem d_R_illegal_226 : decode b_R_illegal 226 = .ok (.aload_n 0, 1) := by decide +kernel
theorem d_R_illegal_227 : decode b_R_illegal 227 = .ok (.getfield 35, 3) := by decide +kernel
theorem d_R_illegal_230 : decode b_R_illegal 230 = .ok (.iload_n 1, 1) := by decide +kernel
theorem d_R_illegal_231 : decode b_R_illegal 231 = .ok (.iaload, 1) := by decide +kernel
theorem d_R_illegal_232 : decode b_R_illegal 232 = .ok (.iconst 2, 1) := by decide +kernel
theorem d_R_illegal_233 : decode b_R_illegal 233 = .ok (.iload_n 3, 1) := by decide +kernel
theorem d_R_illegal_234 : decode b_R_illegal 234 = .ok (.imul, 1) := by decide +kernel
theorem d_R_illegal_235 : decode b_R_illegal 235 = .ok (.iadd, 1) := by decide +kernel
theorem d_R_illegal_236 : decode b_R_illegal 236 = .ok (.if_icmp .ge 5, 3) := by decide +kernel
theorem d_R_illegal_239 : decode b_R_illegal 239 = .ok (.iconst 1, 1) := by decide +kernel
theorem d_R_illegal_240 : decode b_R_illegal 240 = .ok (.ireturn, 1) := by decide +kernel
theorem d_R_illegal_241 : decode b_R_illegal 241 = .ok (.aload_n 0, 1) := by decide +kernel
theorem d_R_illegal_242 : decode b_R_illegal 242 = .ok (.getfield 47, 3) := by decide +kernel
theorem d_R_illegal_245 : decode b_R_illegal 245 = .ok (.iload_n 1, 1) := by decide +kernel
theorem d_R_illegal_246 : decode b_R_illegal 246 = .ok (.baload, 1) := by decide +kernel
theorem d_R_illegal_247 : decode b_R_illegal 247 = .ok (.ifCond .eq 26, 3) := by decide +kernel
theorem d_R_illegal_250 : decode b_R_illegal 250 = .ok (.iload_n 2, 1) := by decide +kernel
theorem d_R_illegal_251 : decode b_R_illegal 251 = .ok (.bipush 12, 2) := by decide +kernel
theorem d_R_illegal_253 : decode b_R_illegal 253 = .ok (.if_icmp .eq 20, 3) := by decide +kernel
theorem d_R_illegal_256 : decode b_R_illegal 256 = .ok (.iload_n 2, 1) := by decide +kernel
theorem d_R_illegal_257 : decode b_R_illegal 257 = .ok (.bipush 18, 2) := by decide +kernel
theorem d_R_illegal_259 : decode b_R_illegal 259 = .ok (.if_icmp .eq 14, 3) := by decide +kernel
theorem d_R_illegal_262 : decode b_R_illegal 262 = .ok (.aload_n 0, 1) := by decide +kernel
theorem d_R_illegal_263 : decode b_R_illegal 263 = .ok (.getfield 35, 3) := by decide +kernel
theorem d_R_illegal_266 : decode b_R_illegal 266 = .ok (.iload_n 1, 1) := by decide +kernel
theorem d_R_illegal_267 : decode b_R_illegal 267 = .ok (.iaload, 1) := by decide +kernel
theorem d_R_illegal_268 : decode b_R_illegal 268 = .ok (.ifCond .ne 5, 3) := by decide +kernel
theorem d_R_illegal_271 : decode b_R_illegal 271 = .ok (.iconst 1, 1) := by decide +kernel
theorem d_R_illegal_272 : decode b_R_illegal 272 = .ok (.ireturn, 1) := by decide +kernel
theorem d_R_illegal_273 : decode b_R_illegal 273 = .ok (.iload_n 2, 1) := by decide +kernel
theorem d_R_illegal_274 : decode b_R_illegal 274 = .ok (.bipush 15, 2) := by decide +kernel
theorem d_R_illegal_276 : decode b_R_illegal 276 = .ok (.if_icmp .eq 9, 3) := by decide +kernel
theorem d_R_illegal_279 : decode b_R_illegal 279 = .ok (.iload_n 2, 1) := by decide +kernel
theorem d_R_illegal_280 : decode b_R_illegal 280 = .ok (.bipush 16, 2) := by decide +kernel
theorem d_R_illegal_282 : decode b_R_illegal 282 = .ok (.if_icmp .ne 18, 3) := by decide +kernel
theorem d_R_illegal_285 : decode b_R_illegal 285 = .ok (.aload_n 0, 1) := by decide +kernel
theorem d_R_illegal_286 : decode b_R_illegal 286 = .ok (.getfield 35, 3) := by decide +kernel
theorem d_R_illegal_289 : decode b_R_illegal 289 = .ok (.iload_n 1, 1) := by decide +kernel
theorem d_R_illegal_290 : decode b_R_illegal 290 = .ok (.iaload, 1) := by decide +kernel
theorem d_R_illegal_291 : decode b_R_illegal 291 = .ok (.aload_n 0, 1) := by decide +kernel
theorem d_R_illegal_292 : decode b_R_illegal 292 = .ok (.getfield 38, 3) := by decide +kernel
theorem d_R_illegal_295 : decode b_R_illegal 295 = .ok (.iload_n 1, 1) := by decide +kernel
theorem d_R_illegal_296 : decode b_R_illegal 296 = .ok (.iaload, 1) := by decide +kernel
theorem d_R_illegal_297 : decode b_R_illegal 297 = .ok (.if_icmp .eq 24, 3) := by decide +kernel
theorem d_R_illegal_300 : decode b_R_illegal 300 = .ok (.iload_n 2, 1) := by decide +kernel
theorem d_R_illegal_301 : decode b_R_illegal 301 = .ok (.bipush 16, 2) := by decide +kernel
theorem d_R_illegal_303 : decode b_R_illegal 303 = .ok (.if_icmp .ne 22, 3) := by decide +kernel
theorem d_R_illegal_306 : decode b_R_illegal 306 = .ok (.aload_n 0, 1) := by decide +kernel
theorem d_R_illegal_307 : decode b_R_illegal 307 = .ok (.getfield 35, 3) := by decide +kernel
theorem d_R_illegal_310 : decode b_R_illegal 310 = .ok (.iload_n 1, 1) := by decide +kernel
theorem d_R_illegal_311 : decode b_R_illegal 311 = .ok (.iaload, 1) := by decide +kernel
theorem d_R_illegal_312 : decode b_R_illegal 312 = .ok (.aload_n 0, 1) := by decide +kernel
theorem d_R_illegal_313 : decode b_R_illegal 313 = .ok (.getfield 41, 3) := by decide +kernel
theorem d_R_illegal_316 : decode b_R_illegal 316 = .ok (.iload_n 1, 1) := by decide +kernel
theorem d_R_illegal_317 : decode b_R_illegal 317 = .ok (.iaload, 1) := by decide +kernel
theorem d_R_illegal_318 : decode b_R_illegal 318 = .ok (.if_icmp .ne 7, 3) := by decide +kernel
theorem d_R_illegal_321 : decode b_R_illegal 321 = .ok (.iconst 1, 1) := by decide +kernel
theorem d_R_illegal_322 : decode b_R_illegal 322 = .ok (.goto 4, 3) := by decide +kernel
theorem d_R_illegal_325 : decode b_R_illegal 325 = .ok (.iconst 0, 1) := by decide +kernel
theorem d_R_illegal_326 : decode b_R_illegal 326 = .ok (.ireturn, 1) := by decide +kernel
theorem d_R_odd_0 : decode b_R_odd 0 = .ok (.iload_n 1, 1) := by decide +kernel
theorem d_R_odd_1 : decode b_R_odd 1 = .ok (.iload_n 2, 1) := by decide +kernel
theorem d_R_odd_2 : decode b_R_odd 2 = .ok (.irem, 1) := by decide +kernel
theorem d_R_odd_3 : decode b_R_odd 3 = .ok (.ifCond .eq 7, 3) := by decide +kernel
theorem d_R_odd_6 : decode b_R_odd 6 = .ok (.iconst 1, 1) := by decide +kernel
theorem d_R_odd_7 : decode b_R_odd 7 = .ok (.goto 4, 3) := by decide +kernel
theorem d_R_odd_10 : decode b_R_odd 10 = .ok (.iconst 0, 1) := by decide +kernel
theorem d_R_odd_11 : decode b_R_odd 11 = .ok (.ireturn, 1) := by decide +kernel
theorem d_R_scalarDone_0 : decode b_R_scalarDone 0 = .ok (.aload_n 0, 1) := by decide +kernel
theorem d_R_scalarDone_1 : decode b_R_scalarDone 1 = .ok (.getfield 32, 3) := by decide +kernel
theorem d_R_scalarDone_4 : decode b_R_scalarDone 4 = .ok (.iload_n 1, 1) := by decide +kernel
theorem d_R_scalarDone_5 : decode b_R_scalarDone 5 = .ok (.iaload, 1) := by decide +kernel
theorem d_R_scalarDone_6 : decode b_R_scalarDone 6 = .ok (.istore_n 2, 1) := by decide +kernel
theorem d_R_scalarDone_7 : decode b_R_scalarDone 7 = .ok (.iload_n 2, 1) := by decide +kernel
theorem d_R_scalarDone_8 : decode b_R_scalarDone 8 = .ok (.iconst 5, 1) := by decide +kernel
theorem d_R_scalarDone_9 : decode b_R_scalarDone 9 = .ok (.if_icmp .eq 15, 3) := by decide +kernel
theorem d_R_scalarDone_12 : decode b_R_scalarDone 12 = .ok (.iload_n 2, 1) := by decide +kernel
theorem d_R_scalarDone_13 : decode b_R_scalarDone 13 = .ok (.bipush 6, 2) := by decide +kernel
theorem d_R_scalarDone_15 : decode b_R_scalarDone 15 = .ok (.if_icmp .eq 9, 3) := by decide +kernel
theorem d_R_scalarDone_18 : decode b_R_scalarDone 18 = .ok (.iload_n 2, 1) := by decide +kernel
theorem d_R_scalarDone_19 : decode b_R_scalarDone 19 = .ok (.bipush 7, 2) := by decide +kernel
theorem d_R_scalarDone_21 : decode b_R_scalarDone 21 = .ok (.if_icmp .ne 12, 3) := by decide +kernel
theorem d_R_scalarDone_24 : decode b_R_scalarDone 24 = .ok (.aload_n 0, 1) := by decide +kernel
theorem d_R_scalarDone_25 : decode b_R_scalarDone 25 = .ok (.getfield 146, 3) := by decide +kernel
theorem d_R_scalarDone_28 : decode b_R_scalarDone 28 = .ok (.ifCond .le 5, 3) := by decide +kernel
theorem d_R_scalarDone_31 : decode b_R_scalarDone 31 = .ok (.iconst 0, 1) := by decide +kernel
theorem d_R_scalarDone_32 : decode b_R_scalarDone 32 = .ok (.ireturn, 1) := by decide +kernel
theorem d_R_scalarDone_33 : decode b_R_scalarDone 33 = .ok (.aload_n 0, 1) := by decide +kernel
theorem d_R_scalarDone_34 : decode b_R_scalarDone 34 = .ok (.dup, 1) := by decide +kernel
theorem d_R_scalarDone_35 : decode b_R_scalarDone 35 = .ok (.getfield 170, 3) := by decide +kernel
theorem d_R_scalarDone_38 : decode b_R_scalarDone 38 = .ok (.iconst 1, 1) := by decide +kernel
theorem d_R_scalarDone_39 : decode b_R_scalarDone 39 = .ok (.iadd, 1) := by decide +kernel
theorem d_R_scalarDone_40 : decode b_R_scalarDone 40 = .ok (.putfield 170, 3) := by decide +kernel
theorem d_R_scalarDone_43 : decode b_R_scalarDone 43 = .ok (.iload_n 2, 1) := by decide +kernel
theorem d_R_scalarDone_44 : decode b_R_scalarDone 44 = .ok (.ifCond .ne 22, 3) := by decide +kernel
theorem d_R_scalarDone_47 : decode b_R_scalarDone 47 = .ok (.aload_n 0, 1) := by decide +kernel
theorem d_R_scalarDone_48 : decode b_R_scalarDone 48 = .ok (.aload_n 0, 1) := by decide +kernel
theorem d_R_scalarDone_49 : decode b_R_scalarDone 49 = .ok (.getfield 35, 3) := by decide +kernel
theorem d_R_scalarDone_52 : decode b_R_scalarDone 52 = .ok (.iload_n 1, 1) := by decide +kernel
theorem d_R_scalarDone_53 : decode b_R_scalarDone 53 = .ok (.iaload, 1) := by decide +kernel
theorem d_R_scalarDone_54 : decode b_R_scalarDone 54 = .ok (.aload_n 0, 1) := by decide +kernel
theorem d_R_scalarDone_55 : decode b_R_scalarDone 55 = .ok (.getfield 44, 3) := by decide +kernel
theorem d_R_scalarDone_58 : decode b_R_scalarDone 58 = .ok (.iload_n 1, 1) := by decide +kernel
theorem d_R_scalarDone_59 : decode b_R_scalarDone 59 = .ok (.iaload, 1) := by decide +kernel
theorem d_R_scalarDone_60 : decode b_R_scalarDone 60 = .ok (.invokevirtual 164, 3) := by decide +kernel
theorem d_R_scalarDone_63 : decode b_R_scalarDone 63 = .ok (.goto 215, 3) := by decide +kernel
theorem d_R_scalarDone_66 : decode b_R_scalarDone 66 = .ok (.iload_n 2, 1) := by decide +kernel
theorem d_R_scalarDone_67 : decode b_R_scalarDone 67 = .ok (.iconst 1, 1) := by decide +kernel
theorem d_R_scalarDone_68 : decode b_R_scalarDone 68 = .ok (.if_icmp .ne 39, 3) := by decide +kernel
theorem d_R_scalarDone_71 : decode b_R_scalarDone 71 = .ok (.aload_n 0, 1) := by decide +kernel
theorem d_R_scalarDone_72 : decode b_R_scalarDone 72 = .ok (.aload_n 0, 1) := by decide +kernel
theorem d_R_scalarDone_73 : decode b_R_scalarDone 73 = .ok (.getfield 35, 3) := by decide +kernel
theorem d_R_scalarDone_76 : decode b_R_scalarDone 76 = .ok (.iload_n 1, 1) := by decide +kernel
theorem d_R_scalarDone_77 : decode b_R_scalarDone 77 = .ok (.iaload, 1) := by decide +kernel
theorem d_R_scalarDone_78 : decode b_R_scalarDone 78 = .ok (.aload_n 0, 1) := by decide +kernel
theorem d_R_scalarDone_79 : decode b_R_scalarDone 79 = .ok (.getfield 22, 3) := by decide +kernel
theorem d_R_scalarDone_82 : decode b_R_scalarDone 82 = .ok (.aload_n 0, 1) := by decide +kernel
theorem d_R_scalarDone_83 : decode b_R_scalarDone 83 = .ok (.getfield 38, 3) := by decide +kernel
theorem d_R_scalarDone_86 : decode b_R_scalarDone 86 = .ok (.iload_n 1, 1) := by decide +kernel
theorem d_R_scalarDone_87 : decode b_R_scalarDone 87 = .ok (.iaload, 1) := by decide +kernel
theorem d_R_scalarDone_88 : decode b_R_scalarDone 88 = .ok (.iaload, 1) := by decide +kernel
theorem d_R_scalarDone_89 : decode b_R_scalarDone 89 = .ok (.aload_n 0, 1) := by decide +kernel
theorem d_R_scalarDone_90 : decode b_R_scalarDone 90 = .ok (.getfield 22, 3) := by decide +kernel
theorem d_R_scalarDone_93 : decode b_R_scalarDone 93 = .ok (.aload_n 0, 1) := by decide +kernel
theorem d_R_scalarDone_94 : decode b_R_scalarDone 94 = .ok (.getfield 41, 3) := by decide +kernel
theorem d_R_scalarDone_97 : decode b_R_scalarDone 97 = .ok (.iload_n 1, 1) := by decide +kernel
theorem d_R_scalarDone_98 : decode b_R_scalarDone 98 = .ok (.iaload, 1) := by decide +kernel
theorem d_R_scalarDone_99 : decode b_R_scalarDone 99 = .ok (.iaload, 1) := by decide +kernel
theorem d_R_scalarDone_100 : decode b_R_scalarDone 100 = .ok (.iadd, 1) := by decide +kernel
theorem d_R_scalarDone_101 : decode b_R_scalarDone 101 = .ok (.invokevirtual 164, 3) := by decide +kernel
theorem d_R_scalarDone_104 : decode b_R_scalarDone 104 = .ok (.goto 174, 3) := by decide +kernel
theorem d_R_scalarDone_107 : decode b_R_scalarDone 107 = .ok (.iload_n 2, 1) := by decide +kernel
theorem d_R_scalarDone_108 : decode b_R_scalarDone 108 = .ok (.iconst 2, 1) := by decide +kernel
theorem d_R_scalarDone_109 : decode b_R_scalarDone 109 = .ok (.if_icmp .ne 34, 3) := by decide +kernel
theorem d_R_scalarDone_112 : decode b_R_scalarDone 112 = .ok (.aload_n 0, 1) := by decide +kernel
theorem d_R_scalarDone_113 : decode b_R_scalarDone 113 = .ok (.aload_n 0, 1) := by decide +kernel
theorem d_R_scalarDone_114 : decode b_R_scalarDone 114 = .ok (.getfield 35, 3) := by decide +kernel
theorem d_R_scalarDone_117 : decode b_R_scalarDone 117 = .ok (.iload_n 1, 1) := by decide +kernel
theorem d_R_scalarDone_118 : decode b_R_scalarDone 118 = .ok (.iaload, 1) := by decide +kernel
theorem d_R_scalarDone_119 : decode b_R_scalarDone 119 = .ok (.aload_n 0, 1) := by decide +kernel
theorem d_R_scalarDone_120 : decode b_R_scalarDone 120 = .ok (.getfield 22, 3) := by decide +kernel
theorem d_R_scalarDone_123 : decode b_R_scalarDone 123 = .ok (.aload_n 0, 1) := by decide +kernel
theorem d_R_scalarDone_124 : decode b_R_scalarDone 124 = .ok (.getfield 38, 3) := by decide +kernel
theorem d_R_scalarDone_127 : decode b_R_scalarDone 127 = .ok (.iload_n 1, 1) := by decide +kernel
theorem d_R_scalarDone_128 : decode b_R_scalarDone 128 = .ok (.iaload, 1) := by decide +kernel
theorem d_R_scalarDone_129 : decode b_R_scalarDone 129 = .ok (.iaload, 1) := by decide +kernel
theorem d_R_scalarDone_130 : decode b_R_scalarDone 130 = .ok (.aload_n 0, 1) := by decide +kernel
theorem d_R_scalarDone_131 : decode b_R_scalarDone 131 = .ok (.getfield 44, 3) := by decide +kernel
theorem d_R_scalarDone_134 : decode b_R_scalarDone 134 = .ok (.iload_n 1, 1) := by decide +kernel
theorem d_R_scalarDone_135 : decode b_R_scalarDone 135 = .ok (.iaload, 1) := by decide +kernel
theorem d_R_scalarDone_136 : decode b_R_scalarDone 136 = .ok (.iadd, 1) := by decide +kernel
theorem d_R_scalarDone_137 : decode b_R_scalarDone 137 = .ok (.invokevirtual 164, 3) := by decide +kernel
theorem d_R_scalarDone_140 : decode b_R_scalarDone 140 = .ok (.goto 138, 3) := by decide +kernel
theorem d_R_scalarDone_143 : decode b_R_scalarDone 143 = .ok (.iload_n 2, 1) := by decide +kernel
theorem d_R_scalarDone_144 : decode b_R_scalarDone 144 = .ok (.iconst 3, 1) := by decide +kernel
theorem d_R_scalarDone_145 : decode b_R_scalarDone 145 = .ok (.if_icmp .ne 48, 3) := by decide +kernel
theorem d_R_scalarDone_148 : decode b_R_scalarDone 148 = .ok (.aload_n 0, 1) := by decide +kernel
theorem d_R_scalarDone_149 : decode b_R_scalarDone 149 = .ok (.aload_n 0, 1) := by decide +kernel
theorem d_R_scalarDone_150 : decode b_R_scalarDone 150 = .ok (.getfield 22, 3) := by decide +kernel
theorem d_R_scalarDone_153 : decode b_R_scalarDone 153 = .ok (.aload_n 0, 1) := by decide +kernel
theorem d_R_scalarDone_154 : decode b_R_scalarDone 154 = .ok (.getfield 38, 3) := by decide +kernel
theorem d_R_scalarDone_157 : decode b_R_scalarDone 157 = .ok (.iload_n 1, 1) := by decide +kernel
theorem d_R_scalarDone_158 : decode b_R_scalarDone 158 = .ok (.iaload, 1) := by decide +kernel
theorem d_R_scalarDone_159 : decode b_R_scalarDone 159 = .ok (.iaload, 1) := by decide +kernel
theorem d_R_scalarDone_160 : decode b_R_scalarDone 160 = .ok (.aload_n 0, 1) := by decide +kernel
theorem d_R_scalarDone_161 : decode b_R_scalarDone 161 = .ok (.getfield 22, 3) := by decide +kernel
theorem d_R_scalarDone_164 : decode b_R_scalarDone 164 = .ok (.aload_n 0, 1) := by decide +kernel
theorem d_R_scalarDone_165 : decode b_R_scalarDone 165 = .ok (.getfield 41, 3) := by decide +kernel
theorem d_R_scalarDone_168 : decode b_R_scalarDone 168 = .ok (.iload_n 1, 1) := by decide +kernel
theorem d_R_scalarDone_169 : decode b_R_scalarDone 169 = .ok (.iaload, 1) := by decide +kernel
theorem d_R_scalarDone_170 : decode b_R_scalarDone 170 = .ok (.iaload, 1) := by decide +kernel
theorem d_R_scalarDone_171 : decode b_R_scalarDone 171 = .ok (.if_icmp .eq 12, 3) := by decide +kernel
theorem d_R_scalarDone_174 : decode b_R_scalarDone 174 = .ok (.aload_n 0, 1) := by decide +kernel
theorem d_R_scalarDone_175 : decode b_R_scalarDone 175 = .ok (.getfield 44, 3) := by decide +kernel
theorem d_R_scalarDone_178 : decode b_R_scalarDone 178 = .ok (.iload_n 1, 1) := by decide +kernel
theorem d_R_scalarDone_179 : decode b_R_scalarDone 179 = .ok (.iaload, 1) := by decide +kernel
theorem d_R_scalarDone_180 : decode b_R_scalarDone 180 = .ok (.goto 7, 3) := by decide +kernel
theorem d_R_scalarDone_183 : decode b_R_scalarDone 183 = .ok (.aload_n 0, 1) := by decide +kernel
theorem d_R_scalarDone_184 : decode b_R_scalarDone 184 = .ok (.getfield 170, 3) := by decide +kernel
theorem d_R_scalarDone_187 : decode b_R_scalarDone 187 = .ok (.putfield 170, 3) := by decide +kernel
theorem d_R_scalarDone_190 : decode b_R_scalarDone 190 = .ok (.goto 88, 3) := by decide +kernel
theorem d_R_scalarDone_193 : decode b_R_scalarDone 193 = .ok (.iload_n 2, 1) := by decide +kernel
theorem d_R_scalarDone_194 : decode b_R_scalarDone 194 = .ok (.iconst 5, 1) := by decide +kernel
theorem d_R_scalarDone_195 : decode b_R_scalarDone 195 = .ok (.if_icmp .ne 44, 3) := by decide +kernel
theorem d_R_scalarDone_198 : decode b_R_scalarDone 198 = .ok (.aload_n 0, 1) := by decide +kernel
theorem d_R_scalarDone_199 : decode b_R_scalarDone 199 = .ok (.getfield 22, 3) := by decide +kernel
theorem d_R_scalarDone_202 : decode b_R_scalarDone 202 = .ok (.aload_n 0, 1) := by decide +kernel
theorem d_R_scalarDone_203 : decode b_R_scalarDone 203 = .ok (.getfield 38, 3) := by decide +kernel
theorem d_R_scalarDone_206 : decode b_R_scalarDone 206 = .ok (.iload_n 1, 1) := by decide +kernel
theorem d_R_scalarDone_207 : decode b_R_scalarDone 207 = .ok (.iaload, 1) := by decide +kernel
theorem d_R_scalarDone_208 : decode b_R_scalarDone 208 = .ok (.iaload, 1) := by decide +kernel
theorem d_R_scalarDone_209 : decode b_R_scalarDone 209 = .ok (.istore_n 3, 1) := by decide +kernel
theorem d_R_scalarDone_210 : decode b_R_scalarDone 210 = .ok (.aload_n 0, 1) := by decide +kernel
theorem d_R_scalarDone_211 : decode b_R_scalarDone 211 = .ok (.iload_n 3, 1) := by decide +kernel
theorem d_R_scalarDone_212 : decode b_R_scalarDone 212 = .ok (.ifCond .ge 7, 3) := by decide +kernel
theorem d_R_scalarDone_215 : decode b_R_scalarDone 215 = .ok (.iconst 0, 1) := by decide +kernel
theorem d_R_scalarDone_216 : decode b_R_scalarDone 216 = .ok (.goto 17, 3) := by decide +kernel
theorem d_R_scalarDone_219 : decode b_R_scalarDone 219 = .ok (.iload_n 3, 1) := by decide +kernel
theorem d_R_scalarDone_220 : decode b_R_scalarDone 220 = .ok (.sipush 128, 3) := by decide +kernel
theorem d_R_scalarDone_223 : decode b_R_scalarDone 223 = .ok (.if_icmp .le 9, 3) := by decide +kernel
theorem d_R_scalarDone_226 : decode b_R_scalarDone 226 = .ok (.sipush 128, 3) := by decide +kernel
theorem d_R_scalarDone_229 : decode b_R_scalarDone 229 = .ok (.goto 4, 3) := by decide +kernel
theorem d_R_scalarDone_232 : decode b_R_scalarDone 232 = .ok (.iload_n 3, 1) := by decide +kernel
theorem d_R_scalarDone_233 : decode b_R_scalarDone 233 = .ok (.putfield 19, 3) := by decide +kernel
theorem d_R_scalarDone_236 : decode b_R_scalarDone 236 = .ok (.goto 42, 3) := by decide +kernel
theorem d_R_scalarDone_239 : decode b_R_scalarDone 239 = .ok (.iload_n 2, 1) := by decide +kernel
theorem d_R_scalarDone_240 : decode b_R_scalarDone 240 = .ok (.bipush 6, 2) := by decide +kernel
theorem d_R_scalarDone_242 : decode b_R_scalarDone 242 = .ok (.if_icmp .ne 11, 3) := by decide +kernel
theorem d_R_scalarDone_245 : decode b_R_scalarDone 245 = .ok (.aload_n 0, 1) := by decide +kernel
theorem d_R_scalarDone_246 : decode b_R_scalarDone 246 = .ok (.iload_n 1, 1) := by decide +kernel
theorem d_R_scalarDone_247 : decode b_R_scalarDone 247 = .ok (.invokevirtual 173, 3) := by decide +kernel
theorem d_R_scalarDone_250 : decode b_R_scalarDone 250 = .ok (.goto 28, 3) := by decide +kernel
theorem d_R_scalarDone_253 : decode b_R_scalarDone 253 = .ok (.aload_n 0, 1) := by decide +kernel
theorem d_R_scalarDone_254 : decode b_R_scalarDone 254 = .ok (.aload_n 0, 1) := by decide +kernel
theorem d_R_scalarDone_255 : decode b_R_scalarDone 255 = .ok (.getfield 35, 3) := by decide +kernel
theorem d_R_scalarDone_258 : decode b_R_scalarDone 258 = .ok (.iload_n 1, 1) := by decide +kernel
theorem d_R_scalarDone_259 : decode b_R_scalarDone 259 = .ok (.iaload, 1) := by decide +kernel
theorem d_R_scalarDone_260 : decode b_R_scalarDone 260 = .ok (.aload_n 0, 1) := by decide +kernel
theorem d_R_scalarDone_261 : decode b_R_scalarDone 261 = .ok (.aload_n 0, 1) := by decide +kernel
theorem d_R_scalarDone_262 : decode b_R_scalarDone 262 = .ok (.getfield 38, 3) := by decide +kernel
theorem d_R_scalarDone_265 : decode b_R_scalarDone 265 = .ok (.iload_n 1, 1) := by decide +kernel
theorem d_R_scalarDone_266 : decode b_R_scalarDone 266 = .ok (.iaload, 1) := by decide +kernel
theorem d_R_scalarDone_267 : decode b_R_scalarDone 267 = .ok (.iconst 0, 1) := by decide +kernel
theorem d_R_scalarDone_268 : decode b_R_scalarDone 268 = .ok (.aload_n 0, 1) := by decide +kernel
theorem d_R_scalarDone_269 : decode b_R_scalarDone 269 = .ok (.getfield 13, 3) := by decide +kernel
theorem d_R_scalarDone_272 : decode b_R_scalarDone 272 = .ok (.invokevirtual 110, 3) := by decide +kernel
theorem d_R_scalarDone_275 : decode b_R_scalarDone 275 = .ok (.invokevirtual 164, 3) := by decide +kernel
theorem d_R_scalarDone_278 : decode b_R_scalarDone 278 = .ok (.iconst 1, 1) := by decide +kernel
theorem d_R_scalarDone_279 : decode b_R_scalarDone 279 = .ok (.ireturn, 1) := by decide +kernel
theorem d_R_setX_0 : decode b_R_setX 0 = .ok (.aload_n 0, 1) := by decide +kernel
theorem d_R_setX_1 : decode b_R_setX 1 = .ok (.getfield 22, 3) := by decide +kernel
theorem d_R_setX_4 : decode b_R_setX 4 = .ok (.iload_n 1, 1) := by decide +kernel
theorem d_R_setX_5 : decode b_R_setX 5 = .ok (.iload_n 1, 1) := by decide +kernel
theorem d_R_setX_6 : decode b_R_setX 6 = .ok (.ifCond .ne 7, 3) := by decide +kernel
theorem d_R_setX_9 : decode b_R_setX 9 = .ok (.iconst 0, 1) := by decide +kernel
theorem d_R_setX_10 : decode b_R_setX 10 = .ok (.goto 4, 3) := by decide +kernel
theorem d_R_setX_13 : decode b_R_setX 13 = .ok (.iload_n 2, 1) := by decide +kernel
theorem d_R_setX_14 : decode b_R_setX 14 = .ok (.iastore, 1) := by decide +kernel
theorem d_R_setX_15 : decode b_R_setX 15 = .ok (.return_, 1) := by decide +kernel
theorem d_R_configures_0 : decode b_R_configures 0 = .ok (.aload_n 0, 1) := by decide +kernel
theorem d_R_configures_1 : decode b_R_configures 1 = .ok (.getfield 44, 3) := by decide +kernel
theorem d_R_configures_4 : decode b_R_configures 4 = .ok (.iload_n 1, 1) := by decide +kernel
theorem d_R_configures_5 : decode b_R_configures 5 = .ok (.iaload, 1) := by decide +kernel
theorem d_R_configures_6 : decode b_R_configures 6 = .ok (.iconst 4, 1) := by decide +kernel
theorem d_R_configures_7 : decode b_R_configures 7 = .ok (.irem, 1) := by decide +kernel
theorem d_R_configures_8 : decode b_R_configures 8 = .ok (.istore_n 2, 1) := by decide +kernel
theorem d_R_configures_9 : decode b_R_configures 9 = .ok (.aload_n 0, 1) := by decide +kernel
theorem d_R_configures_10 : decode b_R_configures 10 = .ok (.getfield 44, 3) := by decide +kernel
theorem d_R_configures_13 : decode b_R_configures 13 = .ok (.iload_n 1, 1) := by decide +kernel
theorem d_R_configures_14 : decode b_R_configures 14 = .ok (.iaload, 1) := by decide +kernel
theorem d_R_configures_15 : decode b_R_configures 15 = .ok (.iconst 4, 1) := by decide +kernel
theorem d_R_configures_16 : decode b_R_configures 16 = .ok (.idiv, 1) := by decide +kernel
theorem d_R_configures_17 : decode b_R_configures 17 = .ok (.istore_n 3, 1) := by decide +kernel
theorem d_R_configures_18 : decode b_R_configures 18 = .ok (.aload_n 0, 1) := by decide +kernel
theorem d_R_configures_19 : decode b_R_configures 19 = .ok (.iload_n 2, 1) := by decide +kernel
theorem d_R_configures_20 : decode b_R_configures 20 = .ok (.ifCond .ne 7, 3) := by decide +kernel
theorem d_R_configures_23 : decode b_R_configures 23 = .ok (.iconst 1, 1) := by decide +kernel
theorem d_R_configures_24 : decode b_R_configures 24 = .ok (.goto 6, 3) := by decide +kernel
theorem d_R_configures_27 : decode b_R_configures 27 = .ok (.iconst 2, 1) := by decide +kernel
theorem d_R_configures_28 : decode b_R_configures 28 = .ok (.iload_n 2, 1) := by decide +kernel
theorem d_R_configures_29 : decode b_R_configures 29 = .ok (.imul, 1) := by decide +kernel
theorem d_R_configures_30 : decode b_R_configures 30 = .ok (.putfield 13, 3) := by decide +kernel
theorem d_R_configures_33 : decode b_R_configures 33 = .ok (.aload_n 0, 1) := by decide +kernel
theorem d_R_configures_34 : decode b_R_configures 34 = .ok (.iload_n 3, 1) := by decide +kernel
theorem d_R_configures_35 : decode b_R_configures 35 = .ok (.ifCond .ne 7, 3) := by decide +kernel
theorem d_R_configures_38 : decode b_R_configures 38 = .ok (.iconst 1, 1) := by decide +kernel
theorem d_R_configures_39 : decode b_R_configures 39 = .ok (.goto 6, 3) := by decide +kernel
theorem d_R_configures_42 : decode b_R_configures 42 = .ok (.iconst 2, 1) := by decide +kernel
theorem d_R_configures_43 : decode b_R_configures 43 = .ok (.iload_n 3, 1) := by decide +kernel
theorem d_R_configures_44 : decode b_R_configures 44 = .ok (.imul, 1) := by decide +kernel
theorem d_R_configures_45 : decode b_R_configures 45 = .ok (.putfield 16, 3) := by decide +kernel
theorem d_R_configures_48 : decode b_R_configures 48 = .ok (.bipush 8, 2) := by decide +kernel
theorem d_R_configures_50 : decode b_R_configures 50 = .ok (.aload_n 0, 1) := by decide +kernel
theorem d_R_configures_51 : decode b_R_configures 51 = .ok (.getfield 16, 3) := by decide +kernel
theorem d_R_configures_54 : decode b_R_configures 54 = .ok (.imul, 1) := by decide +kernel
theorem d_R_configures_55 : decode b_R_configures 55 = .ok (.aload_n 0, 1) := by decide +kernel
theorem d_R_configures_56 : decode b_R_configures 56 = .ok (.getfield 13, 3) := by decide +kernel
theorem d_R_configures_59 : decode b_R_configures 59 = .ok (.idiv, 1) := by decide +kernel
theorem d_R_configures_60 : decode b_R_configures 60 = .ok (.istore 4, 2) := by decide +kernel
theorem d_R_configures_62 : decode b_R_configures 62 = .ok (.aload_n 0, 1) := by decide +kernel
theorem d_R_configures_63 : decode b_R_configures 63 = .ok (.getfield 22, 3) := by decide +kernel
theorem d_R_configures_66 : decode b_R_configures 66 = .ok (.aload_n 0, 1) := by decide +kernel
theorem d_R_configures_67 : decode b_R_configures 67 = .ok (.getfield 38, 3) := by decide +kernel
theorem d_R_configures_70 : decode b_R_configures 70 = .ok (.iload_n 1, 1) := by decide +kernel
theorem d_R_configures_71 : decode b_R_configures 71 = .ok (.iaload, 1) := by decide +kernel
theorem d_R_configures_72 : decode b_R_configures 72 = .ok (.iaload, 1) := by decide +kernel
theorem d_R_configures_73 : decode b_R_configures 73 = .ok (.istore 5, 2) := by decide +kernel
theorem d_R_configures_75 : decode b_R_configures 75 = .ok (.aload_n 0, 1) := by decide +kernel
theorem d_R_configures_76 : decode b_R_configures 76 = .ok (.iload 5, 2) := by decide +kernel
theorem d_R_configures_78 : decode b_R_configures 78 = .ok (.ifCond .ge 7, 3) := by decide +kernel
theorem d_R_configures_81 : decode b_R_configures 81 = .ok (.iconst 0, 1) := by decide +kernel
theorem d_R_configures_82 : decode b_R_configures 82 = .ok (.goto 17, 3) := by decide +kernel
theorem d_R_configures_85 : decode b_R_configures 85 = .ok (.iload 5, 2) := by decide +kernel
theorem d_R_configures_87 : decode b_R_configures 87 = .ok (.iload 4, 2) := by decide +kernel
theorem d_R_configures_89 : decode b_R_configures 89 = .ok (.if_icmp .ge 8, 3) := by decide +kernel
theorem d_R_configures_92 : decode b_R_configures 92 = .ok (.iload 5, 2) := by decide +kernel
theorem d_R_configures_94 : decode b_R_configures 94 = .ok (.goto 5, 3) := by decide +kernel
theorem d_R_configures_97 : decode b_R_configures 97 = .ok (.iload 4, 2) := by decide +kernel
theorem d_R_configures_99 : decode b_R_configures 99 = .ok (.putfield 161, 3) := by decide +kernel
theorem d_R_configures_102 : decode b_R_configures 102 = .ok (.aload_n 0, 1) := by decide +kernel
theorem d_R_configures_103 : decode b_R_configures 103 = .ok (.aload_n 0, 1) := by decide +kernel
theorem d_R_configures_104 : decode b_R_configures 104 = .ok (.getfield 35, 3) := by decide +kernel
theorem d_R_configures_107 : decode b_R_configures 107 = .ok (.iload_n 1, 1) := by decide +kernel
theorem d_R_configures_108 : decode b_R_configures 108 = .ok (.iaload, 1) := by decide +kernel
theorem d_R_configures_109 : decode b_R_configures 109 = .ok (.aload_n 0, 1) := by decide +kernel
theorem d_R_configures_110 : decode b_R_configures 110 = .ok (.getfield 161, 3) := by decide +kernel
theorem d_R_configures_113 : decode b_R_configures 113 = .ok (.invokevirtual 164, 3) := by decide +kernel
theorem d_R_configures_116 : decode b_R_configures 116 = .ok (.aload_n 0, 1) := by decide +kernel
theorem d_R_configures_117 : decode b_R_configures 117 = .ok (.iconst 0, 1) := by decide +kernel
theorem d_R_configures_118 : decode b_R_configures 118 = .ok (.putfield 167, 3) := by decide +kernel
theorem d_R_configures_121 : decode b_R_configures 121 = .ok (.return_, 1) := by decide +kernel
theorem d_R_held_0 : decode b_R_held 0 = .ok (.iconst 0, 1) := by decide +kernel
theorem d_R_held_1 : decode b_R_held 1 = .ok (.istore_n 2, 1) := by decide +kernel
theorem d_R_held_2 : decode b_R_held 2 = .ok (.aload_n 0, 1) := by decide +kernel
theorem d_R_held_3 : decode b_R_held 3 = .ok (.getfield 47, 3) := by decide +kernel
theorem d_R_held_6 : decode b_R_held 6 = .ok (.iload_n 1, 1) := by decide +kernel
theorem d_R_held_7 : decode b_R_held 7 = .ok (.baload, 1) := by decide +kernel
theorem d_R_held_8 : decode b_R_held 8 = .ok (.ifCond .eq 12, 3) := by decide +kernel
theorem d_R_held_11 : decode b_R_held 11 = .ok (.iconst 0, 1) := by decide +kernel
theorem d_R_held_12 : decode b_R_held 12 = .ok (.bipush 8, 2) := by decide +kernel
theorem d_R_held_14 : decode b_R_held 14 = .ok (.invokestatic 100, 3) := by decide +kernel
theorem d_R_held_17 : decode b_R_held 17 = .ok (.goto 4, 3) := by decide +kernel
theorem d_R_held_20 : decode b_R_held 20 = .ok (.lconst 0, 1) := by decide +kernel
theorem d_R_held_21 : decode b_R_held 21 = .ok (.lstore_n 3, 1) := by decide +kernel
theorem d_R_held_22 : decode b_R_held 22 = .ok (.iconst 0, 1) := by decide +kernel
theorem d_R_held_23 : decode b_R_held 23 = .ok (.istore 5, 2) := by decide +kernel
theorem d_R_held_25 : decode b_R_held 25 = .ok (.iload 5, 2) := by decide +kernel
theorem d_R_held_27 : decode b_R_held 27 = .ok (.bipush 8, 2) := by decide +kernel
theorem d_R_held_29 : decode b_R_held 29 = .ok (.aload_n 0, 1) := by decide +kernel
theorem d_R_held_30 : decode b_R_held 30 = .ok (.getfield 16, 3) := by decide +kernel
theorem d_R_held_33 : decode b_R_held 33 = .ok (.imul, 1) := by decide +kernel
theorem d_R_held_34 : decode b_R_held 34 = .ok (.if_icmp .ge 39, 3) := by decide +kernel
theorem d_R_held_37 : decode b_R_held 37 = .ok (.aload_n 0, 1) := by decide +kernel
theorem d_R_held_38 : decode b_R_held 38 = .ok (.getfield 32, 3) := by decide +kernel
theorem d_R_held_41 : decode b_R_held 41 = .ok (.iload_n 1, 1) := by decide +kernel
theorem d_R_held_42 : decode b_R_held 42 = .ok (.iaload, 1) := by decide +kernel
theorem d_R_held_43 : decode b_R_held 43 = .ok (.bipush 19, 2) := by decide +kernel
theorem d_R_held_45 : decode b_R_held 45 = .ok (.if_icmp .ne 28, 3) := by decide +kernel
theorem d_R_held_48 : decode b_R_held 48 = .ok (.lload_n 3, 1) := by decide +kernel
theorem d_R_held_49 : decode b_R_held 49 = .ok (.bipush 8, 2) := by decide +kernel
theorem d_R_held_51 : decode b_R_held 51 = .ok (.aload_n 0, 1) := by decide +kernel
theorem d_R_held_52 : decode b_R_held 52 = .ok (.getfield 41, 3) := by decide +kernel
theorem d_R_held_55 : decode b_R_held 55 = .ok (.iload_n 1, 1) := by decide +kernel
theorem d_R_held_56 : decode b_R_held 56 = .ok (.iaload, 1) := by decide +kernel
theorem d_R_held_57 : decode b_R_held 57 = .ok (.imul, 1) := by decide +kernel
theorem d_R_held_58 : decode b_R_held 58 = .ok (.iload 5, 2) := by decide +kernel
theorem d_R_held_60 : decode b_R_held 60 = .ok (.iadd, 1) := by decide +kernel
theorem d_R_held_61 : decode b_R_held 61 = .ok (.iconst 1, 1) := by decide +kernel
theorem d_R_held_62 : decode b_R_held 62 = .ok (.invokestatic 100, 3) := by decide +kernel
theorem d_R_held_65 : decode b_R_held 65 = .ok (.lor, 1) := by decide +kernel
theorem d_R_held_66 : decode b_R_held 66 = .ok (.lstore_n 3, 1) := by decide +kernel
theorem d_R_held_67 : decode b_R_held 67 = .ok (.iinc 5 1, 3) := by decide +kernel
theorem d_R_held_70 : decode b_R_held 70 = .ok (.goto (-45), 3) := by decide +kernel
theorem d_R_held_73 : decode b_R_held 73 = .ok (.iconst 0, 1) := by decide +kernel
theorem d_R_held_74 : decode b_R_held 74 = .ok (.istore 5, 2) := by decide +kernel
theorem d_R_held_76 : decode b_R_held 76 = .ok (.iload 5, 2) := by decide +kernel
theorem d_R_held_78 : decode b_R_held 78 = .ok (.aload_n 0, 1) := by decide +kernel
theorem d_R_held_79 : decode b_R_held 79 = .ok (.getfield 146, 3) := by decide +kernel
theorem d_R_held_82 : decode b_R_held 82 = .ok (.if_icmp .ge 90, 3) := by decide +kernel
theorem d_R_held_85 : decode b_R_held 85 = .ok (.iload_n 2, 1) := by decide +kernel
theorem d_R_held_86 : decode b_R_held 86 = .ok (.ifCond .ne 22, 3) := by decide +kernel
theorem d_R_held_89 : decode b_R_held 89 = .ok (.aload_n 0, 1) := by decide +kernel
theorem d_R_held_90 : decode b_R_held 90 = .ok (.getfield 32, 3) := by decide +kernel
theorem d_R_held_93 : decode b_R_held 93 = .ok (.aload_n 0, 1) := by decide +kernel
theorem d_R_held_94 : decode b_R_held 94 = .ok (.getfield 51, 3) := by decide +kernel
theorem d_R_held_97 : decode b_R_held 97 = .ok (.iload 5, 2) := by decide +kernel
theorem d_R_held_99 : decode b_R_held 99 = .ok (.iaload, 1) := by decide +kernel
theorem d_R_held_100 : decode b_R_held 100 = .ok (.iaload, 1) := by decide +kernel
theorem d_R_held_101 : decode b_R_held 101 = .ok (.invokestatic 149, 3) := by decide +kernel
theorem d_R_held_104 : decode b_R_held 104 = .ok (.iconst 2, 1) := by decide +kernel
theorem d_R_held_105 : decode b_R_held 105 = .ok (.if_icmp .ne 7, 3) := by decide +kernel
theorem d_R_held_108 : decode b_R_held 108 = .ok (.iconst 1, 1) := by decide +kernel
theorem d_R_held_109 : decode b_R_held 109 = .ok (.goto 4, 3) := by decide +kernel
theorem d_R_held_112 : decode b_R_held 112 = .ok (.iconst 0, 1) := by decide +kernel
theorem d_R_held_113 : decode b_R_held 113 = .ok (.istore_n 2, 1) := by decide +kernel
theorem d_R_held_114 : decode b_R_held 114 = .ok (.aload_n 0, 1) := by decide +kernel
theorem d_R_held_115 : decode b_R_held 115 = .ok (.getfield 66, 3) := by decide +kernel
theorem d_R_held_118 : decode b_R_held 118 = .ok (.iload 5, 2) := by decide +kernel
theorem d_R_held_120 : decode b_R_held 120 = .ok (.iaload, 1) := by decide +kernel
theorem d_R_held_121 : decode b_R_held 121 = .ok (.istore 6, 2) := by decide +kernel
theorem d_R_held_123 : decode b_R_held 123 = .ok (.iload 6, 2) := by decide +kernel
theorem d_R_held_125 : decode b_R_held 125 = .ok (.aload_n 0, 1) := by decide +kernel
theorem d_R_held_126 : decode b_R_held 126 = .ok (.getfield 63, 3) := by decide +kernel
theorem d_R_held_129 : decode b_R_held 129 = .ok (.iload 5, 2) := by decide +kernel
theorem d_R_held_131 : decode b_R_held 131 = .ok (.iaload, 1) := by decide +kernel
theorem d_R_held_132 : decode b_R_held 132 = .ok (.if_icmp .ge 34, 3) := by decide +kernel
theorem d_R_held_135 : decode b_R_held 135 = .ok (.iload_n 2, 1) := by decide +kernel
theorem d_R_held_136 : decode b_R_held 136 = .ok (.ifCond .ne 18, 3) := by decide +kernel
theorem d_R_held_139 : decode b_R_held 139 = .ok (.aload_n 0, 1) := by decide +kernel
theorem d_R_held_140 : decode b_R_held 140 = .ok (.iload 5, 2) := by decide +kernel
theorem d_R_held_142 : decode b_R_held 142 = .ok (.iload 6, 2) := by decide +kernel
theorem d_R_held_144 : decode b_R_held 144 = .ok (.invokevirtual 107, 3) := by decide +kernel
theorem d_R_held_147 : decode b_R_held 147 = .ok (.lload_n 3, 1) := by decide +kernel
theorem d_R_held_148 : decode b_R_held 148 = .ok (.land, 1) := by decide +kernel
theorem d_R_held_149 : decode b_R_held 149 = .ok (.lconst 0, 1) := by decide +kernel
theorem d_R_held_150 : decode b_R_held 150 = .ok (.lcmp, 1) := by decide +kernel
theorem d_R_held_151 : decode b_R_held 151 = .ok (.ifCond .eq 7, 3) := by decide +kernel
theorem d_R_held_154 : decode b_R_held 154 = .ok (.iconst 1, 1) := by decide +kernel
theorem d_R_held_155 : decode b_R_held 155 = .ok (.goto 4, 3) := by decide +kernel
theorem d_R_held_158 : decode b_R_held 158 = .ok (.iconst 0, 1) := by decide +kernel
theorem d_R_held_159 : decode b_R_held 159 = .ok (.istore_n 2, 1) := by decide +kernel
theorem d_R_held_160 : decode b_R_held 160 = .ok (.iinc 6 1, 3) := by decide +kernel
theorem d_R_held_163 : decode b_R_held 163 = .ok (.goto (-40), 3) := by decide +kernel
theorem d_R_held_166 : decode b_R_held 166 = .ok (.iinc 5 1, 3) := by decide +kernel
theorem d_R_held_169 : decode b_R_held 169 = .ok (.goto (-93), 3) := by decide +kernel
theorem d_R_held_172 : decode b_R_held 172 = .ok (.iload_n 2, 1) := by decide +kernel
theorem d_R_held_173 : decode b_R_held 173 = .ok (.ireturn, 1) := by decide +kernel
theorem d_R_handsOut_0 : decode b_R_handsOut 0 = .ok (.aload_n 0, 1) := by decide +kernel
theorem d_R_handsOut_1 : decode b_R_handsOut 1 = .ok (.getfield 146, 3) := by decide +kernel
theorem d_R_handsOut_4 : decode b_R_handsOut 4 = .ok (.istore_n 2, 1) := by decide +kernel
theorem d_R_handsOut_5 : decode b_R_handsOut 5 = .ok (.aload_n 0, 1) := by decide +kernel
theorem d_R_handsOut_6 : decode b_R_handsOut 6 = .ok (.getfield 32, 3) := by decide +kernel
theorem d_R_handsOut_9 : decode b_R_handsOut 9 = .ok (.iload_n 1, 1) := by decide +kernel
theorem d_R_handsOut_10 : decode b_R_handsOut 10 = .ok (.iaload, 1) := by decide +kernel
theorem d_R_handsOut_11 : decode b_R_handsOut 11 = .ok (.istore_n 3, 1) := by decide +kernel
theorem d_R_handsOut_12 : decode b_R_handsOut 12 = .ok (.aload_n 0, 1) := by decide +kernel
theorem d_R_handsOut_13 : decode b_R_handsOut 13 = .ok (.getfield 51, 3) := by decide +kernel
theorem d_R_handsOut_16 : decode b_R_handsOut 16 = .ok (.iload_n 2, 1) := by decide +kernel
theorem d_R_handsOut_17 : decode b_R_handsOut 17 = .ok (.iload_n 1, 1) := by decide +kernel
theorem d_R_handsOut_18 : decode b_R_handsOut 18 = .ok (.iastore, 1) := by decide +kernel
theorem d_R_handsOut_19 : decode b_R_handsOut 19 = .ok (.aload_n 0, 1) := by decide +kernel
theorem d_R_handsOut_20 : decode b_R_handsOut 20 = .ok (.getfield 54, 3) := by decide +kernel
theorem d_R_handsOut_23 : decode b_R_handsOut 23 = .ok (.iload_n 2, 1) := by decide +kernel
theorem d_R_handsOut_24 : decode b_R_handsOut 24 = .ok (.aload_n 0, 1) := by decide +kernel
theorem d_R_handsOut_25 : decode b_R_handsOut 25 = .ok (.getfield 13, 3) := by decide +kernel
theorem d_R_handsOut_28 : decode b_R_handsOut 28 = .ok (.iastore, 1) := by decide +kernel
theorem d_R_handsOut_29 : decode b_R_handsOut 29 = .ok (.aload_n 0, 1) := by decide +kernel
theorem d_R_handsOut_30 : decode b_R_handsOut 30 = .ok (.getfield 57, 3) := by decide +kernel
theorem d_R_handsOut_33 : decode b_R_handsOut 33 = .ok (.iload_n 2, 1) := by decide +kernel
theorem d_R_handsOut_34 : decode b_R_handsOut 34 = .ok (.aload_n 0, 1) := by decide +kernel
theorem d_R_handsOut_35 : decode b_R_handsOut 35 = .ok (.getfield 16, 3) := by decide +kernel
theorem d_R_handsOut_38 : decode b_R_handsOut 38 = .ok (.iastore, 1) := by decide +kernel
theorem d_R_handsOut_39 : decode b_R_handsOut 39 = .ok (.aload_n 0, 1) := by decide +kernel
theorem d_R_handsOut_40 : decode b_R_handsOut 40 = .ok (.getfield 60, 3) := by decide +kernel
theorem d_R_handsOut_43 : decode b_R_handsOut 43 = .ok (.iload_n 2, 1) := by decide +kernel
theorem d_R_handsOut_44 : decode b_R_handsOut 44 = .ok (.aload_n 0, 1) := by decide +kernel
theorem d_R_handsOut_45 : decode b_R_handsOut 45 = .ok (.getfield 167, 3) := by decide +kernel
theorem d_R_handsOut_48 : decode b_R_handsOut 48 = .ok (.iastore, 1) := by decide +kernel
theorem d_R_handsOut_49 : decode b_R_handsOut 49 = .ok (.aload_n 0, 1) := by decide +kernel
theorem d_R_handsOut_50 : decode b_R_handsOut 50 = .ok (.getfield 66, 3) := by decide +kernel
theorem d_R_handsOut_53 : decode b_R_handsOut 53 = .ok (.iload_n 2, 1) := by decide +kernel
theorem d_R_handsOut_54 : decode b_R_handsOut 54 = .ok (.iconst 0, 1) := by decide +kernel
theorem d_R_handsOut_55 : decode b_R_handsOut 55 = .ok (.iastore, 1) := by decide +kernel
theorem d_R_handsOut_56 : decode b_R_handsOut 56 = .ok (.aload_n 0, 1) := by decide +kernel
theorem d_R_handsOut_57 : decode b_R_handsOut 57 = .ok (.getfield 69, 3) := by decide +kernel
theorem d_R_handsOut_60 : decode b_R_handsOut 60 = .ok (.iload_n 2, 1) := by decide +kernel
theorem d_R_handsOut_61 : decode b_R_handsOut 61 = .ok (.iconst 0, 1) := by decide +kernel
theorem d_R_handsOut_62 : decode b_R_handsOut 62 = .ok (.iastore, 1) := by decide +kernel
theorem d_R_handsOut_63 : decode b_R_handsOut 63 = .ok (.aload_n 0, 1) := by decide +kernel
theorem d_R_handsOut_64 : decode b_R_handsOut 64 = .ok (.getfield 72, 3) := by decide +kernel
theorem d_R_handsOut_67 : decode b_R_handsOut 67 = .ok (.iload_n 2, 1) := by decide +kernel
theorem d_R_handsOut_68 : decode b_R_handsOut 68 = .ok (.iload_n 3, 1) := by decide +kernel
theorem d_R_handsOut_69 : decode b_R_handsOut 69 = .ok (.bipush 14, 2) := by decide +kernel
theorem d_R_handsOut_71 : decode b_R_handsOut 71 = .ok (.if_icmp .ne 10, 3) := by decide +kernel
theorem d_R_handsOut_74 : decode b_R_handsOut 74 = .ok (.aload_n 0, 1) := by decide +kernel
theorem d_R_handsOut_75 : decode b_R_handsOut 75 = .ok (.getfield 161, 3) := by decide +kernel
theorem d_R_handsOut_78 : decode b_R_handsOut 78 = .ok (.goto 14, 3) := by decide +kernel
theorem d_R_handsOut_81 : decode b_R_handsOut 81 = .ok (.aload_n 0, 1) := by decide +kernel
theorem d_R_handsOut_82 : decode b_R_handsOut 82 = .ok (.getfield 22, 3) := by decide +kernel
theorem d_R_handsOut_85 : decode b_R_handsOut 85 = .ok (.aload_n 0, 1) := by decide +kernel
theorem d_R_handsOut_86 : decode b_R_handsOut 86 = .ok (.getfield 38, 3) := by decide +kernel
theorem d_R_handsOut_89 : decode b_R_handsOut 89 = .ok (.iload_n 1, 1) := by decide +kernel
theorem d_R_handsOut_90 : decode b_R_handsOut 90 = .ok (.iaload, 1) := by decide +kernel
theorem d_R_handsOut_91 : decode b_R_handsOut 91 = .ok (.iaload, 1) := by decide +kernel
theorem d_R_handsOut_92 : decode b_R_handsOut 92 = .ok (.iastore, 1) := by decide +kernel
theorem d_R_handsOut_93 : decode b_R_handsOut 93 = .ok (.aload_n 0, 1) := by decide +kernel
theorem d_R_handsOut_94 : decode b_R_handsOut 94 = .ok (.getfield 75, 3) := by decide +kernel
theorem d_R_handsOut_97 : decode b_R_handsOut 97 = .ok (.iload_n 2, 1) := by decide +kernel
theorem d_R_handsOut_98 : decode b_R_handsOut 98 = .ok (.aload_n 0, 1) := by decide +kernel
theorem d_R_handsOut_99 : decode b_R_handsOut 99 = .ok (.getfield 22, 3) := by decide +kernel
theorem d_R_handsOut_102 : decode b_R_handsOut 102 = .ok (.aload_n 0, 1) := by decide +kernel
theorem d_R_handsOut_103 : decode b_R_handsOut 103 = .ok (.getfield 41, 3) := by decide +kernel
theorem d_R_handsOut_106 : decode b_R_handsOut 106 = .ok (.iload_n 1, 1) := by decide +kernel
theorem d_R_handsOut_107 : decode b_R_handsOut 107 = .ok (.iaload, 1) := by decide +kernel
theorem d_R_handsOut_108 : decode b_R_handsOut 108 = .ok (.iaload, 1) := by decide +kernel
theorem d_R_handsOut_109 : decode b_R_handsOut 109 = .ok (.iastore, 1) := by decide +kernel
theorem d_R_handsOut_110 : decode b_R_handsOut 110 = .ok (.iload_n 3, 1) := by decide +kernel
theorem d_R_handsOut_111 : decode b_R_handsOut 111 = .ok (.bipush 17, 2) := by decide +kernel
theorem d_R_handsOut_113 : decode b_R_handsOut 113 = .ok (.if_icmp .lt 11, 3) := by decide +kernel
theorem d_R_handsOut_116 : decode b_R_handsOut 116 = .ok (.aload_n 0, 1) := by decide +kernel
theorem d_R_handsOut_117 : decode b_R_handsOut 117 = .ok (.iload_n 2, 1) := by decide +kernel
theorem d_R_handsOut_118 : decode b_R_handsOut 118 = .ok (.invokevirtual 176, 3) := by decide +kernel
theorem d_R_handsOut_121 : decode b_R_handsOut 121 = .ok (.goto 7, 3) := by decide +kernel
theorem d_R_handsOut_124 : decode b_R_handsOut 124 = .ok (.aload_n 0, 1) := by decide +kernel
theorem d_R_handsOut_125 : decode b_R_handsOut 125 = .ok (.getfield 161, 3) := by decide +kernel
theorem d_R_handsOut_128 : decode b_R_handsOut 128 = .ok (.istore 4, 2) := by decide +kernel
theorem d_R_handsOut_130 : decode b_R_handsOut 130 = .ok (.aload_n 0, 1) := by decide +kernel
theorem d_R_handsOut_131 : decode b_R_handsOut 131 = .ok (.getfield 63, 3) := by decide +kernel
theorem d_R_handsOut_134 : decode b_R_handsOut 134 = .ok (.iload_n 2, 1) := by decide +kernel
theorem d_R_handsOut_135 : decode b_R_handsOut 135 = .ok (.iload 4, 2) := by decide +kernel
theorem d_R_handsOut_137 : decode b_R_handsOut 137 = .ok (.aload_n 0, 1) := by decide +kernel
theorem d_R_handsOut_138 : decode b_R_handsOut 138 = .ok (.getfield 167, 3) := by decide +kernel
theorem d_R_handsOut_141 : decode b_R_handsOut 141 = .ok (.if_icmp .gt 7, 3) := by decide +kernel
theorem d_R_handsOut_144 : decode b_R_handsOut 144 = .ok (.iconst 0, 1) := by decide +kernel
theorem d_R_handsOut_145 : decode b_R_handsOut 145 = .ok (.goto 20, 3) := by decide +kernel
theorem d_R_handsOut_148 : decode b_R_handsOut 148 = .ok (.iload_n 3, 1) := by decide +kernel
theorem d_R_handsOut_149 : decode b_R_handsOut 149 = .ok (.bipush 14, 2) := by decide +kernel
theorem d_R_handsOut_151 : decode b_R_handsOut 151 = .ok (.if_icmp .ne 7, 3) := by decide +kernel
theorem d_R_handsOut_154 : decode b_R_handsOut 154 = .ok (.iconst 1, 1) := by decide +kernel
theorem d_R_handsOut_155 : decode b_R_handsOut 155 = .ok (.goto 10, 3) := by decide +kernel
theorem d_R_handsOut_158 : decode b_R_handsOut 158 = .ok (.iload 4, 2) := by decide +kernel
theorem d_R_handsOut_160 : decode b_R_handsOut 160 = .ok (.aload_n 0, 1) := by decide +kernel
theorem d_R_handsOut_161 : decode b_R_handsOut 161 = .ok (.getfield 167, 3) := by decide +kernel
theorem d_R_handsOut_164 : decode b_R_handsOut 164 = .ok (.isub, 1) := by decide +kernel
theorem d_R_handsOut_165 : decode b_R_handsOut 165 = .ok (.iastore, 1) := by decide +kernel
theorem d_R_handsOut_166 : decode b_R_handsOut 166 = .ok (.iload_n 3, 1) := by decide +kernel
theorem d_R_handsOut_167 : decode b_R_handsOut 167 = .ok (.bipush 17, 2) := by decide +kernel
theorem d_R_handsOut_169 : decode b_R_handsOut 169 = .ok (.if_icmp .lt 16, 3) := by decide +kernel
theorem d_R_handsOut_172 : decode b_R_handsOut 172 = .ok (.iload 4, 2) := by decide +kernel
theorem d_R_handsOut_174 : decode b_R_handsOut 174 = .ok (.aload_n 0, 1) := by decide +kernel
theorem d_R_handsOut_175 : decode b_R_handsOut 175 = .ok (.getfield 161, 3) := by decide +kernel
theorem d_R_handsOut_178 : decode b_R_handsOut 178 = .ok (.if_icmp .ge 7, 3) := by decide +kernel
theorem d_R_handsOut_181 : decode b_R_handsOut 181 = .ok (.iconst 1, 1) := by decide +kernel
theorem d_R_handsOut_182 : decode b_R_handsOut 182 = .ok (.goto 4, 3) := by decide +kernel
theorem d_R_handsOut_185 : decode b_R_handsOut 185 = .ok (.iconst 0, 1) := by decide +kernel
theorem d_R_handsOut_186 : decode b_R_handsOut 186 = .ok (.istore 5, 2) := by decide +kernel
theorem d_R_handsOut_188 : decode b_R_handsOut 188 = .ok (.iload 5, 2) := by decide +kernel
theorem d_R_handsOut_190 : decode b_R_handsOut 190 = .ok (.ifCond .eq 28, 3) := by decide +kernel
theorem d_R_handsOut_193 : decode b_R_handsOut 193 = .ok (.iload_n 3, 1) := by decide +kernel
theorem d_R_handsOut_194 : decode b_R_handsOut 194 = .ok (.bipush 20, 2) := by decide +kernel
theorem d_R_handsOut_196 : decode b_R_handsOut 196 = .ok (.if_icmp .ne 8, 3) := by decide +kernel
theorem d_R_handsOut_199 : decode b_R_handsOut 199 = .ok (.iload 4, 2) := by decide +kernel
theorem d_R_handsOut_201 : decode b_R_handsOut 201 = .ok (.ifCond .gt 17, 3) := by decide +kernel
theorem d_R_handsOut_204 : decode b_R_handsOut 204 = .ok (.aload_n 0, 1) := by decide +kernel
theorem d_R_handsOut_205 : decode b_R_handsOut 205 = .ok (.iload 4, 2) := by decide +kernel
theorem d_R_handsOut_207 : decode b_R_handsOut 207 = .ok (.putfield 167, 3) := by decide +kernel
theorem d_R_handsOut_210 : decode b_R_handsOut 210 = .ok (.aload_n 0, 1) := by decide +kernel
theorem d_R_handsOut_211 : decode b_R_handsOut 211 = .ok (.iconst 2, 1) := by decide +kernel
theorem d_R_handsOut_212 : decode b_R_handsOut 212 = .ok (.putfield 9, 3) := by decide +kernel
theorem d_R_handsOut_215 : decode b_R_handsOut 215 = .ok (.goto 36, 3) := by decide +kernel
theorem d_R_handsOut_218 : decode b_R_handsOut 218 = .ok (.aload_n 0, 1) := by decide +kernel
theorem d_R_handsOut_219 : decode b_R_handsOut 219 = .ok (.iload 5, 2) := by decide +kernel
theorem d_R_handsOut_221 : decode b_R_handsOut 221 = .ok (.ifCond .eq 8, 3) := by decide +kernel
theorem d_R_handsOut_224 : decode b_R_handsOut 224 = .ok (.iload 4, 2) := by decide +kernel
theorem d_R_handsOut_226 : decode b_R_handsOut 226 = .ok (.goto 7, 3) := by decide +kernel
theorem d_R_handsOut_229 : decode b_R_handsOut 229 = .ok (.aload_n 0, 1) := by decide +kernel
theorem d_R_handsOut_230 : decode b_R_handsOut 230 = .ok (.getfield 161, 3) := by decide +kernel
theorem d_R_handsOut_233 : decode b_R_handsOut 233 = .ok (.putfield 161, 3) := by decide +kernel
theorem d_R_handsOut_236 : decode b_R_handsOut 236 = .ok (.aload_n 0, 1) := by decide +kernel
theorem d_R_handsOut_237 : decode b_R_handsOut 237 = .ok (.iconst 0, 1) := by decide +kernel
theorem d_R_handsOut_238 : decode b_R_handsOut 238 = .ok (.putfield 167, 3) := by decide +kernel
theorem d_R_handsOut_241 : decode b_R_handsOut 241 = .ok (.aload_n 0, 1) := by decide +kernel
theorem d_R_handsOut_242 : decode b_R_handsOut 242 = .ok (.dup, 1) := by decide +kernel
theorem d_R_handsOut_243 : decode b_R_handsOut 243 = .ok (.getfield 170, 3) := by decide +kernel
theorem d_R_handsOut_246 : decode b_R_handsOut 246 = .ok (.iconst 1, 1) := by decide +kernel
theorem d_R_handsOut_247 : decode b_R_handsOut 247 = .ok (.iadd, 1) := by decide +kernel
theorem d_R_handsOut_248 : decode b_R_handsOut 248 = .ok (.putfield 170, 3) := by decide +kernel
theorem d_R_handsOut_251 : decode b_R_handsOut 251 = .ok (.aload_n 0, 1) := by decide +kernel
theorem d_R_handsOut_252 : decode b_R_handsOut 252 = .ok (.dup, 1) := by decide +kernel
theorem d_R_handsOut_253 : decode b_R_handsOut 253 = .ok (.getfield 146, 3) := by decide +kernel
theorem d_R_handsOut_256 : decode b_R_handsOut 256 = .ok (.aload_n 0, 1) := by decide +kernel
theorem d_R_handsOut_257 : decode b_R_handsOut 257 = .ok (.getfield 63, 3) := by decide +kernel
theorem d_R_handsOut_260 : decode b_R_handsOut 260 = .ok (.iload_n 2, 1) := by decide +kernel
theorem d_R_handsOut_261 : decode b_R_handsOut 261 = .ok (.iaload, 1) := by decide +kernel
theorem d_R_handsOut_262 : decode b_R_handsOut 262 = .ok (.ifCond .le 7, 3) := by decide +kernel
theorem d_R_handsOut_265 : decode b_R_handsOut 265 = .ok (.iconst 1, 1) := by decide +kernel
theorem d_R_handsOut_266 : decode b_R_handsOut 266 = .ok (.goto 4, 3) := by decide +kernel
theorem d_R_handsOut_269 : decode b_R_handsOut 269 = .ok (.iconst 0, 1) := by decide +kernel
theorem d_R_handsOut_270 : decode b_R_handsOut 270 = .ok (.iadd, 1) := by decide +kernel
theorem d_R_handsOut_271 : decode b_R_handsOut 271 = .ok (.putfield 146, 3) := by decide +kernel
theorem d_R_handsOut_274 : decode b_R_handsOut 274 = .ok (.return_, 1) := by decide +kernel
theorem d_R_bad_0 : decode b_R_bad 0 = .ok (.aload_n 0, 1) := by decide +kernel
theorem d_R_bad_1 : decode b_R_bad 1 = .ok (.getfield 51, 3) := by decide +kernel
theorem d_R_bad_4 : decode b_R_bad 4 = .ok (.iload_n 1, 1) := by decide +kernel
theorem d_R_bad_5 : decode b_R_bad 5 = .ok (.iaload, 1) := by decide +kernel
theorem d_R_bad_6 : decode b_R_bad 6 = .ok (.istore_n 2, 1) := by decide +kernel
theorem d_R_bad_7 : decode b_R_bad 7 = .ok (.aload_n 0, 1) := by decide +kernel
theorem d_R_bad_8 : decode b_R_bad 8 = .ok (.getfield 167, 3) := by decide +kernel
theorem d_R_bad_11 : decode b_R_bad 11 = .ok (.istore_n 3, 1) := by decide +kernel
theorem d_R_bad_12 : decode b_R_bad 12 = .ok (.iload_n 3, 1) := by decide +kernel
theorem d_R_bad_13 : decode b_R_bad 13 = .ok (.aload_n 0, 1) := by decide +kernel
theorem d_R_bad_14 : decode b_R_bad 14 = .ok (.getfield 161, 3) := by decide +kernel
theorem d_R_bad_17 : decode b_R_bad 17 = .ok (.if_icmp .ge 56, 3) := by decide +kernel
theorem d_R_bad_20 : decode b_R_bad 20 = .ok (.aload_n 0, 1) := by decide +kernel
theorem d_R_bad_21 : decode b_R_bad 21 = .ok (.getfield 47, 3) := by decide +kernel
theorem d_R_bad_24 : decode b_R_bad 24 = .ok (.iload_n 2, 1) := by decide +kernel
theorem d_R_bad_25 : decode b_R_bad 25 = .ok (.baload, 1) := by decide +kernel
theorem d_R_bad_26 : decode b_R_bad 26 = .ok (.ifCond .eq 12, 3) := by decide +kernel
theorem d_R_bad_29 : decode b_R_bad 29 = .ok (.aload_n 0, 1) := by decide +kernel
theorem d_R_bad_30 : decode b_R_bad 30 = .ok (.iconst 0, 1) := by decide +kernel
theorem d_R_bad_31 : decode b_R_bad 31 = .ok (.iload_n 3, 1) := by decide +kernel
theorem d_R_bad_32 : decode b_R_bad 32 = .ok (.invokevirtual 114, 3) := by decide +kernel
theorem d_R_bad_35 : decode b_R_bad 35 = .ok (.ifCond .eq 32, 3) := by decide +kernel
theorem d_R_bad_38 : decode b_R_bad 38 = .ok (.aload_n 0, 1) := by decide +kernel
theorem d_R_bad_39 : decode b_R_bad 39 = .ok (.iload_n 1, 1) := by decide +kernel
theorem d_R_bad_40 : decode b_R_bad 40 = .ok (.iload_n 3, 1) := by decide +kernel
theorem d_R_bad_41 : decode b_R_bad 41 = .ok (.invokevirtual 125, 3) := by decide +kernel
theorem d_R_bad_44 : decode b_R_bad 44 = .ok (.istore 4, 2) := by decide +kernel
theorem d_R_bad_46 : decode b_R_bad 46 = .ok (.iload 4, 2) := by decide +kernel
theorem d_R_bad_48 : decode b_R_bad 48 = .ok (.ifCond .lt 17, 3) := by decide +kernel
theorem d_R_bad_51 : decode b_R_bad 51 = .ok (.iload 4, 2) := by decide +kernel
theorem d_R_bad_53 : decode b_R_bad 53 = .ok (.aload_n 0, 1) := by decide +kernel
theorem d_R_bad_54 : decode b_R_bad 54 = .ok (.getfield 19, 3) := by decide +kernel
theorem d_R_bad_57 : decode b_R_bad 57 = .ok (.aload_n 0, 1) := by decide +kernel
theorem d_R_bad_58 : decode b_R_bad 58 = .ok (.getfield 13, 3) := by decide +kernel
theorem d_R_bad_61 : decode b_R_bad 61 = .ok (.isub, 1) := by decide +kernel
theorem d_R_bad_62 : decode b_R_bad 62 = .ok (.if_icmp .le 5, 3) := by decide +kernel
theorem d_R_bad_65 : decode b_R_bad 65 = .ok (.iload_n 3, 1) := by decide +kernel
theorem d_R_bad_66 : decode b_R_bad 66 = .ok (.ireturn, 1) := by decide +kernel
theorem d_R_bad_67 : decode b_R_bad 67 = .ok (.iinc 3 1, 3) := by decide +kernel
theorem d_R_bad_70 : decode b_R_bad 70 = .ok (.goto (-58), 3) := by decide +kernel
theorem d_R_bad_73 : decode b_R_bad 73 = .ok (.aload_n 0, 1) := by decide +kernel
theorem d_R_bad_74 : decode b_R_bad 74 = .ok (.getfield 161, 3) := by decide +kernel
theorem d_R_bad_77 : decode b_R_bad 77 = .ok (.ireturn, 1) := by decide +kernel
theorem d_R_put_0 : decode b_R_put 0 = .ok (.iload_n 1, 1) := by decide +kernel
theorem d_R_put_1 : decode b_R_put 1 = .ok (.ifCond .lt 61, 3) := by decide +kernel
theorem d_R_put_4 : decode b_R_put 4 = .ok (.iload_n 1, 1) := by decide +kernel
theorem d_R_put_5 : decode b_R_put 5 = .ok (.bipush 20, 2) := by decide +kernel
theorem d_R_put_7 : decode b_R_put 7 = .ok (.if_icmp .gt 55, 3) := by decide +kernel
theorem d_R_put_10 : decode b_R_put 10 = .ok (.iload_n 2, 1) := by decide +kernel
theorem d_R_put_11 : decode b_R_put 11 = .ok (.invokestatic 207, 3) := by decide +kernel
theorem d_R_put_14 : decode b_R_put 14 = .ok (.ifCond .eq 48, 3) := by decide +kernel
theorem d_R_put_17 : decode b_R_put 17 = .ok (.iload_n 3, 1) := by decide +kernel
theorem d_R_put_18 : decode b_R_put 18 = .ok (.invokestatic 207, 3) := by decide +kernel
theorem d_R_put_21 : decode b_R_put 21 = .ok (.ifCond .eq 41, 3) := by decide +kernel
theorem d_R_put_24 : decode b_R_put 24 = .ok (.iload 4, 2) := by decide +kernel
theorem d_R_put_26 : decode b_R_put 26 = .ok (.invokestatic 207, 3) := by decide +kernel
theorem d_R_put_29 : decode b_R_put 29 = .ok (.ifCond .eq 33, 3) := by decide +kernel
theorem d_R_put_32 : decode b_R_put 32 = .ok (.iload_n 1, 1) := by decide +kernel
theorem d_R_put_33 : decode b_R_put 33 = .ok (.bipush 6, 2) := by decide +kernel
theorem d_R_put_35 : decode b_R_put 35 = .ok (.if_icmp .ne 23, 3) := by decide +kernel
theorem d_R_put_38 : decode b_R_put 38 = .ok (.iload 5, 2) := by decide +kernel
theorem d_R_put_40 : decode b_R_put 40 = .ok (.ifCond .lt 22, 3) := by decide +kernel
theorem d_R_put_43 : decode b_R_put 43 = .ok (.iload 5, 2) := by decide +kernel
theorem d_R_put_45 : decode b_R_put 45 = .ok (.bipush 10, 2) := by decide +kernel
theorem d_R_put_47 : decode b_R_put 47 = .ok (.if_icmp .gt 15, 3) := by decide +kernel
theorem d_R_put_50 : decode b_R_put 50 = .ok (.iload 5, 2) := by decide +kernel
theorem d_R_put_52 : decode b_R_put 52 = .ok (.iconst 4, 1) := by decide +kernel
theorem d_R_put_53 : decode b_R_put 53 = .ok (.irem, 1) := by decide +kernel
theorem d_R_put_54 : decode b_R_put 54 = .ok (.iconst 3, 1) := by decide +kernel
theorem d_R_put_55 : decode b_R_put 55 = .ok (.if_icmp .eq 7, 3) := by decide +kernel
theorem d_R_put_58 : decode b_R_put 58 = .ok (.iconst 1, 1) := by decide +kernel
theorem d_R_put_59 : decode b_R_put 59 = .ok (.goto 4, 3) := by decide +kernel
theorem d_R_put_62 : decode b_R_put 62 = .ok (.iconst 0, 1) := by decide +kernel
theorem d_R_put_63 : decode b_R_put 63 = .ok (.istore 7, 2) := by decide +kernel
theorem d_R_put_65 : decode b_R_put 65 = .ok (.aload_n 0, 1) := by decide +kernel
theorem d_R_put_66 : decode b_R_put 66 = .ok (.iload 7, 2) := by decide +kernel
theorem d_R_put_68 : decode b_R_put 68 = .ok (.ifCond .ne 7, 3) := by decide +kernel
theorem d_R_put_71 : decode b_R_put 71 = .ok (.iconst 1, 1) := by decide +kernel
theorem d_R_put_72 : decode b_R_put 72 = .ok (.goto 24, 3) := by decide +kernel
theorem d_R_put_75 : decode b_R_put 75 = .ok (.aload_n 0, 1) := by decide +kernel
theorem d_R_put_76 : decode b_R_put 76 = .ok (.getfield 179, 3) := by decide +kernel
theorem d_R_put_79 : decode b_R_put 79 = .ok (.bipush 40, 2) := by decide +kernel
theorem d_R_put_81 : decode b_R_put 81 = .ok (.if_icmp .eq 10, 3) := by decide +kernel
theorem d_R_put_84 : decode b_R_put 84 = .ok (.aload_n 0, 1) := by decide +kernel
theorem d_R_put_85 : decode b_R_put 85 = .ok (.getfield 9, 3) := by decide +kernel
theorem d_R_put_88 : decode b_R_put 88 = .ok (.ifCond .ne 7, 3) := by decide +kernel
theorem d_R_put_91 : decode b_R_put 91 = .ok (.iconst 2, 1) := by decide +kernel
theorem d_R_put_92 : decode b_R_put 92 = .ok (.goto 4, 3) := by decide +kernel
theorem d_R_put_95 : decode b_R_put 95 = .ok (.iconst 0, 1) := by decide +kernel
theorem d_R_put_96 : decode b_R_put 96 = .ok (.putfield 81, 3) := by decide +kernel
theorem d_R_put_99 : decode b_R_put 99 = .ok (.aload_n 0, 1) := by decide +kernel
theorem d_R_put_100 : decode b_R_put 100 = .ok (.getfield 81, 3) := by decide +kernel
theorem d_R_put_103 : decode b_R_put 103 = .ok (.ifCond .le 5, 3) := by decide +kernel
theorem d_R_put_106 : decode b_R_put 106 = .ok (.iconst 0, 1) := by decide +kernel
theorem d_R_put_107 : decode b_R_put 107 = .ok (.ireturn, 1) := by decide +kernel
theorem d_R_put_108 : decode b_R_put 108 = .ok (.aload_n 0, 1) := by decide +kernel
theorem d_R_put_109 : decode b_R_put 109 = .ok (.getfield 32, 3) := by decide +kernel
theorem d_R_put_112 : decode b_R_put 112 = .ok (.aload_n 0, 1) := by decide +kernel
theorem d_R_put_113 : decode b_R_put 113 = .ok (.getfield 179, 3) := by decide +kernel
theorem d_R_put_116 : decode b_R_put 116 = .ok (.iload_n 1, 1) := by decide +kernel
theorem d_R_put_117 : decode b_R_put 117 = .ok (.iastore, 1) := by decide +kernel
theorem d_R_put_118 : decode b_R_put 118 = .ok (.aload_n 0, 1) := by decide +kernel
theorem d_R_put_119 : decode b_R_put 119 = .ok (.getfield 35, 3) := by decide +kernel
theorem d_R_put_122 : decode b_R_put 122 = .ok (.aload_n 0, 1) := by decide +kernel
theorem d_R_put_123 : decode b_R_put 123 = .ok (.getfield 179, 3) := by decide +kernel
theorem d_R_put_126 : decode b_R_put 126 = .ok (.iload_n 2, 1) := by decide +kernel
theorem d_R_put_127 : decode b_R_put 127 = .ok (.iastore, 1) := by decide +kernel
theorem d_R_put_128 : decode b_R_put 128 = .ok (.aload_n 0, 1) := by decide +kernel
theorem d_R_put_129 : decode b_R_put 129 = .ok (.getfield 38, 3) := by decide +kernel
theorem d_R_put_132 : decode b_R_put 132 = .ok (.aload_n 0, 1) := by decide +kernel
theorem d_R_put_133 : decode b_R_put 133 = .ok (.getfield 179, 3) := by decide +kernel
theorem d_R_put_136 : decode b_R_put 136 = .ok (.iload_n 3, 1) := by decide +kernel
theorem d_R_put_137 : decode b_R_put 137 = .ok (.iastore, 1) := by decide +kernel
theorem d_R_put_138 : decode b_R_put 138 = .ok (.aload_n 0, 1) := by decide +kernel
theorem d_R_put_139 : decode b_R_put 139 = .ok (.getfield 41, 3) := by decide +kernel
theorem d_R_put_142 : decode b_R_put 142 = .ok (.aload_n 0, 1) := by decide +kernel
theorem d_R_put_143 : decode b_R_put 143 = .ok (.getfield 179, 3) := by decide +kernel
theorem d_R_put_146 : decode b_R_put 146 = .ok (.iload 4, 2) := by decide +kernel
theorem d_R_put_148 : decode b_R_put 148 = .ok (.iastore, 1) := by decide +kernel
theorem d_R_put_149 : decode b_R_put 149 = .ok (.aload_n 0, 1) := by decide +kernel
theorem d_R_put_150 : decode b_R_put 150 = .ok (.getfield 44, 3) := by decide +kernel
theorem d_R_put_153 : decode b_R_put 153 = .ok (.aload_n 0, 1) := by decide +kernel
theorem d_R_put_154 : decode b_R_put 154 = .ok (.getfield 179, 3) := by decide +kernel
theorem d_R_put_157 : decode b_R_put 157 = .ok (.iload 5, 2) := by decide +kernel
theorem d_R_put_159 : decode b_R_put 159 = .ok (.iastore, 1) := by decide +kernel
theorem d_R_put_160 : decode b_R_put 160 = .ok (.aload_n 0, 1) := by decide +kernel
theorem d_R_put_161 : decode b_R_put 161 = .ok (.getfield 47, 3) := by decide +kernel
theorem d_R_put_164 : decode b_R_put 164 = .ok (.aload_n 0, 1) := by decide +kernel
theorem d_R_put_165 : decode b_R_put 165 = .ok (.getfield 179, 3) := by decide +kernel
theorem d_R_put_168 : decode b_R_put 168 = .ok (.iload 6, 2) := by decide +kernel
theorem d_R_put_170 : decode b_R_put 170 = .ok (.bastore, 1) := by decide +kernel
theorem d_R_put_171 : decode b_R_put 171 = .ok (.aload_n 0, 1) := by decide +kernel
theorem d_R_put_172 : decode b_R_put 172 = .ok (.dup, 1) := by decide +kernel
theorem d_R_put_173 : decode b_R_put 173 = .ok (.getfield 179, 3) := by decide +kernel
theorem d_R_put_176 : decode b_R_put 176 = .ok (.iconst 1, 1) := by decide +kernel
theorem d_R_put_177 : decode b_R_put 177 = .ok (.iadd, 1) := by decide +kernel
theorem d_R_put_178 : decode b_R_put 178 = .ok (.putfield 179, 3) := by decide +kernel
theorem d_R_put_181 : decode b_R_put 181 = .ok (.aload_n 0, 1) := by decide +kernel
theorem d_R_put_182 : decode b_R_put 182 = .ok (.getfield 179, 3) := by decide +kernel
theorem d_R_put_185 : decode b_R_put 185 = .ok (.iconst 1, 1) := by decide +kernel
theorem d_R_put_186 : decode b_R_put 186 = .ok (.isub, 1) := by decide +kernel
theorem d_R_put_187 : decode b_R_put 187 = .ok (.ireturn, 1) := by decide +kernel
theorem d_R_isRegister_0 : decode b_R_isRegister 0 = .ok (.iload_n 0, 1) := by decide +kernel
theorem d_R_isRegister_1 : decode b_R_isRegister 1 = .ok (.ifCond .lt 13, 3) := by decide +kernel
theorem d_R_isRegister_4 : decode b_R_isRegister 4 = .ok (.iload_n 0, 1) := by decide +kernel
theorem d_R_isRegister_5 : decode b_R_isRegister 5 = .ok (.bipush 7, 2) := by decide +kernel
theorem d_R_isRegister_7 : decode b_R_isRegister 7 = .ok (.if_icmp .gt 7, 3) := by decide +kernel
theorem d_R_isRegister_10 : decode b_R_isRegister 10 = .ok (.iconst 1, 1) := by decide +kernel
theorem d_R_isRegister_11 : decode b_R_isRegister 11 = .ok (.goto 4, 3) := by decide +kernel
theorem d_R_isRegister_14 : decode b_R_isRegister 14 = .ok (.iconst 0, 1) := by decide +kernel
theorem d_R_isRegister_15 : decode b_R_isRegister 15 = .ok (.ireturn, 1) := by decide +kernel
theorem d_R_go_0 : decode b_R_go 0 = .ok (.aload_n 0, 1) := by decide +kernel
theorem d_R_go_1 : decode b_R_go 1 = .ok (.iload_n 1, 1) := by decide +kernel
theorem d_R_go_2 : decode b_R_go 2 = .ok (.ifCond .lt 11, 3) := by decide +kernel
theorem d_R_go_5 : decode b_R_go 5 = .ok (.iload_n 1, 1) := by decide +kernel
theorem d_R_go_6 : decode b_R_go 6 = .ok (.aload_n 0, 1) := by decide +kernel
theorem d_R_go_7 : decode b_R_go 7 = .ok (.getfield 179, 3) := by decide +kernel
theorem d_R_go_10 : decode b_R_go 10 = .ok (.if_icmp .lt 7, 3) := by decide +kernel
theorem d_R_go_13 : decode b_R_go 13 = .ok (.iconst 1, 1) := by decide +kernel
theorem d_R_go_14 : decode b_R_go 14 = .ok (.goto 22, 3) := by decide +kernel
theorem d_R_go_17 : decode b_R_go 17 = .ok (.aload_n 0, 1) := by decide +kernel
theorem d_R_go_18 : decode b_R_go 18 = .ok (.getfield 9, 3) := by decide +kernel
theorem d_R_go_21 : decode b_R_go 21 = .ok (.ifCond .eq 10, 3) := by decide +kernel
theorem d_R_go_24 : decode b_R_go 24 = .ok (.aload_n 0, 1) := by decide +kernel
theorem d_R_go_25 : decode b_R_go 25 = .ok (.getfield 146, 3) := by decide +kernel
theorem d_R_go_28 : decode b_R_go 28 = .ok (.ifCond .le 7, 3) := by decide +kernel
theorem d_R_go_31 : decode b_R_go 31 = .ok (.iconst 2, 1) := by decide +kernel
theorem d_R_go_32 : decode b_R_go 32 = .ok (.goto 4, 3) := by decide +kernel
theorem d_R_go_35 : decode b_R_go 35 = .ok (.iconst 0, 1) := by decide +kernel
theorem d_R_go_36 : decode b_R_go 36 = .ok (.putfield 81, 3) := by decide +kernel
theorem d_R_go_39 : decode b_R_go 39 = .ok (.aload_n 0, 1) := by decide +kernel
theorem d_R_go_40 : decode b_R_go 40 = .ok (.getfield 81, 3) := by decide +kernel
theorem d_R_go_43 : decode b_R_go 43 = .ok (.ifCond .le 5, 3) := by decide +kernel
theorem d_R_go_46 : decode b_R_go 46 = .ok (.iconst 0, 1) := by decide +kernel
theorem d_R_go_47 : decode b_R_go 47 = .ok (.ireturn, 1) := by decide +kernel
theorem d_R_go_48 : decode b_R_go 48 = .ok (.aload_n 0, 1) := by decide +kernel
theorem d_R_go_49 : decode b_R_go 49 = .ok (.iload_n 1, 1) := by decide +kernel
theorem d_R_go_50 : decode b_R_go 50 = .ok (.putfield 170, 3) := by decide +kernel
theorem d_R_go_53 : decode b_R_go 53 = .ok (.aload_n 0, 1) := by decide +kernel
theorem d_R_go_54 : decode b_R_go 54 = .ok (.iconst 0, 1) := by decide +kernel
theorem d_R_go_55 : decode b_R_go 55 = .ok (.putfield 167, 3) := by decide +kernel
theorem d_R_go_58 : decode b_R_go 58 = .ok (.aload_n 0, 1) := by decide +kernel
theorem d_R_go_59 : decode b_R_go 59 = .ok (.iconst 0, 1) := by decide +kernel
theorem d_R_go_60 : decode b_R_go 60 = .ok (.putfield 9, 3) := by decide +kernel
theorem d_R_go_63 : decode b_R_go 63 = .ok (.iload_n 1, 1) := by decide +kernel
theorem d_R_go_64 : decode b_R_go 64 = .ok (.ireturn, 1) := by decide +kernel
theorem d_R_resume_0 : decode b_R_resume 0 = .ok (.aload_n 0, 1) := by decide +kernel
theorem d_R_resume_1 : decode b_R_resume 1 = .ok (.aload_n 0, 1) := by decide +kernel
theorem d_R_resume_2 : decode b_R_resume 2 = .ok (.getfield 9, 3) := by decide +kernel
theorem d_R_resume_5 : decode b_R_resume 5 = .ok (.iconst 2, 1) := by decide +kernel
theorem d_R_resume_6 : decode b_R_resume 6 = .ok (.if_icmp .ne 10, 3) := by decide +kernel
theorem d_R_resume_9 : decode b_R_resume 9 = .ok (.aload_n 0, 1) := by decide +kernel
theorem d_R_resume_10 : decode b_R_resume 10 = .ok (.getfield 146, 3) := by decide +kernel
theorem d_R_resume_13 : decode b_R_resume 13 = .ok (.ifCond .le 7, 3) := by decide +kernel
theorem d_R_resume_16 : decode b_R_resume 16 = .ok (.iconst 1, 1) := by decide +kernel
theorem d_R_resume_17 : decode b_R_resume 17 = .ok (.goto 4, 3) := by decide +kernel
theorem d_R_resume_20 : decode b_R_resume 20 = .ok (.iconst 0, 1) := by decide +kernel
theorem d_R_resume_21 : decode b_R_resume 21 = .ok (.putfield 81, 3) := by decide +kernel
theorem d_R_resume_24 : decode b_R_resume 24 = .ok (.aload_n 0, 1) := by decide +kernel
theorem d_R_resume_25 : decode b_R_resume 25 = .ok (.getfield 81, 3) := by decide +kernel
theorem d_R_resume_28 : decode b_R_resume 28 = .ok (.ifCond .le 5, 3) := by decide +kernel
theorem d_R_resume_31 : decode b_R_resume 31 = .ok (.iconst 0, 1) := by decide +kernel
theorem d_R_resume_32 : decode b_R_resume 32 = .ok (.ireturn, 1) := by decide +kernel
theorem d_R_resume_33 : decode b_R_resume 33 = .ok (.aload_n 0, 1) := by decide +kernel
theorem d_R_resume_34 : decode b_R_resume 34 = .ok (.iconst 0, 1) := by decide +kernel
theorem d_R_resume_35 : decode b_R_resume 35 = .ok (.putfield 9, 3) := by decide +kernel
theorem d_R_resume_38 : decode b_R_resume 38 = .ok (.aload_n 0, 1) := by decide +kernel
theorem d_R_resume_39 : decode b_R_resume 39 = .ok (.getfield 167, 3) := by decide +kernel
theorem d_R_resume_42 : decode b_R_resume 42 = .ok (.ireturn, 1) := by decide +kernel
theorem d_R_poke_0 : decode b_R_poke 0 = .ok (.aload_n 0, 1) := by decide +kernel
theorem d_R_poke_1 : decode b_R_poke 1 = .ok (.iload_n 1, 1) := by decide +kernel
theorem d_R_poke_2 : decode b_R_poke 2 = .ok (.ifCond .lt 22, 3) := by decide +kernel
theorem d_R_poke_5 : decode b_R_poke 5 = .ok (.iload_n 1, 1) := by decide +kernel
theorem d_R_poke_6 : decode b_R_poke 6 = .ok (.bipush 127, 2) := by decide +kernel
theorem d_R_poke_8 : decode b_R_poke 8 = .ok (.if_icmp .gt 16, 3) := by decide +kernel
theorem d_R_poke_11 : decode b_R_poke 11 = .ok (.iload_n 2, 1) := by decide +kernel
theorem d_R_poke_12 : decode b_R_poke 12 = .ok (.bipush (-128), 2) := by decide +kernel
theorem d_R_poke_14 : decode b_R_poke 14 = .ok (.if_icmp .lt 10, 3) := by decide +kernel
theorem d_R_poke_17 : decode b_R_poke 17 = .ok (.iload_n 2, 1) := by decide +kernel
theorem d_R_poke_18 : decode b_R_poke 18 = .ok (.sipush 255, 3) := by decide +kernel
theorem d_R_poke_21 : decode b_R_poke 21 = .ok (.if_icmp .le 7, 3) := by decide +kernel
theorem d_R_poke_24 : decode b_R_poke 24 = .ok (.iconst 1, 1) := by decide +kernel
theorem d_R_poke_25 : decode b_R_poke 25 = .ok (.goto 4, 3) := by decide +kernel
theorem d_R_poke_28 : decode b_R_poke 28 = .ok (.iconst 0, 1) := by decide +kernel
theorem d_R_poke_29 : decode b_R_poke 29 = .ok (.putfield 81, 3) := by decide +kernel
theorem d_R_poke_32 : decode b_R_poke 32 = .ok (.aload_n 0, 1) := by decide +kernel
theorem d_R_poke_33 : decode b_R_poke 33 = .ok (.getfield 81, 3) := by decide +kernel
theorem d_R_poke_36 : decode b_R_poke 36 = .ok (.ifCond .le 5, 3) := by decide +kernel
theorem d_R_poke_39 : decode b_R_poke 39 = .ok (.iconst 0, 1) := by decide +kernel
theorem d_R_poke_40 : decode b_R_poke 40 = .ok (.ireturn, 1) := by decide +kernel
theorem d_R_poke_41 : decode b_R_poke 41 = .ok (.aload_n 0, 1) := by decide +kernel
theorem d_R_poke_42 : decode b_R_poke 42 = .ok (.getfield 29, 3) := by decide +kernel
theorem d_R_poke_45 : decode b_R_poke 45 = .ok (.iload_n 1, 1) := by decide +kernel
theorem d_R_poke_46 : decode b_R_poke 46 = .ok (.iload_n 2, 1) := by decide +kernel
theorem d_R_poke_47 : decode b_R_poke 47 = .ok (.bipush 24, 2) := by decide +kernel
theorem d_R_poke_49 : decode b_R_poke 49 = .ok (.ishl, 1) := by decide +kernel
theorem d_R_poke_50 : decode b_R_poke 50 = .ok (.bipush 24, 2) := by decide +kernel
theorem d_R_poke_52 : decode b_R_poke 52 = .ok (.ishr, 1) := by decide +kernel
theorem d_R_poke_53 : decode b_R_poke 53 = .ok (.iastore, 1) := by decide +kernel
theorem d_R_poke_54 : decode b_R_poke 54 = .ok (.iconst 1, 1) := by decide +kernel
theorem d_R_poke_55 : decode b_R_poke 55 = .ok (.ireturn, 1) := by decide +kernel
theorem d_R_limit_0 : decode b_R_limit 0 = .ok (.aload_n 0, 1) := by decide +kernel
theorem d_R_limit_1 : decode b_R_limit 1 = .ok (.iload_n 1, 1) := by decide +kernel
theorem d_R_limit_2 : decode b_R_limit 2 = .ok (.ifCond .lt 10, 3) := by decide +kernel
theorem d_R_limit_5 : decode b_R_limit 5 = .ok (.iload_n 1, 1) := by decide +kernel
theorem d_R_limit_6 : decode b_R_limit 6 = .ok (.sipush 128, 3) := by decide +kernel
theorem d_R_limit_9 : decode b_R_limit 9 = .ok (.if_icmp .le 7, 3) := by decide +kernel
theorem d_R_limit_12 : decode b_R_limit 12 = .ok (.iconst 1, 1) := by decide +kernel
theorem d_R_limit_13 : decode b_R_limit 13 = .ok (.goto 22, 3) := by decide +kernel
theorem d_R_limit_16 : decode b_R_limit 16 = .ok (.aload_n 0, 1) := by decide +kernel
theorem d_R_limit_17 : decode b_R_limit 17 = .ok (.getfield 9, 3) := by decide +kernel
theorem d_R_limit_20 : decode b_R_limit 20 = .ok (.ifCond .eq 10, 3) := by decide +kernel
theorem d_R_limit_23 : decode b_R_limit 23 = .ok (.aload_n 0, 1) := by decide +kernel
theorem d_R_limit_24 : decode b_R_limit 24 = .ok (.getfield 146, 3) := by decide +kernel
theorem d_R_limit_27 : decode b_R_limit 27 = .ok (.ifCond .le 7, 3) := by decide +kernel
theorem d_R_limit_30 : decode b_R_limit 30 = .ok (.iconst 2, 1) := by decide +kernel
theorem d_R_limit_31 : decode b_R_limit 31 = .ok (.goto 4, 3) := by decide +kernel
theorem d_R_limit_34 : decode b_R_limit 34 = .ok (.iconst 0, 1) := by decide +kernel
theorem d_R_limit_35 : decode b_R_limit 35 = .ok (.putfield 81, 3) := by decide +kernel
theorem d_R_limit_38 : decode b_R_limit 38 = .ok (.aload_n 0, 1) := by decide +kernel
theorem d_R_limit_39 : decode b_R_limit 39 = .ok (.getfield 81, 3) := by decide +kernel
theorem d_R_limit_42 : decode b_R_limit 42 = .ok (.ifCond .le 5, 3) := by decide +kernel
theorem d_R_limit_45 : decode b_R_limit 45 = .ok (.iconst 0, 1) := by decide +kernel
theorem d_R_limit_46 : decode b_R_limit 46 = .ok (.ireturn, 1) := by decide +kernel
theorem d_R_limit_47 : decode b_R_limit 47 = .ok (.aload_n 0, 1) := by decide +kernel
theorem d_R_limit_48 : decode b_R_limit 48 = .ok (.iload_n 1, 1) := by decide +kernel
theorem d_R_limit_49 : decode b_R_limit 49 = .ok (.putfield 19, 3) := by decide +kernel
theorem d_R_limit_52 : decode b_R_limit 52 = .ok (.iconst 1, 1) := by decide +kernel
theorem d_R_limit_53 : decode b_R_limit 53 = .ok (.ireturn, 1) := by decide +kernel
theorem d_R_scalar_0 : decode b_R_scalar 0 = .ok (.aload_n 0, 1) := by decide +kernel
theorem d_R_scalar_1 : decode b_R_scalar 1 = .ok (.iconst 0, 1) := by decide +kernel
theorem d_R_scalar_2 : decode b_R_scalar 2 = .ok (.putfield 81, 3) := by decide +kernel
theorem d_R_scalar_5 : decode b_R_scalar 5 = .ok (.iload_n 1, 1) := by decide +kernel
theorem d_R_scalar_6 : decode b_R_scalar 6 = .ok (.invokestatic 207, 3) := by decide +kernel
theorem d_R_scalar_9 : decode b_R_scalar 9 = .ok (.ifCond .eq 12, 3) := by decide +kernel
theorem d_R_scalar_12 : decode b_R_scalar 12 = .ok (.aload_n 0, 1) := by decide +kernel
theorem d_R_scalar_13 : decode b_R_scalar 13 = .ok (.getfield 22, 3) := by decide +kernel
theorem d_R_scalar_16 : decode b_R_scalar 16 = .ok (.iload_n 1, 1) := by decide +kernel
theorem d_R_scalar_17 : decode b_R_scalar 17 = .ok (.iaload, 1) := by decide +kernel
theorem d_R_scalar_18 : decode b_R_scalar 18 = .ok (.goto 4, 3) := by decide +kernel
theorem d_R_scalar_21 : decode b_R_scalar 21 = .ok (.iconst 0, 1) := by decide +kernel
theorem d_R_scalar_22 : decode b_R_scalar 22 = .ok (.ireturn, 1) := by decide +kernel
theorem d_R_file_0 : decode b_R_file 0 = .ok (.aload_n 0, 1) := by decide +kernel
theorem d_R_file_1 : decode b_R_file 1 = .ok (.iconst 0, 1) := by decide +kernel
theorem d_R_file_2 : decode b_R_file 2 = .ok (.putfield 81, 3) := by decide +kernel
theorem d_R_file_5 : decode b_R_file 5 = .ok (.iload_n 1, 1) := by decide +kernel
theorem d_R_file_6 : decode b_R_file 6 = .ok (.ifCond .lt 18, 3) := by decide +kernel
theorem d_R_file_9 : decode b_R_file 9 = .ok (.iload_n 1, 1) := by decide +kernel
theorem d_R_file_10 : decode b_R_file 10 = .ok (.bipush 63, 2) := by decide +kernel
theorem d_R_file_12 : decode b_R_file 12 = .ok (.if_icmp .gt 12, 3) := by decide +kernel
theorem d_R_file_15 : decode b_R_file 15 = .ok (.aload_n 0, 1) := by decide +kernel
theorem d_R_file_16 : decode b_R_file 16 = .ok (.getfield 26, 3) := by decide +kernel
theorem d_R_file_19 : decode b_R_file 19 = .ok (.iload_n 1, 1) := by decide +kernel
theorem d_R_file_20 : decode b_R_file 20 = .ok (.iaload, 1) := by decide +kernel
theorem d_R_file_21 : decode b_R_file 21 = .ok (.goto 4, 3) := by decide +kernel
theorem d_R_file_24 : decode b_R_file 24 = .ok (.iconst 0, 1) := by decide +kernel
theorem d_R_file_25 : decode b_R_file 25 = .ok (.ireturn, 1) := by decide +kernel
theorem d_R_memory_0 : decode b_R_memory 0 = .ok (.aload_n 0, 1) := by decide +kernel
theorem d_R_memory_1 : decode b_R_memory 1 = .ok (.iconst 0, 1) := by decide +kernel
theorem d_R_memory_2 : decode b_R_memory 2 = .ok (.putfield 81, 3) := by decide +kernel
theorem d_R_memory_5 : decode b_R_memory 5 = .ok (.iload_n 1, 1) := by decide +kernel
theorem d_R_memory_6 : decode b_R_memory 6 = .ok (.ifCond .lt 18, 3) := by decide +kernel
theorem d_R_memory_9 : decode b_R_memory 9 = .ok (.iload_n 1, 1) := by decide +kernel
theorem d_R_memory_10 : decode b_R_memory 10 = .ok (.bipush 127, 2) := by decide +kernel
theorem d_R_memory_12 : decode b_R_memory 12 = .ok (.if_icmp .gt 12, 3) := by decide +kernel
theorem d_R_memory_15 : decode b_R_memory 15 = .ok (.aload_n 0, 1) := by decide +kernel
theorem d_R_memory_16 : decode b_R_memory 16 = .ok (.getfield 29, 3) := by decide +kernel
theorem d_R_memory_19 : decode b_R_memory 19 = .ok (.iload_n 1, 1) := by decide +kernel
theorem d_R_memory_20 : decode b_R_memory 20 = .ok (.iaload, 1) := by decide +kernel
theorem d_R_memory_21 : decode b_R_memory 21 = .ok (.goto 4, 3) := by decide +kernel
theorem d_R_memory_24 : decode b_R_memory 24 = .ok (.iconst 0, 1) := by decide +kernel
theorem d_R_memory_25 : decode b_R_memory 25 = .ok (.ireturn, 1) := by decide +kernel
theorem d_R_about_0 : decode b_R_about 0 = .ok (.aload_n 0, 1) := by decide +kernel
theorem d_R_about_1 : decode b_R_about 1 = .ok (.iconst 0, 1) := by decide +kernel
theorem d_R_about_2 : decode b_R_about 2 = .ok (.putfield 81, 3) := by decide +kernel
theorem d_R_about_5 : decode b_R_about 5 = .ok (.iload_n 1, 1) := by decide +kernel
theorem d_R_about_6 : decode b_R_about 6 = .ok (.tableswitch 113 0 10 #[58, 63, 68, 73, 78, 83, 88, 93, 98, 103, 108], 58) := by decide +kernel
theorem d_R_about_64 : decode b_R_about 64 = .ok (.aload_n 0, 1) := by decide +kernel
theorem d_R_about_65 : decode b_R_about 65 = .ok (.getfield 9, 3) := by decide +kernel
theorem d_R_about_68 : decode b_R_about 68 = .ok (.ireturn, 1) := by decide +kernel
theorem d_R_about_69 : decode b_R_about 69 = .ok (.aload_n 0, 1) := by decide +kernel
theorem d_R_about_70 : decode b_R_about 70 = .ok (.getfield 170, 3) := by decide +kernel
theorem d_R_about_73 : decode b_R_about 73 = .ok (.ireturn, 1) := by decide +kernel
theorem d_R_about_74 : decode b_R_about 74 = .ok (.aload_n 0, 1) := by decide +kernel
theorem d_R_about_75 : decode b_R_about 75 = .ok (.getfield 13, 3) := by decide +kernel
theorem d_R_about_78 : decode b_R_about 78 = .ok (.ireturn, 1) := by decide +kernel
theorem d_R_about_79 : decode b_R_about 79 = .ok (.aload_n 0, 1) := by decide +kernel
theorem d_R_about_80 : decode b_R_about 80 = .ok (.getfield 16, 3) := by decide +kernel
theorem d_R_about_83 : decode b_R_about 83 = .ok (.ireturn, 1) := by decide +kernel
theorem d_R_about_84 : decode b_R_about 84 = .ok (.aload_n 0, 1) := by decide +kernel
theorem d_R_about_85 : decode b_R_about 85 = .ok (.getfield 161, 3) := by decide +kernel
theorem d_R_about_88 : decode b_R_about 88 = .ok (.ireturn, 1) := by decide +kernel
theorem d_R_about_89 : decode b_R_about 89 = .ok (.aload_n 0, 1) := by decide +kernel
theorem d_R_about_90 : decode b_R_about 90 = .ok (.getfield 167, 3) := by decide +kernel
theorem d_R_about_93 : decode b_R_about 93 = .ok (.ireturn, 1) := by decide +kernel
theorem d_R_about_94 : decode b_R_about 94 = .ok (.aload_n 0, 1) := by decide +kernel
theorem d_R_about_95 : decode b_R_about 95 = .ok (.getfield 19, 3) := by decide +kernel
theorem d_R_about_98 : decode b_R_about 98 = .ok (.ireturn, 1) := by decide +kernel
theorem d_R_about_99 : decode b_R_about 99 = .ok (.aload_n 0, 1) := by decide +kernel
theorem d_R_about_100 : decode b_R_about 100 = .ok (.getfield 195, 3) := by decide +kernel
theorem d_R_about_103 : decode b_R_about 103 = .ok (.ireturn, 1) := by decide +kernel
theorem d_R_about_104 : decode b_R_about 104 = .ok (.aload_n 0, 1) := by decide +kernel
theorem d_R_about_105 : decode b_R_about 105 = .ok (.getfield 146, 3) := by decide +kernel
theorem d_R_about_108 : decode b_R_about 108 = .ok (.ireturn, 1) := by decide +kernel
theorem d_R_about_109 : decode b_R_about 109 = .ok (.aload_n 0, 1) := by decide +kernel
theorem d_R_about_110 : decode b_R_about 110 = .ok (.getfield 179, 3) := by decide +kernel
theorem d_R_about_113 : decode b_R_about 113 = .ok (.ireturn, 1) := by decide +kernel
theorem d_R_about_114 : decode b_R_about 114 = .ok (.aload_n 0, 1) := by decide +kernel
theorem d_R_about_115 : decode b_R_about 115 = .ok (.getfield 129, 3) := by decide +kernel
theorem d_R_about_118 : decode b_R_about 118 = .ok (.ireturn, 1) := by decide +kernel
theorem d_R_about_119 : decode b_R_about 119 = .ok (.iconst (-1), 1) := by decide +kernel
theorem d_R_about_120 : decode b_R_about 120 = .ok (.ireturn, 1) := by decide +kernel
theorem d_R_queue_0 : decode b_R_queue 0 = .ok (.aload_n 0, 1) := by decide +kernel
theorem d_R_queue_1 : decode b_R_queue 1 = .ok (.iconst 0, 1) := by decide +kernel
theorem d_R_queue_2 : decode b_R_queue 2 = .ok (.putfield 81, 3) := by decide +kernel
theorem d_R_queue_5 : decode b_R_queue 5 = .ok (.iload_n 1, 1) := by decide +kernel
theorem d_R_queue_6 : decode b_R_queue 6 = .ok (.ifCond .lt 11, 3) := by decide +kernel
theorem d_R_queue_9 : decode b_R_queue 9 = .ok (.iload_n 1, 1) := by decide +kernel
theorem d_R_queue_10 : decode b_R_queue 10 = .ok (.aload_n 0, 1) := by decide +kernel
theorem d_R_queue_11 : decode b_R_queue 11 = .ok (.getfield 146, 3) := by decide +kernel
theorem d_R_queue_14 : decode b_R_queue 14 = .ok (.if_icmp .lt 5, 3) := by decide +kernel
theorem d_R_queue_17 : decode b_R_queue 17 = .ok (.iconst (-1), 1) := by decide +kernel
theorem d_R_queue_18 : decode b_R_queue 18 = .ok (.ireturn, 1) := by decide +kernel
theorem d_R_queue_19 : decode b_R_queue 19 = .ok (.iload_n 2, 1) := by decide +kernel
theorem d_R_queue_20 : decode b_R_queue 20 = .ok (.ifCond .ne 12, 3) := by decide +kernel
theorem d_R_queue_23 : decode b_R_queue 23 = .ok (.aload_n 0, 1) := by decide +kernel
theorem d_R_queue_24 : decode b_R_queue 24 = .ok (.getfield 51, 3) := by decide +kernel
theorem d_R_queue_27 : decode b_R_queue 27 = .ok (.iload_n 1, 1) := by decide +kernel
theorem d_R_queue_28 : decode b_R_queue 28 = .ok (.iaload, 1) := by decide +kernel
theorem d_R_queue_29 : decode b_R_queue 29 = .ok (.goto 32, 3) := by decide +kernel
theorem d_R_queue_32 : decode b_R_queue 32 = .ok (.iload_n 2, 1) := by decide +kernel
theorem d_R_queue_33 : decode b_R_queue 33 = .ok (.iconst 1, 1) := by decide +kernel
theorem d_R_queue_34 : decode b_R_queue 34 = .ok (.if_icmp .ne 12, 3) := by decide +kernel
theorem d_R_queue_37 : decode b_R_queue 37 = .ok (.aload_n 0, 1) := by decide +kernel
theorem d_R_queue_38 : decode b_R_queue 38 = .ok (.getfield 63, 3) := by decide +kernel
theorem d_R_queue_41 : decode b_R_queue 41 = .ok (.iload_n 1, 1) := by decide +kernel
theorem d_R_queue_42 : decode b_R_queue 42 = .ok (.iaload, 1) := by decide +kernel
theorem d_R_queue_43 : decode b_R_queue 43 = .ok (.goto 18, 3) := by decide +kernel
theorem d_R_queue_46 : decode b_R_queue 46 = .ok (.iload_n 2, 1) := by decide +kernel
theorem d_R_queue_47 : decode b_R_queue 47 = .ok (.iconst 2, 1) := by decide +kernel
theorem d_R_queue_48 : decode b_R_queue 48 = .ok (.if_icmp .ne 12, 3) := by decide +kernel
theorem d_R_queue_51 : decode b_R_queue 51 = .ok (.aload_n 0, 1) := by decide +kernel
theorem d_R_queue_52 : decode b_R_queue 52 = .ok (.getfield 66, 3) := by decide +kernel
theorem d_R_queue_55 : decode b_R_queue 55 = .ok (.iload_n 1, 1) := by decide +kernel
theorem d_R_queue_56 : decode b_R_queue 56 = .ok (.iaload, 1) := by decide +kernel
theorem d_R_queue_57 : decode b_R_queue 57 = .ok (.goto 4, 3) := by decide +kernel
theorem d_R_queue_60 : decode b_R_queue 60 = .ok (.iconst (-1), 1) := by decide +kernel
theorem d_R_queue_61 : decode b_R_queue 61 = .ok (.ireturn, 1) := by decide +kernel
