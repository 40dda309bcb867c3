theorem d_L_cell_0 : decode b_L_cell 0 = .ok (.iload_n 1, 1) := by decide +kernel
theorem d_L_cell_1 : decode b_L_cell 1 = .ok (.aload_n 0, 1) := by decide +kernel
theorem d_L_cell_2 : decode b_L_cell 2 = .ok (.arraylength, 1) := by decide +kernel
theorem d_L_cell_3 : decode b_L_cell 3 = .ok (.if_icmp .ge 9, 3) := by decide +kernel
theorem d_L_cell_6 : decode b_L_cell 6 = .ok (.aload_n 0, 1) := by decide +kernel
theorem d_L_cell_7 : decode b_L_cell 7 = .ok (.iload_n 1, 1) := by decide +kernel
theorem d_L_cell_8 : decode b_L_cell 8 = .ok (.iaload, 1) := by decide +kernel
theorem d_L_cell_9 : decode b_L_cell 9 = .ok (.goto 4, 3) := by decide +kernel
theorem d_L_cell_12 : decode b_L_cell 12 = .ok (.iconst 0, 1) := by decide +kernel
theorem d_L_cell_13 : decode b_L_cell 13 = .ok (.ireturn, 1) := by decide +kernel
theorem d_L_put_0 : decode b_L_put 0 = .ok (.aload 7, 2) := by decide +kernel
theorem d_L_put_2 : decode b_L_put 2 = .ok (.iconst 0, 1) := by decide +kernel
theorem d_L_put_3 : decode b_L_put 3 = .ok (.aload_n 0, 1) := by decide +kernel
theorem d_L_put_4 : decode b_L_put 4 = .ok (.iload_n 1, 1) := by decide +kernel
theorem d_L_put_5 : decode b_L_put 5 = .ok (.iload_n 2, 1) := by decide +kernel
theorem d_L_put_6 : decode b_L_put 6 = .ok (.iload_n 3, 1) := by decide +kernel
theorem d_L_put_7 : decode b_L_put 7 = .ok (.iload 4, 2) := by decide +kernel
theorem d_L_put_9 : decode b_L_put 9 = .ok (.iload 5, 2) := by decide +kernel
theorem d_L_put_11 : decode b_L_put 11 = .ok (.iload 6, 2) := by decide +kernel
theorem d_L_put_13 : decode b_L_put 13 = .ok (.invokevirtual 7, 3) := by decide +kernel
theorem d_L_put_16 : decode b_L_put 16 = .ok (.i2l, 1) := by decide +kernel
theorem d_L_put_17 : decode b_L_put 17 = .ok (.lastore, 1) := by decide +kernel
theorem d_L_put_18 : decode b_L_put 18 = .ok (.goto 11, 3) := by decide +kernel
theorem d_L_put_21 : decode b_L_put 21 = .ok (.astore 8, 2) := by decide +kernel
theorem d_L_put_23 : decode b_L_put 23 = .ok (.iconst 1, 1) := by decide +kernel
theorem d_L_put_24 : decode b_L_put 24 = .ok (.ireturn, 1) := by decide +kernel
theorem d_L_put_25 : decode b_L_put 25 = .ok (.astore 8, 2) := by decide +kernel
theorem d_L_put_27 : decode b_L_put 27 = .ok (.iconst 2, 1) := by decide +kernel
theorem d_L_put_28 : decode b_L_put 28 = .ok (.ireturn, 1) := by decide +kernel
theorem d_L_put_29 : decode b_L_put 29 = .ok (.iconst 0, 1) := by decide +kernel
theorem d_L_put_30 : decode b_L_put 30 = .ok (.ireturn, 1) := by decide +kernel
theorem d_L_go_0 : decode b_L_go 0 = .ok (.aload_n 2, 1) := by decide +kernel
theorem d_L_go_1 : decode b_L_go 1 = .ok (.iconst 0, 1) := by decide +kernel
theorem d_L_go_2 : decode b_L_go 2 = .ok (.aload_n 0, 1) := by decide +kernel
theorem d_L_go_3 : decode b_L_go 3 = .ok (.iload_n 1, 1) := by decide +kernel
theorem d_L_go_4 : decode b_L_go 4 = .ok (.invokevirtual 17, 3) := by decide +kernel
theorem d_L_go_7 : decode b_L_go 7 = .ok (.i2l, 1) := by decide +kernel
theorem d_L_go_8 : decode b_L_go 8 = .ok (.lastore, 1) := by decide +kernel
theorem d_L_go_9 : decode b_L_go 9 = .ok (.goto 9, 3) := by decide +kernel
theorem d_L_go_12 : decode b_L_go 12 = .ok (.astore_n 3, 1) := by decide +kernel
theorem d_L_go_13 : decode b_L_go 13 = .ok (.iconst 1, 1) := by decide +kernel
theorem d_L_go_14 : decode b_L_go 14 = .ok (.ireturn, 1) := by decide +kernel
theorem d_L_go_15 : decode b_L_go 15 = .ok (.astore_n 3, 1) := by decide +kernel
theorem d_L_go_16 : decode b_L_go 16 = .ok (.iconst 2, 1) := by decide +kernel
theorem d_L_go_17 : decode b_L_go 17 = .ok (.ireturn, 1) := by decide +kernel
theorem d_L_go_18 : decode b_L_go 18 = .ok (.iconst 0, 1) := by decide +kernel
theorem d_L_go_19 : decode b_L_go 19 = .ok (.ireturn, 1) := by decide +kernel
theorem d_L_resume_0 : decode b_L_resume 0 = .ok (.aload_n 1, 1) := by decide +kernel
theorem d_L_resume_1 : decode b_L_resume 1 = .ok (.iconst 0, 1) := by decide +kernel
theorem d_L_resume_2 : decode b_L_resume 2 = .ok (.aload_n 0, 1) := by decide +kernel
theorem d_L_resume_3 : decode b_L_resume 3 = .ok (.invokevirtual 21, 3) := by decide +kernel
theorem d_L_resume_6 : decode b_L_resume 6 = .ok (.i2l, 1) := by decide +kernel
theorem d_L_resume_7 : decode b_L_resume 7 = .ok (.lastore, 1) := by decide +kernel
theorem d_L_resume_8 : decode b_L_resume 8 = .ok (.goto 6, 3) := by decide +kernel
theorem d_L_resume_11 : decode b_L_resume 11 = .ok (.astore_n 2, 1) := by decide +kernel
theorem d_L_resume_12 : decode b_L_resume 12 = .ok (.iconst 1, 1) := by decide +kernel
theorem d_L_resume_13 : decode b_L_resume 13 = .ok (.ireturn, 1) := by decide +kernel
theorem d_L_resume_14 : decode b_L_resume 14 = .ok (.iconst 0, 1) := by decide +kernel
theorem d_L_resume_15 : decode b_L_resume 15 = .ok (.ireturn, 1) := by decide +kernel
theorem d_L_cycles_0 : decode b_L_cycles 0 = .ok (.aload_n 2, 1) := by decide +kernel
theorem d_L_cycles_1 : decode b_L_cycles 1 = .ok (.iconst 0, 1) := by decide +kernel
theorem d_L_cycles_2 : decode b_L_cycles 2 = .ok (.aload_n 0, 1) := by decide +kernel
theorem d_L_cycles_3 : decode b_L_cycles 3 = .ok (.iload_n 1, 1) := by decide +kernel
theorem d_L_cycles_4 : decode b_L_cycles 4 = .ok (.invokevirtual 25, 3) := by decide +kernel
theorem d_L_cycles_7 : decode b_L_cycles 7 = .ok (.i2l, 1) := by decide +kernel
theorem d_L_cycles_8 : decode b_L_cycles 8 = .ok (.lastore, 1) := by decide +kernel
theorem d_L_cycles_9 : decode b_L_cycles 9 = .ok (.goto 6, 3) := by decide +kernel
theorem d_L_cycles_12 : decode b_L_cycles 12 = .ok (.astore_n 3, 1) := by decide +kernel
theorem d_L_cycles_13 : decode b_L_cycles 13 = .ok (.iconst 1, 1) := by decide +kernel
theorem d_L_cycles_14 : decode b_L_cycles 14 = .ok (.ireturn, 1) := by decide +kernel
theorem d_L_cycles_15 : decode b_L_cycles 15 = .ok (.iconst 0, 1) := by decide +kernel
theorem d_L_cycles_16 : decode b_L_cycles 16 = .ok (.ireturn, 1) := by decide +kernel
theorem d_L_poke_0 : decode b_L_poke 0 = .ok (.aload_n 3, 1) := by decide +kernel
theorem d_L_poke_1 : decode b_L_poke 1 = .ok (.iconst 0, 1) := by decide +kernel
theorem d_L_poke_2 : decode b_L_poke 2 = .ok (.aload_n 0, 1) := by decide +kernel
theorem d_L_poke_3 : decode b_L_poke 3 = .ok (.iload_n 1, 1) := by decide +kernel
theorem d_L_poke_4 : decode b_L_poke 4 = .ok (.iload_n 2, 1) := by decide +kernel
theorem d_L_poke_5 : decode b_L_poke 5 = .ok (.invokevirtual 28, 3) := by decide +kernel
theorem d_L_poke_8 : decode b_L_poke 8 = .ok (.ifCond .eq 7, 3) := by decide +kernel
theorem d_L_poke_11 : decode b_L_poke 11 = .ok (.lconst 1, 1) := by decide +kernel
theorem d_L_poke_12 : decode b_L_poke 12 = .ok (.goto 4, 3) := by decide +kernel
theorem d_L_poke_15 : decode b_L_poke 15 = .ok (.lconst 0, 1) := by decide +kernel
theorem d_L_poke_16 : decode b_L_poke 16 = .ok (.lastore, 1) := by decide +kernel
theorem d_L_poke_17 : decode b_L_poke 17 = .ok (.goto 7, 3) := by decide +kernel
theorem d_L_poke_20 : decode b_L_poke 20 = .ok (.astore 4, 2) := by decide +kernel
theorem d_L_poke_22 : decode b_L_poke 22 = .ok (.iconst 1, 1) := by decide +kernel
theorem d_L_poke_23 : decode b_L_poke 23 = .ok (.ireturn, 1) := by decide +kernel
theorem d_L_poke_24 : decode b_L_poke 24 = .ok (.iconst 0, 1) := by decide +kernel
theorem d_L_poke_25 : decode b_L_poke 25 = .ok (.ireturn, 1) := by decide +kernel
theorem d_L_limit_0 : decode b_L_limit 0 = .ok (.aload_n 2, 1) := by decide +kernel
theorem d_L_limit_1 : decode b_L_limit 1 = .ok (.iconst 0, 1) := by decide +kernel
theorem d_L_limit_2 : decode b_L_limit 2 = .ok (.aload_n 0, 1) := by decide +kernel
theorem d_L_limit_3 : decode b_L_limit 3 = .ok (.iload_n 1, 1) := by decide +kernel
theorem d_L_limit_4 : decode b_L_limit 4 = .ok (.invokevirtual 32, 3) := by decide +kernel
theorem d_L_limit_7 : decode b_L_limit 7 = .ok (.ifCond .eq 7, 3) := by decide +kernel
theorem d_L_limit_10 : decode b_L_limit 10 = .ok (.lconst 1, 1) := by decide +kernel
theorem d_L_limit_11 : decode b_L_limit 11 = .ok (.goto 4, 3) := by decide +kernel
theorem d_L_limit_14 : decode b_L_limit 14 = .ok (.lconst 0, 1) := by decide +kernel
theorem d_L_limit_15 : decode b_L_limit 15 = .ok (.lastore, 1) := by decide +kernel
theorem d_L_limit_16 : decode b_L_limit 16 = .ok (.goto 9, 3) := by decide +kernel
theorem d_L_limit_19 : decode b_L_limit 19 = .ok (.astore_n 3, 1) := by decide +kernel
theorem d_L_limit_20 : decode b_L_limit 20 = .ok (.iconst 1, 1) := by decide +kernel
theorem d_L_limit_21 : decode b_L_limit 21 = .ok (.ireturn, 1) := by decide +kernel
theorem d_L_limit_22 : decode b_L_limit 22 = .ok (.astore_n 3, 1) := by decide +kernel
theorem d_L_limit_23 : decode b_L_limit 23 = .ok (.iconst 2, 1) := by decide +kernel
theorem d_L_limit_24 : decode b_L_limit 24 = .ok (.ireturn, 1) := by decide +kernel
theorem d_L_limit_25 : decode b_L_limit 25 = .ok (.iconst 0, 1) := by decide +kernel
theorem d_L_limit_26 : decode b_L_limit 26 = .ok (.ireturn, 1) := by decide +kernel
theorem d_L_law_0 : decode b_L_law 0 = .ok (.new 8, 3) := by decide +kernel
theorem d_L_law_3 : decode b_L_law 3 = .ok (.dup, 1) := by decide +kernel
theorem d_L_law_4 : decode b_L_law 4 = .ok (.aload_n 0, 1) := by decide +kernel
theorem d_L_law_5 : decode b_L_law 5 = .ok (.iconst 0, 1) := by decide +kernel
theorem d_L_law_6 : decode b_L_law 6 = .ok (.invokestatic 36, 3) := by decide +kernel
theorem d_L_law_9 : decode b_L_law 9 = .ok (.invokespecial 42, 3) := by decide +kernel
theorem d_L_law_12 : decode b_L_law 12 = .ok (.astore_n 1, 1) := by decide +kernel
theorem d_L_law_13 : decode b_L_law 13 = .ok (.new 45, 3) := by decide +kernel
theorem d_L_law_16 : decode b_L_law 16 = .ok (.dup, 1) := by decide +kernel
theorem d_L_law_17 : decode b_L_law 17 = .ok (.aload_n 0, 1) := by decide +kernel
theorem d_L_law_18 : decode b_L_law 18 = .ok (.iconst 0, 1) := by decide +kernel
theorem d_L_law_19 : decode b_L_law 19 = .ok (.invokestatic 36, 3) := by decide +kernel
theorem d_L_law_22 : decode b_L_law 22 = .ok (.invokespecial 47, 3) := by decide +kernel
theorem d_L_law_25 : decode b_L_law 25 = .ok (.astore_n 2, 1) := by decide +kernel
theorem d_L_law_26 : decode b_L_law 26 = .ok (.iconst 1, 1) := by decide +kernel
theorem d_L_law_27 : decode b_L_law 27 = .ok (.newarray .long, 2) := by decide +kernel
theorem d_L_law_29 : decode b_L_law 29 = .ok (.astore_n 3, 1) := by decide +kernel
theorem d_L_law_30 : decode b_L_law 30 = .ok (.iconst 1, 1) := by decide +kernel
theorem d_L_law_31 : decode b_L_law 31 = .ok (.istore 4, 2) := by decide +kernel
theorem d_L_law_33 : decode b_L_law 33 = .ok (.iload 4, 2) := by decide +kernel
theorem d_L_law_35 : decode b_L_law 35 = .ok (.aload_n 0, 1) := by decide +kernel
theorem d_L_law_36 : decode b_L_law 36 = .ok (.arraylength, 1) := by decide +kernel
theorem d_L_law_37 : decode b_L_law 37 = .ok (.bipush 7, 2) := by decide +kernel
theorem d_L_law_39 : decode b_L_law 39 = .ok (.isub, 1) := by decide +kernel
theorem d_L_law_40 : decode b_L_law 40 = .ok (.if_icmp .gt 639, 3) := by decide +kernel
theorem d_L_law_43 : decode b_L_law 43 = .ok (.aload_n 0, 1) := by decide +kernel
theorem d_L_law_44 : decode b_L_law 44 = .ok (.iload 4, 2) := by decide +kernel
theorem d_L_law_46 : decode b_L_law 46 = .ok (.iaload, 1) := by decide +kernel
theorem d_L_law_47 : decode b_L_law 47 = .ok (.bipush 15, 2) := by decide +kernel
theorem d_L_law_49 : decode b_L_law 49 = .ok (.iand, 1) := by decide +kernel
theorem d_L_law_50 : decode b_L_law 50 = .ok (.tableswitch 623 0 10 #[58, 192, 248, 292, 348, 423, 486, 511, 536, 561, 586], 58) := by decide +kernel
theorem d_L_law_108 : decode b_L_law 108 = .ok (.aload_n 1, 1) := by decide +kernel
theorem d_L_law_109 : decode b_L_law 109 = .ok (.aload_n 0, 1) := by decide +kernel
theorem d_L_law_110 : decode b_L_law 110 = .ok (.iload 4, 2) := by decide +kernel
theorem d_L_law_112 : decode b_L_law 112 = .ok (.iconst 1, 1) := by decide +kernel
theorem d_L_law_113 : decode b_L_law 113 = .ok (.iadd, 1) := by decide +kernel
theorem d_L_law_114 : decode b_L_law 114 = .ok (.iaload, 1) := by decide +kernel
theorem d_L_law_115 : decode b_L_law 115 = .ok (.aload_n 0, 1) := by decide +kernel
theorem d_L_law_116 : decode b_L_law 116 = .ok (.iload 4, 2) := by decide +kernel
theorem d_L_law_118 : decode b_L_law 118 = .ok (.iconst 2, 1) := by decide +kernel
theorem d_L_law_119 : decode b_L_law 119 = .ok (.iadd, 1) := by decide +kernel
theorem d_L_law_120 : decode b_L_law 120 = .ok (.iaload, 1) := by decide +kernel
theorem d_L_law_121 : decode b_L_law 121 = .ok (.aload_n 0, 1) := by decide +kernel
theorem d_L_law_122 : decode b_L_law 122 = .ok (.iload 4, 2) := by decide +kernel
theorem d_L_law_124 : decode b_L_law 124 = .ok (.iconst 3, 1) := by decide +kernel
theorem d_L_law_125 : decode b_L_law 125 = .ok (.iadd, 1) := by decide +kernel
theorem d_L_law_126 : decode b_L_law 126 = .ok (.iaload, 1) := by decide +kernel
theorem d_L_law_127 : decode b_L_law 127 = .ok (.aload_n 0, 1) := by decide +kernel
theorem d_L_law_128 : decode b_L_law 128 = .ok (.iload 4, 2) := by decide +kernel
theorem d_L_law_130 : decode b_L_law 130 = .ok (.iconst 4, 1) := by decide +kernel
theorem d_L_law_131 : decode b_L_law 131 = .ok (.iadd, 1) := by decide +kernel
theorem d_L_law_132 : decode b_L_law 132 = .ok (.iaload, 1) := by decide +kernel
theorem d_L_law_133 : decode b_L_law 133 = .ok (.aload_n 0, 1) := by decide +kernel
theorem d_L_law_134 : decode b_L_law 134 = .ok (.iload 4, 2) := by decide +kernel
theorem d_L_law_136 : decode b_L_law 136 = .ok (.iconst 5, 1) := by decide +kernel
theorem d_L_law_137 : decode b_L_law 137 = .ok (.iadd, 1) := by decide +kernel
theorem d_L_law_138 : decode b_L_law 138 = .ok (.iaload, 1) := by decide +kernel
theorem d_L_law_139 : decode b_L_law 139 = .ok (.aload_n 0, 1) := by decide +kernel
theorem d_L_law_140 : decode b_L_law 140 = .ok (.iload 4, 2) := by decide +kernel
theorem d_L_law_142 : decode b_L_law 142 = .ok (.bipush 6, 2) := by decide +kernel
theorem d_L_law_144 : decode b_L_law 144 = .ok (.iadd, 1) := by decide +kernel
theorem d_L_law_145 : decode b_L_law 145 = .ok (.iaload, 1) := by decide +kernel
theorem d_L_law_146 : decode b_L_law 146 = .ok (.ifCond .eq 7, 3) := by decide +kernel
theorem d_L_law_149 : decode b_L_law 149 = .ok (.iconst 1, 1) := by decide +kernel
theorem d_L_law_150 : decode b_L_law 150 = .ok (.goto 4, 3) := by decide +kernel
theorem d_L_law_153 : decode b_L_law 153 = .ok (.iconst 0, 1) := by decide +kernel
theorem d_L_law_154 : decode b_L_law 154 = .ok (.aload_n 3, 1) := by decide +kernel
theorem d_L_law_155 : decode b_L_law 155 = .ok (.invokestatic 48, 3) := by decide +kernel
theorem d_L_law_158 : decode b_L_law 158 = .ok (.istore 5, 2) := by decide +kernel
theorem d_L_law_160 : decode b_L_law 160 = .ok (.aload_n 2, 1) := by decide +kernel
theorem d_L_law_161 : decode b_L_law 161 = .ok (.aload_n 0, 1) := by decide +kernel
theorem d_L_law_162 : decode b_L_law 162 = .ok (.iload 4, 2) := by decide +kernel
theorem d_L_law_164 : decode b_L_law 164 = .ok (.iconst 1, 1) := by decide +kernel
theorem d_L_law_165 : decode b_L_law 165 = .ok (.iadd, 1) := by decide +kernel
theorem d_L_law_166 : decode b_L_law 166 = .ok (.iaload, 1) := by decide +kernel
theorem d_L_law_167 : decode b_L_law 167 = .ok (.aload_n 0, 1) := by decide +kernel
theorem d_L_law_168 : decode b_L_law 168 = .ok (.iload 4, 2) := by decide +kernel
theorem d_L_law_170 : decode b_L_law 170 = .ok (.iconst 2, 1) := by decide +kernel
theorem d_L_law_171 : decode b_L_law 171 = .ok (.iadd, 1) := by decide +kernel
theorem d_L_law_172 : decode b_L_law 172 = .ok (.iaload, 1) := by decide +kernel
theorem d_L_law_173 : decode b_L_law 173 = .ok (.aload_n 0, 1) := by decide +kernel
theorem d_L_law_174 : decode b_L_law 174 = .ok (.iload 4, 2) := by decide +kernel
theorem d_L_law_176 : decode b_L_law 176 = .ok (.iconst 3, 1) := by decide +kernel
theorem d_L_law_177 : decode b_L_law 177 = .ok (.iadd, 1) := by decide +kernel
theorem d_L_law_178 : decode b_L_law 178 = .ok (.iaload, 1) := by decide +kernel
theorem d_L_law_179 : decode b_L_law 179 = .ok (.aload_n 0, 1) := by decide +kernel
theorem d_L_law_180 : decode b_L_law 180 = .ok (.iload 4, 2) := by decide +kernel
theorem d_L_law_182 : decode b_L_law 182 = .ok (.iconst 4, 1) := by decide +kernel
theorem d_L_law_183 : decode b_L_law 183 = .ok (.iadd, 1) := by decide +kernel
theorem d_L_law_184 : decode b_L_law 184 = .ok (.iaload, 1) := by decide +kernel
theorem d_L_law_185 : decode b_L_law 185 = .ok (.aload_n 0, 1) := by decide +kernel
theorem d_L_law_186 : decode b_L_law 186 = .ok (.iload 4, 2) := by decide +kernel
theorem d_L_law_188 : decode b_L_law 188 = .ok (.iconst 5, 1) := by decide +kernel
theorem d_L_law_189 : decode b_L_law 189 = .ok (.iadd, 1) := by decide +kernel
theorem d_L_law_190 : decode b_L_law 190 = .ok (.iaload, 1) := by decide +kernel
theorem d_L_law_191 : decode b_L_law 191 = .ok (.aload_n 0, 1) := by decide +kernel
theorem d_L_law_192 : decode b_L_law 192 = .ok (.iload 4, 2) := by decide +kernel
theorem d_L_law_194 : decode b_L_law 194 = .ok (.bipush 6, 2) := by decide +kernel
theorem d_L_law_196 : decode b_L_law 196 = .ok (.iadd, 1) := by decide +kernel
theorem d_L_law_197 : decode b_L_law 197 = .ok (.iaload, 1) := by decide +kernel
theorem d_L_law_198 : decode b_L_law 198 = .ok (.ifCond .eq 7, 3) := by decide +kernel
theorem d_L_law_201 : decode b_L_law 201 = .ok (.iconst 1, 1) := by decide +kernel
theorem d_L_law_202 : decode b_L_law 202 = .ok (.goto 4, 3) := by decide +kernel
theorem d_L_law_205 : decode b_L_law 205 = .ok (.iconst 0, 1) := by decide +kernel
theorem d_L_law_206 : decode b_L_law 206 = .ok (.invokevirtual 51, 3) := by decide +kernel
theorem d_L_law_209 : decode b_L_law 209 = .ok (.istore 6, 2) := by decide +kernel
theorem d_L_law_211 : decode b_L_law 211 = .ok (.aload_n 2, 1) := by decide +kernel
theorem d_L_law_212 : decode b_L_law 212 = .ok (.invokevirtual 52, 3) := by decide +kernel
theorem d_L_law_215 : decode b_L_law 215 = .ok (.iload 5, 2) := by decide +kernel
theorem d_L_law_217 : decode b_L_law 217 = .ok (.if_icmp .eq 5, 3) := by decide +kernel
theorem d_L_law_220 : decode b_L_law 220 = .ok (.iconst 0, 1) := by decide +kernel
theorem d_L_law_221 : decode b_L_law 221 = .ok (.ireturn, 1) := by decide +kernel
theorem d_L_law_222 : decode b_L_law 222 = .ok (.iload 5, 2) := by decide +kernel
theorem d_L_law_224 : decode b_L_law 224 = .ok (.ifCond .ne 15, 3) := by decide +kernel
theorem d_L_law_227 : decode b_L_law 227 = .ok (.aload_n 3, 1) := by decide +kernel
theorem d_L_law_228 : decode b_L_law 228 = .ok (.iconst 0, 1) := by decide +kernel
theorem d_L_law_229 : decode b_L_law 229 = .ok (.laload, 1) := by decide +kernel
theorem d_L_law_230 : decode b_L_law 230 = .ok (.iload 6, 2) := by decide +kernel
theorem d_L_law_232 : decode b_L_law 232 = .ok (.i2l, 1) := by decide +kernel
theorem d_L_law_233 : decode b_L_law 233 = .ok (.lcmp, 1) := by decide +kernel
theorem d_L_law_234 : decode b_L_law 234 = .ok (.ifCond .eq 5, 3) := by decide +kernel
theorem d_L_law_237 : decode b_L_law 237 = .ok (.iconst 0, 1) := by decide +kernel
theorem d_L_law_238 : decode b_L_law 238 = .ok (.ireturn, 1) := by decide +kernel
theorem d_L_law_239 : decode b_L_law 239 = .ok (.goto 434, 3) := by decide +kernel
theorem d_L_law_242 : decode b_L_law 242 = .ok (.aload_n 1, 1) := by decide +kernel
theorem d_L_law_243 : decode b_L_law 243 = .ok (.aload_n 0, 1) := by decide +kernel
theorem d_L_law_244 : decode b_L_law 244 = .ok (.iload 4, 2) := by decide +kernel
theorem d_L_law_246 : decode b_L_law 246 = .ok (.iconst 1, 1) := by decide +kernel
theorem d_L_law_247 : decode b_L_law 247 = .ok (.iadd, 1) := by decide +kernel
theorem d_L_law_248 : decode b_L_law 248 = .ok (.iaload, 1) := by decide +kernel
theorem d_L_law_249 : decode b_L_law 249 = .ok (.aload_n 3, 1) := by decide +kernel
theorem d_L_law_250 : decode b_L_law 250 = .ok (.invokestatic 55, 3) := by decide +kernel
theorem d_L_law_253 : decode b_L_law 253 = .ok (.istore 5, 2) := by decide +kernel
theorem d_L_law_255 : decode b_L_law 255 = .ok (.aload_n 2, 1) := by decide +kernel
theorem d_L_law_256 : decode b_L_law 256 = .ok (.aload_n 0, 1) := by decide +kernel
theorem d_L_law_257 : decode b_L_law 257 = .ok (.iload 4, 2) := by decide +kernel
theorem d_L_law_259 : decode b_L_law 259 = .ok (.iconst 1, 1) := by decide +kernel
theorem d_L_law_260 : decode b_L_law 260 = .ok (.iadd, 1) := by decide +kernel
theorem d_L_law_261 : decode b_L_law 261 = .ok (.iaload, 1) := by decide +kernel
theorem d_L_law_262 : decode b_L_law 262 = .ok (.invokevirtual 58, 3) := by decide +kernel
theorem d_L_law_265 : decode b_L_law 265 = .ok (.istore 6, 2) := by decide +kernel
theorem d_L_law_267 : decode b_L_law 267 = .ok (.aload_n 2, 1) := by decide +kernel
theorem d_L_law_268 : decode b_L_law 268 = .ok (.invokevirtual 52, 3) := by decide +kernel
theorem d_L_law_271 : decode b_L_law 271 = .ok (.iload 5, 2) := by decide +kernel
theorem d_L_law_273 : decode b_L_law 273 = .ok (.if_icmp .eq 5, 3) := by decide +kernel
theorem d_L_law_276 : decode b_L_law 276 = .ok (.iconst 0, 1) := by decide +kernel
theorem d_L_law_277 : decode b_L_law 277 = .ok (.ireturn, 1) := by decide +kernel
theorem d_L_law_278 : decode b_L_law 278 = .ok (.iload 5, 2) := by decide +kernel
theorem d_L_law_280 : decode b_L_law 280 = .ok (.ifCond .ne 15, 3) := by decide +kernel
theorem d_L_law_283 : decode b_L_law 283 = .ok (.aload_n 3, 1) := by decide +kernel
theorem d_L_law_284 : decode b_L_law 284 = .ok (.iconst 0, 1) := by decide +kernel
theorem d_L_law_285 : decode b_L_law 285 = .ok (.laload, 1) := by decide +kernel
theorem d_L_law_286 : decode b_L_law 286 = .ok (.iload 6, 2) := by decide +kernel
theorem d_L_law_288 : decode b_L_law 288 = .ok (.i2l, 1) := by decide +kernel
theorem d_L_law_289 : decode b_L_law 289 = .ok (.lcmp, 1) := by decide +kernel
theorem d_L_law_290 : decode b_L_law 290 = .ok (.ifCond .eq 5, 3) := by decide +kernel
theorem d_L_law_293 : decode b_L_law 293 = .ok (.iconst 0, 1) := by decide +kernel
theorem d_L_law_294 : decode b_L_law 294 = .ok (.ireturn, 1) := by decide +kernel
theorem d_L_law_295 : decode b_L_law 295 = .ok (.goto 378, 3) := by decide +kernel
theorem d_L_law_298 : decode b_L_law 298 = .ok (.aload_n 1, 1) := by decide +kernel
theorem d_L_law_299 : decode b_L_law 299 = .ok (.aload_n 3, 1) := by decide +kernel
theorem d_L_law_300 : decode b_L_law 300 = .ok (.invokestatic 59, 3) := by decide +kernel
theorem d_L_law_303 : decode b_L_law 303 = .ok (.istore 5, 2) := by decide +kernel
theorem d_L_law_305 : decode b_L_law 305 = .ok (.aload_n 2, 1) := by decide +kernel
theorem d_L_law_306 : decode b_L_law 306 = .ok (.invokevirtual 62, 3) := by decide +kernel
theorem d_L_law_309 : decode b_L_law 309 = .ok (.istore 6, 2) := by decide +kernel
theorem d_L_law_311 : decode b_L_law 311 = .ok (.aload_n 2, 1) := by decide +kernel
theorem d_L_law_312 : decode b_L_law 312 = .ok (.invokevirtual 52, 3) := by decide +kernel
theorem d_L_law_315 : decode b_L_law 315 = .ok (.iload 5, 2) := by decide +kernel
theorem d_L_law_317 : decode b_L_law 317 = .ok (.if_icmp .eq 5, 3) := by decide +kernel
theorem d_L_law_320 : decode b_L_law 320 = .ok (.iconst 0, 1) := by decide +kernel
theorem d_L_law_321 : decode b_L_law 321 = .ok (.ireturn, 1) := by decide +kernel
theorem d_L_law_322 : decode b_L_law 322 = .ok (.iload 5, 2) := by decide +kernel
theorem d_L_law_324 : decode b_L_law 324 = .ok (.ifCond .ne 15, 3) := by decide +kernel
theorem d_L_law_327 : decode b_L_law 327 = .ok (.aload_n 3, 1) := by decide +kernel
theorem d_L_law_328 : decode b_L_law 328 = .ok (.iconst 0, 1) := by decide +kernel
theorem d_L_law_329 : decode b_L_law 329 = .ok (.laload, 1) := by decide +kernel
theorem d_L_law_330 : decode b_L_law 330 = .ok (.iload 6, 2) := by decide +kernel
theorem d_L_law_332 : decode b_L_law 332 = .ok (.i2l, 1) := by decide +kernel
theorem d_L_law_333 : decode b_L_law 333 = .ok (.lcmp, 1) := by decide +kernel
theorem d_L_law_334 : decode b_L_law 334 = .ok (.ifCond .eq 5, 3) := by decide +kernel
theorem d_L_law_337 : decode b_L_law 337 = .ok (.iconst 0, 1) := by decide +kernel
theorem d_L_law_338 : decode b_L_law 338 = .ok (.ireturn, 1) := by decide +kernel
theorem d_L_law_339 : decode b_L_law 339 = .ok (.goto 334, 3) := by decide +kernel
theorem d_L_law_342 : decode b_L_law 342 = .ok (.aload_n 1, 1) := by decide +kernel
theorem d_L_law_343 : decode b_L_law 343 = .ok (.aload_n 0, 1) := by decide +kernel
theorem d_L_law_344 : decode b_L_law 344 = .ok (.iload 4, 2) := by decide +kernel
theorem d_L_law_346 : decode b_L_law 346 = .ok (.iconst 1, 1) := by decide +kernel
theorem d_L_law_347 : decode b_L_law 347 = .ok (.iadd, 1) := by decide +kernel
theorem d_L_law_348 : decode b_L_law 348 = .ok (.iaload, 1) := by decide +kernel
theorem d_L_law_349 : decode b_L_law 349 = .ok (.aload_n 3, 1) := by decide +kernel
theorem d_L_law_350 : decode b_L_law 350 = .ok (.invokestatic 63, 3) := by decide +kernel
theorem d_L_law_353 : decode b_L_law 353 = .ok (.istore 5, 2) := by decide +kernel
theorem d_L_law_355 : decode b_L_law 355 = .ok (.aload_n 2, 1) := by decide +kernel
theorem d_L_law_356 : decode b_L_law 356 = .ok (.aload_n 0, 1) := by decide +kernel
theorem d_L_law_357 : decode b_L_law 357 = .ok (.iload 4, 2) := by decide +kernel
theorem d_L_law_359 : decode b_L_law 359 = .ok (.iconst 1, 1) := by decide +kernel
theorem d_L_law_360 : decode b_L_law 360 = .ok (.iadd, 1) := by decide +kernel
theorem d_L_law_361 : decode b_L_law 361 = .ok (.iaload, 1) := by decide +kernel
theorem d_L_law_362 : decode b_L_law 362 = .ok (.invokevirtual 65, 3) := by decide +kernel
theorem d_L_law_365 : decode b_L_law 365 = .ok (.istore 6, 2) := by decide +kernel
theorem d_L_law_367 : decode b_L_law 367 = .ok (.aload_n 2, 1) := by decide +kernel
theorem d_L_law_368 : decode b_L_law 368 = .ok (.invokevirtual 52, 3) := by decide +kernel
theorem d_L_law_371 : decode b_L_law 371 = .ok (.iload 5, 2) := by decide +kernel
theorem d_L_law_373 : decode b_L_law 373 = .ok (.if_icmp .eq 5, 3) := by decide +kernel
theorem d_L_law_376 : decode b_L_law 376 = .ok (.iconst 0, 1) := by decide +kernel
theorem d_L_law_377 : decode b_L_law 377 = .ok (.ireturn, 1) := by decide +kernel
theorem d_L_law_378 : decode b_L_law 378 = .ok (.iload 5, 2) := by decide +kernel
theorem d_L_law_380 : decode b_L_law 380 = .ok (.ifCond .ne 15, 3) := by decide +kernel
theorem d_L_law_383 : decode b_L_law 383 = .ok (.aload_n 3, 1) := by decide +kernel
theorem d_L_law_384 : decode b_L_law 384 = .ok (.iconst 0, 1) := by decide +kernel
theorem d_L_law_385 : decode b_L_law 385 = .ok (.laload, 1) := by decide +kernel
theorem d_L_law_386 : decode b_L_law 386 = .ok (.iload 6, 2) := by decide +kernel
theorem d_L_law_388 : decode b_L_law 388 = .ok (.i2l, 1) := by decide +kernel
theorem d_L_law_389 : decode b_L_law 389 = .ok (.lcmp, 1) := by decide +kernel
theorem d_L_law_390 : decode b_L_law 390 = .ok (.ifCond .eq 5, 3) := by decide +kernel
theorem d_L_law_393 : decode b_L_law 393 = .ok (.iconst 0, 1) := by decide +kernel
theorem d_L_law_394 : decode b_L_law 394 = .ok (.ireturn, 1) := by decide +kernel
theorem d_L_law_395 : decode b_L_law 395 = .ok (.goto 278, 3) := by decide +kernel
theorem d_L_law_398 : decode b_L_law 398 = .ok (.aload_n 1, 1) := by decide +kernel
theorem d_L_law_399 : decode b_L_law 399 = .ok (.aload_n 0, 1) := by decide +kernel
theorem d_L_law_400 : decode b_L_law 400 = .ok (.iload 4, 2) := by decide +kernel
theorem d_L_law_402 : decode b_L_law 402 = .ok (.iconst 1, 1) := by decide +kernel
theorem d_L_law_403 : decode b_L_law 403 = .ok (.iadd, 1) := by decide +kernel
theorem d_L_law_404 : decode b_L_law 404 = .ok (.iaload, 1) := by decide +kernel
theorem d_L_law_405 : decode b_L_law 405 = .ok (.aload_n 0, 1) := by decide +kernel
theorem d_L_law_406 : decode b_L_law 406 = .ok (.iload 4, 2) := by decide +kernel
theorem d_L_law_408 : decode b_L_law 408 = .ok (.iconst 2, 1) := by decide +kernel
theorem d_L_law_409 : decode b_L_law 409 = .ok (.iadd, 1) := by decide +kernel
theorem d_L_law_410 : decode b_L_law 410 = .ok (.iaload, 1) := by decide +kernel
theorem d_L_law_411 : decode b_L_law 411 = .ok (.aload_n 3, 1) := by decide +kernel
theorem d_L_law_412 : decode b_L_law 412 = .ok (.invokestatic 66, 3) := by decide +kernel
theorem d_L_law_415 : decode b_L_law 415 = .ok (.istore 5, 2) := by decide +kernel
theorem d_L_law_417 : decode b_L_law 417 = .ok (.aload_n 2, 1) := by decide +kernel
theorem d_L_law_418 : decode b_L_law 418 = .ok (.aload_n 0, 1) := by decide +kernel
theorem d_L_law_419 : decode b_L_law 419 = .ok (.iload 4, 2) := by decide +kernel
theorem d_L_law_421 : decode b_L_law 421 = .ok (.iconst 1, 1) := by decide +kernel
theorem d_L_law_422 : decode b_L_law 422 = .ok (.iadd, 1) := by decide +kernel
theorem d_L_law_423 : decode b_L_law 423 = .ok (.iaload, 1) := by decide +kernel
theorem d_L_law_424 : decode b_L_law 424 = .ok (.aload_n 0, 1) := by decide +kernel
theorem d_L_law_425 : decode b_L_law 425 = .ok (.iload 4, 2) := by decide +kernel
theorem d_L_law_427 : decode b_L_law 427 = .ok (.iconst 2, 1) := by decide +kernel
theorem d_L_law_428 : decode b_L_law 428 = .ok (.iadd, 1) := by decide +kernel
theorem d_L_law_429 : decode b_L_law 429 = .ok (.iaload, 1) := by decide +kernel
theorem d_L_law_430 : decode b_L_law 430 = .ok (.invokevirtual 69, 3) := by decide +kernel
theorem d_L_law_433 : decode b_L_law 433 = .ok (.istore 6, 2) := by decide +kernel
theorem d_L_law_435 : decode b_L_law 435 = .ok (.aload_n 2, 1) := by decide +kernel
theorem d_L_law_436 : decode b_L_law 436 = .ok (.invokevirtual 52, 3) := by decide +kernel
theorem d_L_law_439 : decode b_L_law 439 = .ok (.iload 5, 2) := by decide +kernel
theorem d_L_law_441 : decode b_L_law 441 = .ok (.if_icmp .eq 5, 3) := by decide +kernel
theorem d_L_law_444 : decode b_L_law 444 = .ok (.iconst 0, 1) := by decide +kernel
theorem d_L_law_445 : decode b_L_law 445 = .ok (.ireturn, 1) := by decide +kernel
theorem d_L_law_446 : decode b_L_law 446 = .ok (.iload 5, 2) := by decide +kernel
theorem d_L_law_448 : decode b_L_law 448 = .ok (.ifCond .ne 22, 3) := by decide +kernel
theorem d_L_law_451 : decode b_L_law 451 = .ok (.aload_n 3, 1) := by decide +kernel
theorem d_L_law_452 : decode b_L_law 452 = .ok (.iconst 0, 1) := by decide +kernel
theorem d_L_law_453 : decode b_L_law 453 = .ok (.laload, 1) := by decide +kernel
theorem d_L_law_454 : decode b_L_law 454 = .ok (.iload 6, 2) := by decide +kernel
theorem d_L_law_456 : decode b_L_law 456 = .ok (.ifCond .eq 7, 3) := by decide +kernel
theorem d_L_law_459 : decode b_L_law 459 = .ok (.lconst 1, 1) := by decide +kernel
theorem d_L_law_460 : decode b_L_law 460 = .ok (.goto 4, 3) := by decide +kernel
theorem d_L_law_463 : decode b_L_law 463 = .ok (.lconst 0, 1) := by decide +kernel
theorem d_L_law_464 : decode b_L_law 464 = .ok (.lcmp, 1) := by decide +kernel
theorem d_L_law_465 : decode b_L_law 465 = .ok (.ifCond .eq 5, 3) := by decide +kernel
theorem d_L_law_468 : decode b_L_law 468 = .ok (.iconst 0, 1) := by decide +kernel
theorem d_L_law_469 : decode b_L_law 469 = .ok (.ireturn, 1) := by decide +kernel
theorem d_L_law_470 : decode b_L_law 470 = .ok (.goto 203, 3) := by decide +kernel
theorem d_L_law_473 : decode b_L_law 473 = .ok (.aload_n 1, 1) := by decide +kernel
theorem d_L_law_474 : decode b_L_law 474 = .ok (.aload_n 0, 1) := by decide +kernel
theorem d_L_law_475 : decode b_L_law 475 = .ok (.iload 4, 2) := by decide +kernel
theorem d_L_law_477 : decode b_L_law 477 = .ok (.iconst 1, 1) := by decide +kernel
theorem d_L_law_478 : decode b_L_law 478 = .ok (.iadd, 1) := by decide +kernel
theorem d_L_law_479 : decode b_L_law 479 = .ok (.iaload, 1) := by decide +kernel
theorem d_L_law_480 : decode b_L_law 480 = .ok (.aload_n 3, 1) := by decide +kernel
theorem d_L_law_481 : decode b_L_law 481 = .ok (.invokestatic 70, 3) := by decide +kernel
theorem d_L_law_484 : decode b_L_law 484 = .ok (.istore 5, 2) := by decide +kernel
theorem d_L_law_486 : decode b_L_law 486 = .ok (.aload_n 2, 1) := by decide +kernel
theorem d_L_law_487 : decode b_L_law 487 = .ok (.aload_n 0, 1) := by decide +kernel
theorem d_L_law_488 : decode b_L_law 488 = .ok (.iload 4, 2) := by decide +kernel
theorem d_L_law_490 : decode b_L_law 490 = .ok (.iconst 1, 1) := by decide +kernel
theorem d_L_law_491 : decode b_L_law 491 = .ok (.iadd, 1) := by decide +kernel
theorem d_L_law_492 : decode b_L_law 492 = .ok (.iaload, 1) := by decide +kernel
theorem d_L_law_493 : decode b_L_law 493 = .ok (.invokevirtual 72, 3) := by decide +kernel
theorem d_L_law_496 : decode b_L_law 496 = .ok (.istore 6, 2) := by decide +kernel
theorem d_L_law_498 : decode b_L_law 498 = .ok (.aload_n 2, 1) := by decide +kernel
theorem d_L_law_499 : decode b_L_law 499 = .ok (.invokevirtual 52, 3) := by decide +kernel
theorem d_L_law_502 : decode b_L_law 502 = .ok (.iload 5, 2) := by decide +kernel
theorem d_L_law_504 : decode b_L_law 504 = .ok (.if_icmp .eq 5, 3) := by decide +kernel
theorem d_L_law_507 : decode b_L_law 507 = .ok (.iconst 0, 1) := by decide +kernel
theorem d_L_law_508 : decode b_L_law 508 = .ok (.ireturn, 1) := by decide +kernel
theorem d_L_law_509 : decode b_L_law 509 = .ok (.iload 5, 2) := by decide +kernel
theorem d_L_law_511 : decode b_L_law 511 = .ok (.ifCond .ne 22, 3) := by decide +kernel
theorem d_L_law_514 : decode b_L_law 514 = .ok (.aload_n 3, 1) := by decide +kernel
theorem d_L_law_515 : decode b_L_law 515 = .ok (.iconst 0, 1) := by decide +kernel
theorem d_L_law_516 : decode b_L_law 516 = .ok (.laload, 1) := by decide +kernel
theorem d_L_law_517 : decode b_L_law 517 = .ok (.iload 6, 2) := by decide +kernel
theorem d_L_law_519 : decode b_L_law 519 = .ok (.ifCond .eq 7, 3) := by decide +kernel
theorem d_L_law_522 : decode b_L_law 522 = .ok (.lconst 1, 1) := by decide +kernel
theorem d_L_law_523 : decode b_L_law 523 = .ok (.goto 4, 3) := by decide +kernel
theorem d_L_law_526 : decode b_L_law 526 = .ok (.lconst 0, 1) := by decide +kernel
theorem d_L_law_527 : decode b_L_law 527 = .ok (.lcmp, 1) := by decide +kernel
theorem d_L_law_528 : decode b_L_law 528 = .ok (.ifCond .eq 5, 3) := by decide +kernel
theorem d_L_law_531 : decode b_L_law 531 = .ok (.iconst 0, 1) := by decide +kernel
theorem d_L_law_532 : decode b_L_law 532 = .ok (.ireturn, 1) := by decide +kernel
theorem d_L_law_533 : decode b_L_law 533 = .ok (.goto 140, 3) := by decide +kernel
theorem d_L_law_536 : decode b_L_law 536 = .ok (.aload_n 1, 1) := by decide +kernel
theorem d_L_law_537 : decode b_L_law 537 = .ok (.aload_n 0, 1) := by decide +kernel
theorem d_L_law_538 : decode b_L_law 538 = .ok (.iload 4, 2) := by decide +kernel
theorem d_L_law_540 : decode b_L_law 540 = .ok (.iconst 1, 1) := by decide +kernel
theorem d_L_law_541 : decode b_L_law 541 = .ok (.iadd, 1) := by decide +kernel
theorem d_L_law_542 : decode b_L_law 542 = .ok (.iaload, 1) := by decide +kernel
theorem d_L_law_543 : decode b_L_law 543 = .ok (.invokevirtual 73, 3) := by decide +kernel
theorem d_L_law_546 : decode b_L_law 546 = .ok (.aload_n 2, 1) := by decide +kernel
theorem d_L_law_547 : decode b_L_law 547 = .ok (.aload_n 0, 1) := by decide +kernel
theorem d_L_law_548 : decode b_L_law 548 = .ok (.iload 4, 2) := by decide +kernel
theorem d_L_law_550 : decode b_L_law 550 = .ok (.iconst 1, 1) := by decide +kernel
theorem d_L_law_551 : decode b_L_law 551 = .ok (.iadd, 1) := by decide +kernel
theorem d_L_law_552 : decode b_L_law 552 = .ok (.iaload, 1) := by decide +kernel
theorem d_L_law_553 : decode b_L_law 553 = .ok (.invokevirtual 76, 3) := by decide +kernel
theorem d_L_law_556 : decode b_L_law 556 = .ok (.if_icmp .eq 117, 3) := by decide +kernel
theorem d_L_law_559 : decode b_L_law 559 = .ok (.iconst 0, 1) := by decide +kernel
theorem d_L_law_560 : decode b_L_law 560 = .ok (.ireturn, 1) := by decide +kernel
theorem d_L_law_561 : decode b_L_law 561 = .ok (.aload_n 1, 1) := by decide +kernel
theorem d_L_law_562 : decode b_L_law 562 = .ok (.aload_n 0, 1) := by decide +kernel
theorem d_L_law_563 : decode b_L_law 563 = .ok (.iload 4, 2) := by decide +kernel
theorem d_L_law_565 : decode b_L_law 565 = .ok (.iconst 1, 1) := by decide +kernel
theorem d_L_law_566 : decode b_L_law 566 = .ok (.iadd, 1) := by decide +kernel
theorem d_L_law_567 : decode b_L_law 567 = .ok (.iaload, 1) := by decide +kernel
theorem d_L_law_568 : decode b_L_law 568 = .ok (.invokevirtual 77, 3) := by decide +kernel
theorem d_L_law_571 : decode b_L_law 571 = .ok (.aload_n 2, 1) := by decide +kernel
theorem d_L_law_572 : decode b_L_law 572 = .ok (.aload_n 0, 1) := by decide +kernel
theorem d_L_law_573 : decode b_L_law 573 = .ok (.iload 4, 2) := by decide +kernel
theorem d_L_law_575 : decode b_L_law 575 = .ok (.iconst 1, 1) := by decide +kernel
theorem d_L_law_576 : decode b_L_law 576 = .ok (.iadd, 1) := by decide +kernel
theorem d_L_law_577 : decode b_L_law 577 = .ok (.iaload, 1) := by decide +kernel
theorem d_L_law_578 : decode b_L_law 578 = .ok (.invokevirtual 80, 3) := by decide +kernel
theorem d_L_law_581 : decode b_L_law 581 = .ok (.if_icmp .eq 92, 3) := by decide +kernel
theorem d_L_law_584 : decode b_L_law 584 = .ok (.iconst 0, 1) := by decide +kernel
theorem d_L_law_585 : decode b_L_law 585 = .ok (.ireturn, 1) := by decide +kernel
theorem d_L_law_586 : decode b_L_law 586 = .ok (.aload_n 1, 1) := by decide +kernel
theorem d_L_law_587 : decode b_L_law 587 = .ok (.aload_n 0, 1) := by decide +kernel
theorem d_L_law_588 : decode b_L_law 588 = .ok (.iload 4, 2) := by decide +kernel
theorem d_L_law_590 : decode b_L_law 590 = .ok (.iconst 1, 1) := by decide +kernel
theorem d_L_law_591 : decode b_L_law 591 = .ok (.iadd, 1) := by decide +kernel
theorem d_L_law_592 : decode b_L_law 592 = .ok (.iaload, 1) := by decide +kernel
theorem d_L_law_593 : decode b_L_law 593 = .ok (.invokevirtual 81, 3) := by decide +kernel
theorem d_L_law_596 : decode b_L_law 596 = .ok (.aload_n 2, 1) := by decide +kernel
theorem d_L_law_597 : decode b_L_law 597 = .ok (.aload_n 0, 1) := by decide +kernel
theorem d_L_law_598 : decode b_L_law 598 = .ok (.iload 4, 2) := by decide +kernel
theorem d_L_law_600 : decode b_L_law 600 = .ok (.iconst 1, 1) := by decide +kernel
theorem d_L_law_601 : decode b_L_law 601 = .ok (.iadd, 1) := by decide +kernel
theorem d_L_law_602 : decode b_L_law 602 = .ok (.iaload, 1) := by decide +kernel
theorem d_L_law_603 : decode b_L_law 603 = .ok (.invokevirtual 84, 3) := by decide +kernel
theorem d_L_law_606 : decode b_L_law 606 = .ok (.if_icmp .eq 67, 3) := by decide +kernel
theorem d_L_law_609 : decode b_L_law 609 = .ok (.iconst 0, 1) := by decide +kernel
theorem d_L_law_610 : decode b_L_law 610 = .ok (.ireturn, 1) := by decide +kernel
theorem d_L_law_611 : decode b_L_law 611 = .ok (.aload_n 1, 1) := by decide +kernel
theorem d_L_law_612 : decode b_L_law 612 = .ok (.aload_n 0, 1) := by decide +kernel
theorem d_L_law_613 : decode b_L_law 613 = .ok (.iload 4, 2) := by decide +kernel
theorem d_L_law_615 : decode b_L_law 615 = .ok (.iconst 1, 1) := by decide +kernel
theorem d_L_law_616 : decode b_L_law 616 = .ok (.iadd, 1) := by decide +kernel
theorem d_L_law_617 : decode b_L_law 617 = .ok (.iaload, 1) := by decide +kernel
theorem d_L_law_618 : decode b_L_law 618 = .ok (.invokevirtual 85, 3) := by decide +kernel
theorem d_L_law_621 : decode b_L_law 621 = .ok (.aload_n 2, 1) := by decide +kernel
theorem d_L_law_622 : decode b_L_law 622 = .ok (.aload_n 0, 1) := by decide +kernel
theorem d_L_law_623 : decode b_L_law 623 = .ok (.iload 4, 2) := by decide +kernel
theorem d_L_law_625 : decode b_L_law 625 = .ok (.iconst 1, 1) := by decide +kernel
theorem d_L_law_626 : decode b_L_law 626 = .ok (.iadd, 1) := by decide +kernel
theorem d_L_law_627 : decode b_L_law 627 = .ok (.iaload, 1) := by decide +kernel
theorem d_L_law_628 : decode b_L_law 628 = .ok (.invokevirtual 88, 3) := by decide +kernel
theorem d_L_law_631 : decode b_L_law 631 = .ok (.if_icmp .eq 42, 3) := by decide +kernel
theorem d_L_law_634 : decode b_L_law 634 = .ok (.iconst 0, 1) := by decide +kernel
theorem d_L_law_635 : decode b_L_law 635 = .ok (.ireturn, 1) := by decide +kernel
theorem d_L_law_636 : decode b_L_law 636 = .ok (.aload_n 1, 1) := by decide +kernel
theorem d_L_law_637 : decode b_L_law 637 = .ok (.aload_n 0, 1) := by decide +kernel
theorem d_L_law_638 : decode b_L_law 638 = .ok (.iload 4, 2) := by decide +kernel
theorem d_L_law_640 : decode b_L_law 640 = .ok (.iconst 1, 1) := by decide +kernel
theorem d_L_law_641 : decode b_L_law 641 = .ok (.iadd, 1) := by decide +kernel
theorem d_L_law_642 : decode b_L_law 642 = .ok (.iaload, 1) := by decide +kernel
theorem d_L_law_643 : decode b_L_law 643 = .ok (.aload_n 0, 1) := by decide +kernel
theorem d_L_law_644 : decode b_L_law 644 = .ok (.iload 4, 2) := by decide +kernel
theorem d_L_law_646 : decode b_L_law 646 = .ok (.iconst 2, 1) := by decide +kernel
theorem d_L_law_647 : decode b_L_law 647 = .ok (.iadd, 1) := by decide +kernel
theorem d_L_law_648 : decode b_L_law 648 = .ok (.iaload, 1) := by decide +kernel
theorem d_L_law_649 : decode b_L_law 649 = .ok (.invokevirtual 89, 3) := by decide +kernel
theorem d_L_law_652 : decode b_L_law 652 = .ok (.aload_n 2, 1) := by decide +kernel
theorem d_L_law_653 : decode b_L_law 653 = .ok (.aload_n 0, 1) := by decide +kernel
theorem d_L_law_654 : decode b_L_law 654 = .ok (.iload 4, 2) := by decide +kernel
theorem d_L_law_656 : decode b_L_law 656 = .ok (.iconst 1, 1) := by decide +kernel
theorem d_L_law_657 : decode b_L_law 657 = .ok (.iadd, 1) := by decide +kernel
theorem d_L_law_658 : decode b_L_law 658 = .ok (.iaload, 1) := by decide +kernel
theorem d_L_law_659 : decode b_L_law 659 = .ok (.aload_n 0, 1) := by decide +kernel
theorem d_L_law_660 : decode b_L_law 660 = .ok (.iload 4, 2) := by decide +kernel
theorem d_L_law_662 : decode b_L_law 662 = .ok (.iconst 2, 1) := by decide +kernel
theorem d_L_law_663 : decode b_L_law 663 = .ok (.iadd, 1) := by decide +kernel
theorem d_L_law_664 : decode b_L_law 664 = .ok (.iaload, 1) := by decide +kernel
theorem d_L_law_665 : decode b_L_law 665 = .ok (.invokevirtual 93, 3) := by decide +kernel
theorem d_L_law_668 : decode b_L_law 668 = .ok (.if_icmp .eq 5, 3) := by decide +kernel
theorem d_L_law_671 : decode b_L_law 671 = .ok (.iconst 0, 1) := by decide +kernel
theorem d_L_law_672 : decode b_L_law 672 = .ok (.ireturn, 1) := by decide +kernel
theorem d_L_law_673 : decode b_L_law 673 = .ok (.iinc 4 7, 3) := by decide +kernel
theorem d_L_law_676 : decode b_L_law 676 = .ok (.goto (-643), 3) := by decide +kernel
theorem d_L_law_679 : decode b_L_law 679 = .ok (.iconst 1, 1) := by decide +kernel
theorem d_L_law_680 : decode b_L_law 680 = .ok (.ireturn, 1) := by decide +kernel
