theorem d_K_init_0 : decode b_K_init 0 = .ok (.aload_n 0, 1) := by decide +kernel
theorem d_K_init_1 : decode b_K_init 1 = .ok (.invokespecial 3, 3) := by decide +kernel
theorem d_K_init_4 : decode b_K_init 4 = .ok (.aload_n 0, 1) := by decide +kernel
theorem d_K_init_5 : decode b_K_init 5 = .ok (.aload_n 1, 1) := by decide +kernel
theorem d_K_init_6 : decode b_K_init 6 = .ok (.putfield 9, 3) := by decide +kernel
theorem d_K_init_9 : decode b_K_init 9 = .ok (.aload_n 0, 1) := by decide +kernel
theorem d_K_init_10 : decode b_K_init 10 = .ok (.aload_n 2, 1) := by decide +kernel
theorem d_K_init_11 : decode b_K_init 11 = .ok (.putfield 15, 3) := by decide +kernel
theorem d_K_init_14 : decode b_K_init 14 = .ok (.aload_n 0, 1) := by decide +kernel
theorem d_K_init_15 : decode b_K_init 15 = .ok (.bipush 33, 2) := by decide +kernel
theorem d_K_init_17 : decode b_K_init 17 = .ok (.newarray .long, 2) := by decide +kernel
theorem d_K_init_19 : decode b_K_init 19 = .ok (.putfield 18, 3) := by decide +kernel
theorem d_K_init_22 : decode b_K_init 22 = .ok (.aload_n 0, 1) := by decide +kernel
theorem d_K_init_23 : decode b_K_init 23 = .ok (.bipush 33, 2) := by decide +kernel
theorem d_K_init_25 : decode b_K_init 25 = .ok (.newarray .long, 2) := by decide +kernel
theorem d_K_init_27 : decode b_K_init 27 = .ok (.putfield 22, 3) := by decide +kernel
theorem d_K_init_30 : decode b_K_init 30 = .ok (.aload_n 0, 1) := by decide +kernel
theorem d_K_init_31 : decode b_K_init 31 = .ok (.aload_n 3, 1) := by decide +kernel
theorem d_K_init_32 : decode b_K_init 32 = .ok (.putfield 25, 3) := by decide +kernel
theorem d_K_init_35 : decode b_K_init 35 = .ok (.return_, 1) := by decide +kernel
theorem d_K_steps_0 : decode b_K_steps 0 = .ok (.iconst 0, 1) := by decide +kernel
theorem d_K_steps_1 : decode b_K_steps 1 = .ok (.aload_n 0, 1) := by decide +kernel
theorem d_K_steps_2 : decode b_K_steps 2 = .ok (.getfield 66, 3) := by decide +kernel
theorem d_K_steps_5 : decode b_K_steps 5 = .ok (.aload_n 0, 1) := by decide +kernel
theorem d_K_steps_6 : decode b_K_steps 6 = .ok (.getfield 60, 3) := by decide +kernel
theorem d_K_steps_9 : decode b_K_steps 9 = .ok (.isub, 1) := by decide +kernel
theorem d_K_steps_10 : decode b_K_steps 10 = .ok (.invokestatic 72, 3) := by decide +kernel
theorem d_K_steps_13 : decode b_K_steps 13 = .ok (.istore_n 1, 1) := by decide +kernel
theorem d_K_steps_14 : decode b_K_steps 14 = .ok (.aload_n 0, 1) := by decide +kernel
theorem d_K_steps_15 : decode b_K_steps 15 = .ok (.getfield 25, 3) := by decide +kernel
theorem d_K_steps_18 : decode b_K_steps 18 = .ok (.getfield 78, 3) := by decide +kernel
theorem d_K_steps_21 : decode b_K_steps 21 = .ok (.bipush 14, 2) := by decide +kernel
theorem d_K_steps_23 : decode b_K_steps 23 = .ok (.if_icmp .ne 11, 3) := by decide +kernel
theorem d_K_steps_26 : decode b_K_steps 26 = .ok (.iconst 1, 1) := by decide +kernel
theorem d_K_steps_27 : decode b_K_steps 27 = .ok (.iload_n 1, 1) := by decide +kernel
theorem d_K_steps_28 : decode b_K_steps 28 = .ok (.invokestatic 83, 3) := by decide +kernel
theorem d_K_steps_31 : decode b_K_steps 31 = .ok (.goto 4, 3) := by decide +kernel
theorem d_K_steps_34 : decode b_K_steps 34 = .ok (.iload_n 1, 1) := by decide +kernel
theorem d_K_steps_35 : decode b_K_steps 35 = .ok (.ireturn, 1) := by decide +kernel
theorem d_K_isNextStepFree_0 : decode b_K_isNextStepFree 0 = .ok (.aload_n 0, 1) := by decide +kernel
theorem d_K_isNextStepFree_1 : decode b_K_isNextStepFree 1 = .ok (.invokevirtual 130, 3) := by decide +kernel
theorem d_K_isNextStepFree_4 : decode b_K_isNextStepFree 4 = .ok (.ifCond .eq 5, 3) := by decide +kernel
theorem d_K_isNextStepFree_7 : decode b_K_isNextStepFree 7 = .ok (.iconst 0, 1) := by decide +kernel
theorem d_K_isNextStepFree_8 : decode b_K_isNextStepFree 8 = .ok (.ireturn, 1) := by decide +kernel
theorem d_K_isNextStepFree_9 : decode b_K_isNextStepFree 9 = .ok (.aload_n 0, 1) := by decide +kernel
theorem d_K_isNextStepFree_10 : decode b_K_isNextStepFree 10 = .ok (.aload_n 0, 1) := by decide +kernel
theorem d_K_isNextStepFree_11 : decode b_K_isNextStepFree 11 = .ok (.getfield 69, 3) := by decide +kernel
theorem d_K_isNextStepFree_14 : decode b_K_isNextStepFree 14 = .ok (.invokevirtual 93, 3) := by decide +kernel
theorem d_K_isNextStepFree_17 : decode b_K_isNextStepFree 17 = .ok (.lstore 5, 2) := by decide +kernel
theorem d_K_isNextStepFree_19 : decode b_K_isNextStepFree 19 = .ok (.lload_n 3, 1) := by decide +kernel
theorem d_K_isNextStepFree_20 : decode b_K_isNextStepFree 20 = .ok (.aload_n 0, 1) := by decide +kernel
theorem d_K_isNextStepFree_21 : decode b_K_isNextStepFree 21 = .ok (.aload_n 0, 1) := by decide +kernel
theorem d_K_isNextStepFree_22 : decode b_K_isNextStepFree 22 = .ok (.getfield 69, 3) := by decide +kernel
theorem d_K_isNextStepFree_25 : decode b_K_isNextStepFree 25 = .ok (.invokevirtual 89, 3) := by decide +kernel
theorem d_K_isNextStepFree_28 : decode b_K_isNextStepFree 28 = .ok (.lload 5, 2) := by decide +kernel
theorem d_K_isNextStepFree_30 : decode b_K_isNextStepFree 30 = .ok (.lor, 1) := by decide +kernel
theorem d_K_isNextStepFree_31 : decode b_K_isNextStepFree 31 = .ok (.land, 1) := by decide +kernel
theorem d_K_isNextStepFree_32 : decode b_K_isNextStepFree 32 = .ok (.lconst 0, 1) := by decide +kernel
theorem d_K_isNextStepFree_33 : decode b_K_isNextStepFree 33 = .ok (.lcmp, 1) := by decide +kernel
theorem d_K_isNextStepFree_34 : decode b_K_isNextStepFree 34 = .ok (.ifCond .ne 16, 3) := by decide +kernel
theorem d_K_isNextStepFree_37 : decode b_K_isNextStepFree 37 = .ok (.lload_n 1, 1) := by decide +kernel
theorem d_K_isNextStepFree_38 : decode b_K_isNextStepFree 38 = .ok (.lload 5, 2) := by decide +kernel
theorem d_K_isNextStepFree_40 : decode b_K_isNextStepFree 40 = .ok (.land, 1) := by decide +kernel
theorem d_K_isNextStepFree_41 : decode b_K_isNextStepFree 41 = .ok (.lconst 0, 1) := by decide +kernel
theorem d_K_isNextStepFree_42 : decode b_K_isNextStepFree 42 = .ok (.lcmp, 1) := by decide +kernel
theorem d_K_isNextStepFree_43 : decode b_K_isNextStepFree 43 = .ok (.ifCond .ne 7, 3) := by decide +kernel
theorem d_K_isNextStepFree_46 : decode b_K_isNextStepFree 46 = .ok (.iconst 1, 1) := by decide +kernel
theorem d_K_isNextStepFree_47 : decode b_K_isNextStepFree 47 = .ok (.goto 4, 3) := by decide +kernel
theorem d_K_isNextStepFree_50 : decode b_K_isNextStepFree 50 = .ok (.iconst 0, 1) := by decide +kernel
theorem d_K_isNextStepFree_51 : decode b_K_isNextStepFree 51 = .ok (.ireturn, 1) := by decide +kernel
theorem d_K_isDone_0 : decode b_K_isDone 0 = .ok (.aload_n 0, 1) := by decide +kernel
theorem d_K_isDone_1 : decode b_K_isDone 1 = .ok (.getfield 69, 3) := by decide +kernel
theorem d_K_isDone_4 : decode b_K_isDone 4 = .ok (.aload_n 0, 1) := by decide +kernel
theorem d_K_isDone_5 : decode b_K_isDone 5 = .ok (.invokevirtual 86, 3) := by decide +kernel
theorem d_K_isDone_8 : decode b_K_isDone 8 = .ok (.if_icmp .lt 7, 3) := by decide +kernel
theorem d_K_isDone_11 : decode b_K_isDone 11 = .ok (.iconst 1, 1) := by decide +kernel
theorem d_K_isDone_12 : decode b_K_isDone 12 = .ok (.goto 4, 3) := by decide +kernel
theorem d_K_isDone_15 : decode b_K_isDone 15 = .ok (.iconst 0, 1) := by decide +kernel
theorem d_K_isDone_16 : decode b_K_isDone 16 = .ok (.ireturn, 1) := by decide +kernel
theorem d_K_writesOf_0 : decode b_K_writesOf 0 = .ok (.aload_n 0, 1) := by decide +kernel
theorem d_K_writesOf_1 : decode b_K_writesOf 1 = .ok (.getfield 60, 3) := by decide +kernel
theorem d_K_writesOf_4 : decode b_K_writesOf 4 = .ok (.iload_n 1, 1) := by decide +kernel
theorem d_K_writesOf_5 : decode b_K_writesOf 5 = .ok (.iadd, 1) := by decide +kernel
theorem d_K_writesOf_6 : decode b_K_writesOf 6 = .ok (.istore_n 2, 1) := by decide +kernel
theorem d_K_writesOf_7 : decode b_K_writesOf 7 = .ok (.aload_n 0, 1) := by decide +kernel
theorem d_K_writesOf_8 : decode b_K_writesOf 8 = .ok (.getfield 25, 3) := by decide +kernel
theorem d_K_writesOf_11 : decode b_K_writesOf 11 = .ok (.getfield 78, 3) := by decide +kernel
theorem d_K_writesOf_14 : decode b_K_writesOf 14 = .ok (.tableswitch 113 12 18 #[42, 62, 91, 113, 113, 113, 111], 42) := by decide +kernel
theorem d_K_writesOf_56 : decode b_K_writesOf 56 = .ok (.bipush 8, 2) := by decide +kernel
theorem d_K_writesOf_58 : decode b_K_writesOf 58 = .ok (.aload_n 0, 1) := by decide +kernel
theorem d_K_writesOf_59 : decode b_K_writesOf 59 = .ok (.getfield 25, 3) := by decide +kernel
theorem d_K_writesOf_62 : decode b_K_writesOf 62 = .ok (.getfield 123, 3) := by decide +kernel
theorem d_K_writesOf_65 : decode b_K_writesOf 65 = .ok (.imul, 1) := by decide +kernel
theorem d_K_writesOf_66 : decode b_K_writesOf 66 = .ok (.iload_n 2, 1) := by decide +kernel
theorem d_K_writesOf_67 : decode b_K_writesOf 67 = .ok (.bipush 8, 2) := by decide +kernel
theorem d_K_writesOf_69 : decode b_K_writesOf 69 = .ok (.idiv, 1) := by decide +kernel
theorem d_K_writesOf_70 : decode b_K_writesOf 70 = .ok (.iadd, 1) := by decide +kernel
theorem d_K_writesOf_71 : decode b_K_writesOf 71 = .ok (.iconst 1, 1) := by decide +kernel
theorem d_K_writesOf_72 : decode b_K_writesOf 72 = .ok (.invokestatic 112, 3) := by decide +kernel
theorem d_K_writesOf_75 : decode b_K_writesOf 75 = .ok (.lreturn, 1) := by decide +kernel
theorem d_K_writesOf_76 : decode b_K_writesOf 76 = .ok (.bipush 8, 2) := by decide +kernel
theorem d_K_writesOf_78 : decode b_K_writesOf 78 = .ok (.aload_n 0, 1) := by decide +kernel
theorem d_K_writesOf_79 : decode b_K_writesOf 79 = .ok (.getfield 25, 3) := by decide +kernel
theorem d_K_writesOf_82 : decode b_K_writesOf 82 = .ok (.getfield 123, 3) := by decide +kernel
theorem d_K_writesOf_85 : decode b_K_writesOf 85 = .ok (.imul, 1) := by decide +kernel
theorem d_K_writesOf_86 : decode b_K_writesOf 86 = .ok (.iconst 2, 1) := by decide +kernel
theorem d_K_writesOf_87 : decode b_K_writesOf 87 = .ok (.iload_n 2, 1) := by decide +kernel
theorem d_K_writesOf_88 : decode b_K_writesOf 88 = .ok (.imul, 1) := by decide +kernel
theorem d_K_writesOf_89 : decode b_K_writesOf 89 = .ok (.aload_n 0, 1) := by decide +kernel
theorem d_K_writesOf_90 : decode b_K_writesOf 90 = .ok (.getfield 45, 3) := by decide +kernel
theorem d_K_writesOf_93 : decode b_K_writesOf 93 = .ok (.imul, 1) := by decide +kernel
theorem d_K_writesOf_94 : decode b_K_writesOf 94 = .ok (.iadd, 1) := by decide +kernel
theorem d_K_writesOf_95 : decode b_K_writesOf 95 = .ok (.iconst 2, 1) := by decide +kernel
theorem d_K_writesOf_96 : decode b_K_writesOf 96 = .ok (.aload_n 0, 1) := by decide +kernel
theorem d_K_writesOf_97 : decode b_K_writesOf 97 = .ok (.getfield 45, 3) := by decide +kernel
theorem d_K_writesOf_100 : decode b_K_writesOf 100 = .ok (.imul, 1) := by decide +kernel
theorem d_K_writesOf_101 : decode b_K_writesOf 101 = .ok (.invokestatic 112, 3) := by decide +kernel
theorem d_K_writesOf_104 : decode b_K_writesOf 104 = .ok (.lreturn, 1) := by decide +kernel
theorem d_K_writesOf_105 : decode b_K_writesOf 105 = .ok (.aload_n 0, 1) := by decide +kernel
theorem d_K_writesOf_106 : decode b_K_writesOf 106 = .ok (.aload_n 0, 1) := by decide +kernel
theorem d_K_writesOf_107 : decode b_K_writesOf 107 = .ok (.getfield 25, 3) := by decide +kernel
theorem d_K_writesOf_110 : decode b_K_writesOf 110 = .ok (.getfield 123, 3) := by decide +kernel
theorem d_K_writesOf_113 : decode b_K_writesOf 113 = .ok (.iconst 0, 1) := by decide +kernel
theorem d_K_writesOf_114 : decode b_K_writesOf 114 = .ok (.invokevirtual 109, 3) := by decide +kernel
theorem d_K_writesOf_117 : decode b_K_writesOf 117 = .ok (.aload_n 0, 1) := by decide +kernel
theorem d_K_writesOf_118 : decode b_K_writesOf 118 = .ok (.getfield 45, 3) := by decide +kernel
theorem d_K_writesOf_121 : decode b_K_writesOf 121 = .ok (.invokestatic 112, 3) := by decide +kernel
theorem d_K_writesOf_124 : decode b_K_writesOf 124 = .ok (.lreturn, 1) := by decide +kernel
theorem d_K_writesOf_125 : decode b_K_writesOf 125 = .ok (.lconst 0, 1) := by decide +kernel
theorem d_K_writesOf_126 : decode b_K_writesOf 126 = .ok (.lreturn, 1) := by decide +kernel
theorem d_K_writesOf_127 : decode b_K_writesOf 127 = .ok (.aload_n 0, 1) := by decide +kernel
theorem d_K_writesOf_128 : decode b_K_writesOf 128 = .ok (.aload_n 0, 1) := by decide +kernel
theorem d_K_writesOf_129 : decode b_K_writesOf 129 = .ok (.getfield 25, 3) := by decide +kernel
theorem d_K_writesOf_132 : decode b_K_writesOf 132 = .ok (.getfield 123, 3) := by decide +kernel
theorem d_K_writesOf_135 : decode b_K_writesOf 135 = .ok (.iload_n 2, 1) := by decide +kernel
theorem d_K_writesOf_136 : decode b_K_writesOf 136 = .ok (.invokevirtual 109, 3) := by decide +kernel
theorem d_K_writesOf_139 : decode b_K_writesOf 139 = .ok (.aload_n 0, 1) := by decide +kernel
theorem d_K_writesOf_140 : decode b_K_writesOf 140 = .ok (.getfield 45, 3) := by decide +kernel
theorem d_K_writesOf_143 : decode b_K_writesOf 143 = .ok (.invokestatic 112, 3) := by decide +kernel
theorem d_K_writesOf_146 : decode b_K_writesOf 146 = .ok (.lreturn, 1) := by decide +kernel
theorem d_K_span_0 : decode b_K_span 0 = .ok (.lconst 1, 1) := by decide +kernel
theorem d_K_span_1 : decode b_K_span 1 = .ok (.iload_n 1, 1) := by decide +kernel
theorem d_K_span_2 : decode b_K_span 2 = .ok (.lshl, 1) := by decide +kernel
theorem d_K_span_3 : decode b_K_span 3 = .ok (.lconst 1, 1) := by decide +kernel
theorem d_K_span_4 : decode b_K_span 4 = .ok (.lsub, 1) := by decide +kernel
theorem d_K_span_5 : decode b_K_span 5 = .ok (.iload_n 0, 1) := by decide +kernel
theorem d_K_span_6 : decode b_K_span 6 = .ok (.lshl, 1) := by decide +kernel
theorem d_K_span_7 : decode b_K_span 7 = .ok (.lreturn, 1) := by decide +kernel
theorem d_K_placeOf_0 : decode b_K_placeOf 0 = .ok (.bipush 8, 2) := by decide +kernel
theorem d_K_placeOf_2 : decode b_K_placeOf 2 = .ok (.iload_n 1, 1) := by decide +kernel
theorem d_K_placeOf_3 : decode b_K_placeOf 3 = .ok (.imul, 1) := by decide +kernel
theorem d_K_placeOf_4 : decode b_K_placeOf 4 = .ok (.iload_n 2, 1) := by decide +kernel
theorem d_K_placeOf_5 : decode b_K_placeOf 5 = .ok (.aload_n 0, 1) := by decide +kernel
theorem d_K_placeOf_6 : decode b_K_placeOf 6 = .ok (.getfield 45, 3) := by decide +kernel
theorem d_K_placeOf_9 : decode b_K_placeOf 9 = .ok (.imul, 1) := by decide +kernel
theorem d_K_placeOf_10 : decode b_K_placeOf 10 = .ok (.iadd, 1) := by decide +kernel
theorem d_K_placeOf_11 : decode b_K_placeOf 11 = .ok (.ireturn, 1) := by decide +kernel
theorem d_K_readsOf_0 : decode b_K_readsOf 0 = .ok (.aload_n 0, 1) := by decide +kernel
theorem d_K_readsOf_1 : decode b_K_readsOf 1 = .ok (.getfield 60, 3) := by decide +kernel
theorem d_K_readsOf_4 : decode b_K_readsOf 4 = .ok (.iload_n 1, 1) := by decide +kernel
theorem d_K_readsOf_5 : decode b_K_readsOf 5 = .ok (.iadd, 1) := by decide +kernel
theorem d_K_readsOf_6 : decode b_K_readsOf 6 = .ok (.istore_n 2, 1) := by decide +kernel
theorem d_K_readsOf_7 : decode b_K_readsOf 7 = .ok (.aload_n 0, 1) := by decide +kernel
theorem d_K_readsOf_8 : decode b_K_readsOf 8 = .ok (.getfield 25, 3) := by decide +kernel
theorem d_K_readsOf_11 : decode b_K_readsOf 11 = .ok (.getfield 78, 3) := by decide +kernel
theorem d_K_readsOf_14 : decode b_K_readsOf 14 = .ok (.bipush 14, 2) := by decide +kernel
theorem d_K_readsOf_16 : decode b_K_readsOf 16 = .ok (.if_icmp .ne 10, 3) := by decide +kernel
theorem d_K_readsOf_19 : decode b_K_readsOf 19 = .ok (.aload_n 0, 1) := by decide +kernel
theorem d_K_readsOf_20 : decode b_K_readsOf 20 = .ok (.invokevirtual 96, 3) := by decide +kernel
theorem d_K_readsOf_23 : decode b_K_readsOf 23 = .ok (.goto 14, 3) := by decide +kernel
theorem d_K_readsOf_26 : decode b_K_readsOf 26 = .ok (.aload_n 0, 1) := by decide +kernel
theorem d_K_readsOf_27 : decode b_K_readsOf 27 = .ok (.iload_n 2, 1) := by decide +kernel
theorem d_K_readsOf_28 : decode b_K_readsOf 28 = .ok (.invokevirtual 100, 3) := by decide +kernel
theorem d_K_readsOf_31 : decode b_K_readsOf 31 = .ok (.aload_n 0, 1) := by decide +kernel
theorem d_K_readsOf_32 : decode b_K_readsOf 32 = .ok (.iload_n 2, 1) := by decide +kernel
theorem d_K_readsOf_33 : decode b_K_readsOf 33 = .ok (.invokevirtual 103, 3) := by decide +kernel
theorem d_K_readsOf_36 : decode b_K_readsOf 36 = .ok (.lor, 1) := by decide +kernel
theorem d_K_readsOf_37 : decode b_K_readsOf 37 = .ok (.lreturn, 1) := by decide +kernel
theorem d_K_readsOfSum_0 : decode b_K_readsOfSum 0 = .ok (.aload_n 0, 1) := by decide +kernel
theorem d_K_readsOfSum_1 : decode b_K_readsOfSum 1 = .ok (.aload_n 0, 1) := by decide +kernel
theorem d_K_readsOfSum_2 : decode b_K_readsOfSum 2 = .ok (.getfield 25, 3) := by decide +kernel
theorem d_K_readsOfSum_5 : decode b_K_readsOfSum 5 = .ok (.getfield 120, 3) := by decide +kernel
theorem d_K_readsOfSum_8 : decode b_K_readsOfSum 8 = .ok (.iconst 0, 1) := by decide +kernel
theorem d_K_readsOfSum_9 : decode b_K_readsOfSum 9 = .ok (.invokevirtual 109, 3) := by decide +kernel
theorem d_K_readsOfSum_12 : decode b_K_readsOfSum 12 = .ok (.aload_n 0, 1) := by decide +kernel
theorem d_K_readsOfSum_13 : decode b_K_readsOfSum 13 = .ok (.getfield 45, 3) := by decide +kernel
theorem d_K_readsOfSum_16 : decode b_K_readsOfSum 16 = .ok (.invokestatic 112, 3) := by decide +kernel
theorem d_K_readsOfSum_19 : decode b_K_readsOfSum 19 = .ok (.lstore_n 1, 1) := by decide +kernel
theorem d_K_readsOfSum_20 : decode b_K_readsOfSum 20 = .ok (.aload_n 0, 1) := by decide +kernel
theorem d_K_readsOfSum_21 : decode b_K_readsOfSum 21 = .ok (.getfield 60, 3) := by decide +kernel
theorem d_K_readsOfSum_24 : decode b_K_readsOfSum 24 = .ok (.istore_n 3, 1) := by decide +kernel
theorem d_K_readsOfSum_25 : decode b_K_readsOfSum 25 = .ok (.iload_n 3, 1) := by decide +kernel
theorem d_K_readsOfSum_26 : decode b_K_readsOfSum 26 = .ok (.aload_n 0, 1) := by decide +kernel
theorem d_K_readsOfSum_27 : decode b_K_readsOfSum 27 = .ok (.getfield 66, 3) := by decide +kernel
theorem d_K_readsOfSum_30 : decode b_K_readsOfSum 30 = .ok (.if_icmp .ge 37, 3) := by decide +kernel
theorem d_K_readsOfSum_33 : decode b_K_readsOfSum 33 = .ok (.lload_n 1, 1) := by decide +kernel
theorem d_K_readsOfSum_34 : decode b_K_readsOfSum 34 = .ok (.aload_n 0, 1) := by decide +kernel
theorem d_K_readsOfSum_35 : decode b_K_readsOfSum 35 = .ok (.iload_n 3, 1) := by decide +kernel
theorem d_K_readsOfSum_36 : decode b_K_readsOfSum 36 = .ok (.invokevirtual 100, 3) := by decide +kernel
theorem d_K_readsOfSum_39 : decode b_K_readsOfSum 39 = .ok (.aload_n 0, 1) := by decide +kernel
theorem d_K_readsOfSum_40 : decode b_K_readsOfSum 40 = .ok (.aload_n 0, 1) := by decide +kernel
theorem d_K_readsOfSum_41 : decode b_K_readsOfSum 41 = .ok (.getfield 25, 3) := by decide +kernel
theorem d_K_readsOfSum_44 : decode b_K_readsOfSum 44 = .ok (.getfield 106, 3) := by decide +kernel
theorem d_K_readsOfSum_47 : decode b_K_readsOfSum 47 = .ok (.iload_n 3, 1) := by decide +kernel
theorem d_K_readsOfSum_48 : decode b_K_readsOfSum 48 = .ok (.invokevirtual 109, 3) := by decide +kernel
theorem d_K_readsOfSum_51 : decode b_K_readsOfSum 51 = .ok (.aload_n 0, 1) := by decide +kernel
theorem d_K_readsOfSum_52 : decode b_K_readsOfSum 52 = .ok (.getfield 45, 3) := by decide +kernel
theorem d_K_readsOfSum_55 : decode b_K_readsOfSum 55 = .ok (.invokestatic 112, 3) := by decide +kernel
theorem d_K_readsOfSum_58 : decode b_K_readsOfSum 58 = .ok (.lor, 1) := by decide +kernel
theorem d_K_readsOfSum_59 : decode b_K_readsOfSum 59 = .ok (.lor, 1) := by decide +kernel
theorem d_K_readsOfSum_60 : decode b_K_readsOfSum 60 = .ok (.lstore_n 1, 1) := by decide +kernel
theorem d_K_readsOfSum_61 : decode b_K_readsOfSum 61 = .ok (.iinc 3 1, 3) := by decide +kernel
theorem d_K_readsOfSum_64 : decode b_K_readsOfSum 64 = .ok (.goto (-39), 3) := by decide +kernel
theorem d_K_readsOfSum_67 : decode b_K_readsOfSum 67 = .ok (.lload_n 1, 1) := by decide +kernel
theorem d_K_readsOfSum_68 : decode b_K_readsOfSum 68 = .ok (.lreturn, 1) := by decide +kernel
theorem d_K_maskByte_0 : decode b_K_maskByte 0 = .ok (.aload_n 0, 1) := by decide +kernel
theorem d_K_maskByte_1 : decode b_K_maskByte 1 = .ok (.getfield 25, 3) := by decide +kernel
theorem d_K_maskByte_4 : decode b_K_maskByte 4 = .ok (.getfield 126, 3) := by decide +kernel
theorem d_K_maskByte_7 : decode b_K_maskByte 7 = .ok (.ifCond .eq 12, 3) := by decide +kernel
theorem d_K_maskByte_10 : decode b_K_maskByte 10 = .ok (.lconst 1, 1) := by decide +kernel
theorem d_K_maskByte_11 : decode b_K_maskByte 11 = .ok (.iload_n 1, 1) := by decide +kernel
theorem d_K_maskByte_12 : decode b_K_maskByte 12 = .ok (.bipush 8, 2) := by decide +kernel
theorem d_K_maskByte_14 : decode b_K_maskByte 14 = .ok (.idiv, 1) := by decide +kernel
theorem d_K_maskByte_15 : decode b_K_maskByte 15 = .ok (.lshl, 1) := by decide +kernel
theorem d_K_maskByte_16 : decode b_K_maskByte 16 = .ok (.goto 4, 3) := by decide +kernel
theorem d_K_maskByte_19 : decode b_K_maskByte 19 = .ok (.lconst 0, 1) := by decide +kernel
theorem d_K_maskByte_20 : decode b_K_maskByte 20 = .ok (.lreturn, 1) := by decide +kernel
theorem d_K_sourcesOf_0 : decode b_K_sourcesOf 0 = .ok (.aload_n 0, 1) := by decide +kernel
theorem d_K_sourcesOf_1 : decode b_K_sourcesOf 1 = .ok (.getfield 25, 3) := by decide +kernel
theorem d_K_sourcesOf_4 : decode b_K_sourcesOf 4 = .ok (.getfield 78, 3) := by decide +kernel
theorem d_K_sourcesOf_7 : decode b_K_sourcesOf 7 = .ok (.tableswitch 200 11 20 #[53, 200, 200, 200, 73, 115, 198, 158, 178, 198], 53) := by decide +kernel
theorem d_K_sourcesOf_60 : decode b_K_sourcesOf 60 = .ok (.aload_n 0, 1) := by decide +kernel
theorem d_K_sourcesOf_61 : decode b_K_sourcesOf 61 = .ok (.aload_n 0, 1) := by decide +kernel
theorem d_K_sourcesOf_62 : decode b_K_sourcesOf 62 = .ok (.getfield 25, 3) := by decide +kernel
theorem d_K_sourcesOf_65 : decode b_K_sourcesOf 65 = .ok (.getfield 106, 3) := by decide +kernel
theorem d_K_sourcesOf_68 : decode b_K_sourcesOf 68 = .ok (.iload_n 1, 1) := by decide +kernel
theorem d_K_sourcesOf_69 : decode b_K_sourcesOf 69 = .ok (.invokevirtual 109, 3) := by decide +kernel
theorem d_K_sourcesOf_72 : decode b_K_sourcesOf 72 = .ok (.aload_n 0, 1) := by decide +kernel
theorem d_K_sourcesOf_73 : decode b_K_sourcesOf 73 = .ok (.getfield 45, 3) := by decide +kernel
theorem d_K_sourcesOf_76 : decode b_K_sourcesOf 76 = .ok (.invokestatic 112, 3) := by decide +kernel
theorem d_K_sourcesOf_79 : decode b_K_sourcesOf 79 = .ok (.lreturn, 1) := by decide +kernel
theorem d_K_sourcesOf_80 : decode b_K_sourcesOf 80 = .ok (.aload_n 0, 1) := by decide +kernel
theorem d_K_sourcesOf_81 : decode b_K_sourcesOf 81 = .ok (.iload_n 1, 1) := by decide +kernel
theorem d_K_sourcesOf_82 : decode b_K_sourcesOf 82 = .ok (.aload_n 0, 1) := by decide +kernel
theorem d_K_sourcesOf_83 : decode b_K_sourcesOf 83 = .ok (.getfield 36, 3) := by decide +kernel
theorem d_K_sourcesOf_86 : decode b_K_sourcesOf 86 = .ok (.iadd, 1) := by decide +kernel
theorem d_K_sourcesOf_87 : decode b_K_sourcesOf 87 = .ok (.invokevirtual 116, 3) := by decide +kernel
theorem d_K_sourcesOf_90 : decode b_K_sourcesOf 90 = .ok (.ifCond .eq 30, 3) := by decide +kernel
theorem d_K_sourcesOf_93 : decode b_K_sourcesOf 93 = .ok (.aload_n 0, 1) := by decide +kernel
theorem d_K_sourcesOf_94 : decode b_K_sourcesOf 94 = .ok (.aload_n 0, 1) := by decide +kernel
theorem d_K_sourcesOf_95 : decode b_K_sourcesOf 95 = .ok (.getfield 25, 3) := by decide +kernel
theorem d_K_sourcesOf_98 : decode b_K_sourcesOf 98 = .ok (.getfield 106, 3) := by decide +kernel
theorem d_K_sourcesOf_101 : decode b_K_sourcesOf 101 = .ok (.iload_n 1, 1) := by decide +kernel
theorem d_K_sourcesOf_102 : decode b_K_sourcesOf 102 = .ok (.aload_n 0, 1) := by decide +kernel
theorem d_K_sourcesOf_103 : decode b_K_sourcesOf 103 = .ok (.getfield 36, 3) := by decide +kernel
theorem d_K_sourcesOf_106 : decode b_K_sourcesOf 106 = .ok (.iadd, 1) := by decide +kernel
theorem d_K_sourcesOf_107 : decode b_K_sourcesOf 107 = .ok (.invokevirtual 109, 3) := by decide +kernel
theorem d_K_sourcesOf_110 : decode b_K_sourcesOf 110 = .ok (.aload_n 0, 1) := by decide +kernel
theorem d_K_sourcesOf_111 : decode b_K_sourcesOf 111 = .ok (.getfield 45, 3) := by decide +kernel
theorem d_K_sourcesOf_114 : decode b_K_sourcesOf 114 = .ok (.invokestatic 112, 3) := by decide +kernel
theorem d_K_sourcesOf_117 : decode b_K_sourcesOf 117 = .ok (.goto 4, 3) := by decide +kernel
theorem d_K_sourcesOf_120 : decode b_K_sourcesOf 120 = .ok (.lconst 0, 1) := by decide +kernel
theorem d_K_sourcesOf_121 : decode b_K_sourcesOf 121 = .ok (.lreturn, 1) := by decide +kernel
theorem d_K_sourcesOf_122 : decode b_K_sourcesOf 122 = .ok (.aload_n 0, 1) := by decide +kernel
theorem d_K_sourcesOf_123 : decode b_K_sourcesOf 123 = .ok (.aload_n 0, 1) := by decide +kernel
theorem d_K_sourcesOf_124 : decode b_K_sourcesOf 124 = .ok (.getfield 25, 3) := by decide +kernel
theorem d_K_sourcesOf_127 : decode b_K_sourcesOf 127 = .ok (.getfield 106, 3) := by decide +kernel
theorem d_K_sourcesOf_130 : decode b_K_sourcesOf 130 = .ok (.iconst 0, 1) := by decide +kernel
theorem d_K_sourcesOf_131 : decode b_K_sourcesOf 131 = .ok (.invokevirtual 109, 3) := by decide +kernel
theorem d_K_sourcesOf_134 : decode b_K_sourcesOf 134 = .ok (.bipush 8, 2) := by decide +kernel
theorem d_K_sourcesOf_136 : decode b_K_sourcesOf 136 = .ok (.aload_n 0, 1) := by decide +kernel
theorem d_K_sourcesOf_137 : decode b_K_sourcesOf 137 = .ok (.getfield 50, 3) := by decide +kernel
theorem d_K_sourcesOf_140 : decode b_K_sourcesOf 140 = .ok (.imul, 1) := by decide +kernel
theorem d_K_sourcesOf_141 : decode b_K_sourcesOf 141 = .ok (.invokestatic 112, 3) := by decide +kernel
theorem d_K_sourcesOf_144 : decode b_K_sourcesOf 144 = .ok (.aload_n 0, 1) := by decide +kernel
theorem d_K_sourcesOf_145 : decode b_K_sourcesOf 145 = .ok (.aload_n 0, 1) := by decide +kernel
theorem d_K_sourcesOf_146 : decode b_K_sourcesOf 146 = .ok (.getfield 25, 3) := by decide +kernel
theorem d_K_sourcesOf_149 : decode b_K_sourcesOf 149 = .ok (.getfield 120, 3) := by decide +kernel
theorem d_K_sourcesOf_152 : decode b_K_sourcesOf 152 = .ok (.iload_n 1, 1) := by decide +kernel
theorem d_K_sourcesOf_153 : decode b_K_sourcesOf 153 = .ok (.invokevirtual 109, 3) := by decide +kernel
theorem d_K_sourcesOf_156 : decode b_K_sourcesOf 156 = .ok (.aload_n 0, 1) := by decide +kernel
theorem d_K_sourcesOf_157 : decode b_K_sourcesOf 157 = .ok (.getfield 45, 3) := by decide +kernel
theorem d_K_sourcesOf_160 : decode b_K_sourcesOf 160 = .ok (.invokestatic 112, 3) := by decide +kernel
theorem d_K_sourcesOf_163 : decode b_K_sourcesOf 163 = .ok (.lor, 1) := by decide +kernel
theorem d_K_sourcesOf_164 : decode b_K_sourcesOf 164 = .ok (.lreturn, 1) := by decide +kernel
theorem d_K_sourcesOf_165 : decode b_K_sourcesOf 165 = .ok (.aload_n 0, 1) := by decide +kernel
theorem d_K_sourcesOf_166 : decode b_K_sourcesOf 166 = .ok (.aload_n 0, 1) := by decide +kernel
theorem d_K_sourcesOf_167 : decode b_K_sourcesOf 167 = .ok (.getfield 25, 3) := by decide +kernel
theorem d_K_sourcesOf_170 : decode b_K_sourcesOf 170 = .ok (.getfield 123, 3) := by decide +kernel
theorem d_K_sourcesOf_173 : decode b_K_sourcesOf 173 = .ok (.iload_n 1, 1) := by decide +kernel
theorem d_K_sourcesOf_174 : decode b_K_sourcesOf 174 = .ok (.invokevirtual 109, 3) := by decide +kernel
theorem d_K_sourcesOf_177 : decode b_K_sourcesOf 177 = .ok (.aload_n 0, 1) := by decide +kernel
theorem d_K_sourcesOf_178 : decode b_K_sourcesOf 178 = .ok (.getfield 45, 3) := by decide +kernel
theorem d_K_sourcesOf_181 : decode b_K_sourcesOf 181 = .ok (.invokestatic 112, 3) := by decide +kernel
theorem d_K_sourcesOf_184 : decode b_K_sourcesOf 184 = .ok (.lreturn, 1) := by decide +kernel
theorem d_K_sourcesOf_185 : decode b_K_sourcesOf 185 = .ok (.aload_n 0, 1) := by decide +kernel
theorem d_K_sourcesOf_186 : decode b_K_sourcesOf 186 = .ok (.aload_n 0, 1) := by decide +kernel
theorem d_K_sourcesOf_187 : decode b_K_sourcesOf 187 = .ok (.getfield 25, 3) := by decide +kernel
theorem d_K_sourcesOf_190 : decode b_K_sourcesOf 190 = .ok (.getfield 120, 3) := by decide +kernel
theorem d_K_sourcesOf_193 : decode b_K_sourcesOf 193 = .ok (.iload_n 1, 1) := by decide +kernel
theorem d_K_sourcesOf_194 : decode b_K_sourcesOf 194 = .ok (.invokevirtual 109, 3) := by decide +kernel
theorem d_K_sourcesOf_197 : decode b_K_sourcesOf 197 = .ok (.aload_n 0, 1) := by decide +kernel
theorem d_K_sourcesOf_198 : decode b_K_sourcesOf 198 = .ok (.getfield 45, 3) := by decide +kernel
theorem d_K_sourcesOf_201 : decode b_K_sourcesOf 201 = .ok (.invokestatic 112, 3) := by decide +kernel
theorem d_K_sourcesOf_204 : decode b_K_sourcesOf 204 = .ok (.lreturn, 1) := by decide +kernel
theorem d_K_sourcesOf_205 : decode b_K_sourcesOf 205 = .ok (.lconst 0, 1) := by decide +kernel
theorem d_K_sourcesOf_206 : decode b_K_sourcesOf 206 = .ok (.lreturn, 1) := by decide +kernel
theorem d_K_sourcesOf_207 : decode b_K_sourcesOf 207 = .ok (.aload_n 0, 1) := by decide +kernel
theorem d_K_sourcesOf_208 : decode b_K_sourcesOf 208 = .ok (.aload_n 0, 1) := by decide +kernel
theorem d_K_sourcesOf_209 : decode b_K_sourcesOf 209 = .ok (.getfield 25, 3) := by decide +kernel
theorem d_K_sourcesOf_212 : decode b_K_sourcesOf 212 = .ok (.getfield 106, 3) := by decide +kernel
theorem d_K_sourcesOf_215 : decode b_K_sourcesOf 215 = .ok (.iload_n 1, 1) := by decide +kernel
theorem d_K_sourcesOf_216 : decode b_K_sourcesOf 216 = .ok (.invokevirtual 109, 3) := by decide +kernel
theorem d_K_sourcesOf_219 : decode b_K_sourcesOf 219 = .ok (.aload_n 0, 1) := by decide +kernel
theorem d_K_sourcesOf_220 : decode b_K_sourcesOf 220 = .ok (.getfield 45, 3) := by decide +kernel
theorem d_K_sourcesOf_223 : decode b_K_sourcesOf 223 = .ok (.invokestatic 112, 3) := by decide +kernel
theorem d_K_sourcesOf_226 : decode b_K_sourcesOf 226 = .ok (.aload_n 0, 1) := by decide +kernel
theorem d_K_sourcesOf_227 : decode b_K_sourcesOf 227 = .ok (.aload_n 0, 1) := by decide +kernel
theorem d_K_sourcesOf_228 : decode b_K_sourcesOf 228 = .ok (.getfield 25, 3) := by decide +kernel
theorem d_K_sourcesOf_231 : decode b_K_sourcesOf 231 = .ok (.getfield 120, 3) := by decide +kernel
theorem d_K_sourcesOf_234 : decode b_K_sourcesOf 234 = .ok (.iload_n 1, 1) := by decide +kernel
theorem d_K_sourcesOf_235 : decode b_K_sourcesOf 235 = .ok (.invokevirtual 109, 3) := by decide +kernel
theorem d_K_sourcesOf_238 : decode b_K_sourcesOf 238 = .ok (.aload_n 0, 1) := by decide +kernel
theorem d_K_sourcesOf_239 : decode b_K_sourcesOf 239 = .ok (.getfield 45, 3) := by decide +kernel
theorem d_K_sourcesOf_242 : decode b_K_sourcesOf 242 = .ok (.invokestatic 112, 3) := by decide +kernel
theorem d_K_sourcesOf_245 : decode b_K_sourcesOf 245 = .ok (.lor, 1) := by decide +kernel
theorem d_K_sourcesOf_246 : decode b_K_sourcesOf 246 = .ok (.lreturn, 1) := by decide +kernel
theorem d_K_isInGroup_0 : decode b_K_isInGroup 0 = .ok (.iload_n 1, 1) := by decide +kernel
theorem d_K_isInGroup_1 : decode b_K_isInGroup 1 = .ok (.ifCond .lt 15, 3) := by decide +kernel
theorem d_K_isInGroup_4 : decode b_K_isInGroup 4 = .ok (.iload_n 1, 1) := by decide +kernel
theorem d_K_isInGroup_5 : decode b_K_isInGroup 5 = .ok (.aload_n 0, 1) := by decide +kernel
theorem d_K_isInGroup_6 : decode b_K_isInGroup 6 = .ok (.getfield 55, 3) := by decide +kernel
theorem d_K_isInGroup_9 : decode b_K_isInGroup 9 = .ok (.if_icmp .ge 7, 3) := by decide +kernel
theorem d_K_isInGroup_12 : decode b_K_isInGroup 12 = .ok (.iconst 1, 1) := by decide +kernel
theorem d_K_isInGroup_13 : decode b_K_isInGroup 13 = .ok (.goto 4, 3) := by decide +kernel
theorem d_K_isInGroup_16 : decode b_K_isInGroup 16 = .ok (.iconst 0, 1) := by decide +kernel
theorem d_K_isInGroup_17 : decode b_K_isInGroup 17 = .ok (.ireturn, 1) := by decide +kernel
theorem d_K_doNextStep_0 : decode b_K_doNextStep 0 = .ok (.aload_n 0, 1) := by decide +kernel
theorem d_K_doNextStep_1 : decode b_K_doNextStep 1 = .ok (.getfield 60, 3) := by decide +kernel
theorem d_K_doNextStep_4 : decode b_K_doNextStep 4 = .ok (.aload_n 0, 1) := by decide +kernel
theorem d_K_doNextStep_5 : decode b_K_doNextStep 5 = .ok (.getfield 69, 3) := by decide +kernel
theorem d_K_doNextStep_8 : decode b_K_doNextStep 8 = .ok (.iadd, 1) := by decide +kernel
theorem d_K_doNextStep_9 : decode b_K_doNextStep 9 = .ok (.istore_n 1, 1) := by decide +kernel
theorem d_K_doNextStep_10 : decode b_K_doNextStep 10 = .ok (.aload_n 0, 1) := by decide +kernel
theorem d_K_doNextStep_11 : decode b_K_doNextStep 11 = .ok (.dup, 1) := by decide +kernel
theorem d_K_doNextStep_12 : decode b_K_doNextStep 12 = .ok (.getfield 69, 3) := by decide +kernel
theorem d_K_doNextStep_15 : decode b_K_doNextStep 15 = .ok (.iconst 1, 1) := by decide +kernel
theorem d_K_doNextStep_16 : decode b_K_doNextStep 16 = .ok (.iadd, 1) := by decide +kernel
theorem d_K_doNextStep_17 : decode b_K_doNextStep 17 = .ok (.putfield 69, 3) := by decide +kernel
theorem d_K_doNextStep_20 : decode b_K_doNextStep 20 = .ok (.aload_n 0, 1) := by decide +kernel
theorem d_K_doNextStep_21 : decode b_K_doNextStep 21 = .ok (.getfield 25, 3) := by decide +kernel
theorem d_K_doNextStep_24 : decode b_K_doNextStep 24 = .ok (.getfield 78, 3) := by decide +kernel
theorem d_K_doNextStep_27 : decode b_K_doNextStep 27 = .ok (.bipush 14, 2) := by decide +kernel
theorem d_K_doNextStep_29 : decode b_K_doNextStep 29 = .ok (.if_icmp .eq 12, 3) := by decide +kernel
theorem d_K_doNextStep_32 : decode b_K_doNextStep 32 = .ok (.aload_n 0, 1) := by decide +kernel
theorem d_K_doNextStep_33 : decode b_K_doNextStep 33 = .ok (.iload_n 1, 1) := by decide +kernel
theorem d_K_doNextStep_34 : decode b_K_doNextStep 34 = .ok (.invokevirtual 134, 3) := by decide +kernel
theorem d_K_doNextStep_37 : decode b_K_doNextStep 37 = .ok (.ifCond .ne 4, 3) := by decide +kernel
theorem d_K_doNextStep_40 : decode b_K_doNextStep 40 = .ok (.return_, 1) := by decide +kernel
theorem d_K_doNextStep_41 : decode b_K_doNextStep 41 = .ok (.aload_n 0, 1) := by decide +kernel
theorem d_K_doNextStep_42 : decode b_K_doNextStep 42 = .ok (.getfield 25, 3) := by decide +kernel
theorem d_K_doNextStep_45 : decode b_K_doNextStep 45 = .ok (.getfield 78, 3) := by decide +kernel
theorem d_K_doNextStep_48 : decode b_K_doNextStep 48 = .ok (.tableswitch 162 12 18 #[51, 91, 44, 162, 162, 162, 131], 44) := by decide +kernel
theorem d_K_doNextStep_92 : decode b_K_doNextStep 92 = .ok (.aload_n 0, 1) := by decide +kernel
theorem d_K_doNextStep_93 : decode b_K_doNextStep 93 = .ok (.invokevirtual 137, 3) := by decide +kernel
theorem d_K_doNextStep_96 : decode b_K_doNextStep 96 = .ok (.goto 142, 3) := by decide +kernel
theorem d_K_doNextStep_99 : decode b_K_doNextStep 99 = .ok (.aload_n 0, 1) := by decide +kernel
theorem d_K_doNextStep_100 : decode b_K_doNextStep 100 = .ok (.iload_n 1, 1) := by decide +kernel
theorem d_K_doNextStep_101 : decode b_K_doNextStep 101 = .ok (.aload_n 0, 1) := by decide +kernel
theorem d_K_doNextStep_102 : decode b_K_doNextStep 102 = .ok (.aload_n 0, 1) := by decide +kernel
theorem d_K_doNextStep_103 : decode b_K_doNextStep 103 = .ok (.getfield 25, 3) := by decide +kernel
theorem d_K_doNextStep_106 : decode b_K_doNextStep 106 = .ok (.getfield 106, 3) := by decide +kernel
theorem d_K_doNextStep_109 : decode b_K_doNextStep 109 = .ok (.iload_n 1, 1) := by decide +kernel
theorem d_K_doNextStep_110 : decode b_K_doNextStep 110 = .ok (.invokevirtual 140, 3) := by decide +kernel
theorem d_K_doNextStep_113 : decode b_K_doNextStep 113 = .ok (.aload_n 0, 1) := by decide +kernel
theorem d_K_doNextStep_114 : decode b_K_doNextStep 114 = .ok (.aload_n 0, 1) := by decide +kernel
theorem d_K_doNextStep_115 : decode b_K_doNextStep 115 = .ok (.getfield 25, 3) := by decide +kernel
theorem d_K_doNextStep_118 : decode b_K_doNextStep 118 = .ok (.getfield 120, 3) := by decide +kernel
theorem d_K_doNextStep_121 : decode b_K_doNextStep 121 = .ok (.iload_n 1, 1) := by decide +kernel
theorem d_K_doNextStep_122 : decode b_K_doNextStep 122 = .ok (.invokevirtual 140, 3) := by decide +kernel
theorem d_K_doNextStep_125 : decode b_K_doNextStep 125 = .ok (.if_icmp .ge 7, 3) := by decide +kernel
theorem d_K_doNextStep_128 : decode b_K_doNextStep 128 = .ok (.iconst 1, 1) := by decide +kernel
theorem d_K_doNextStep_129 : decode b_K_doNextStep 129 = .ok (.goto 4, 3) := by decide +kernel
theorem d_K_doNextStep_132 : decode b_K_doNextStep 132 = .ok (.iconst 0, 1) := by decide +kernel
theorem d_K_doNextStep_133 : decode b_K_doNextStep 133 = .ok (.invokevirtual 143, 3) := by decide +kernel
theorem d_K_doNextStep_136 : decode b_K_doNextStep 136 = .ok (.goto 102, 3) := by decide +kernel
theorem d_K_doNextStep_139 : decode b_K_doNextStep 139 = .ok (.aload_n 0, 1) := by decide +kernel
theorem d_K_doNextStep_140 : decode b_K_doNextStep 140 = .ok (.getfield 9, 3) := by decide +kernel
theorem d_K_doNextStep_143 : decode b_K_doNextStep 143 = .ok (.bipush 8, 2) := by decide +kernel
theorem d_K_doNextStep_145 : decode b_K_doNextStep 145 = .ok (.aload_n 0, 1) := by decide +kernel
theorem d_K_doNextStep_146 : decode b_K_doNextStep 146 = .ok (.getfield 25, 3) := by decide +kernel
theorem d_K_doNextStep_149 : decode b_K_doNextStep 149 = .ok (.getfield 123, 3) := by decide +kernel
theorem d_K_doNextStep_152 : decode b_K_doNextStep 152 = .ok (.imul, 1) := by decide +kernel
theorem d_K_doNextStep_153 : decode b_K_doNextStep 153 = .ok (.iconst 2, 1) := by decide +kernel
theorem d_K_doNextStep_154 : decode b_K_doNextStep 154 = .ok (.iload_n 1, 1) := by decide +kernel
theorem d_K_doNextStep_155 : decode b_K_doNextStep 155 = .ok (.imul, 1) := by decide +kernel
theorem d_K_doNextStep_156 : decode b_K_doNextStep 156 = .ok (.aload_n 0, 1) := by decide +kernel
theorem d_K_doNextStep_157 : decode b_K_doNextStep 157 = .ok (.getfield 45, 3) := by decide +kernel
theorem d_K_doNextStep_160 : decode b_K_doNextStep 160 = .ok (.imul, 1) := by decide +kernel
theorem d_K_doNextStep_161 : decode b_K_doNextStep 161 = .ok (.iadd, 1) := by decide +kernel
theorem d_K_doNextStep_162 : decode b_K_doNextStep 162 = .ok (.iconst 2, 1) := by decide +kernel
theorem d_K_doNextStep_163 : decode b_K_doNextStep 163 = .ok (.aload_n 0, 1) := by decide +kernel
theorem d_K_doNextStep_164 : decode b_K_doNextStep 164 = .ok (.getfield 45, 3) := by decide +kernel
theorem d_K_doNextStep_167 : decode b_K_doNextStep 167 = .ok (.imul, 1) := by decide +kernel
theorem d_K_doNextStep_168 : decode b_K_doNextStep 168 = .ok (.aload_n 0, 1) := by decide +kernel
theorem d_K_doNextStep_169 : decode b_K_doNextStep 169 = .ok (.iload_n 1, 1) := by decide +kernel
theorem d_K_doNextStep_170 : decode b_K_doNextStep 170 = .ok (.invokevirtual 147, 3) := by decide +kernel
theorem d_K_doNextStep_173 : decode b_K_doNextStep 173 = .ok (.invokevirtual 151, 3) := by decide +kernel
theorem d_K_doNextStep_176 : decode b_K_doNextStep 176 = .ok (.goto 62, 3) := by decide +kernel
theorem d_K_doNextStep_179 : decode b_K_doNextStep 179 = .ok (.aload_n 0, 1) := by decide +kernel
theorem d_K_doNextStep_180 : decode b_K_doNextStep 180 = .ok (.getfield 15, 3) := by decide +kernel
theorem d_K_doNextStep_183 : decode b_K_doNextStep 183 = .ok (.aload_n 0, 1) := by decide +kernel
theorem d_K_doNextStep_184 : decode b_K_doNextStep 184 = .ok (.iload_n 1, 1) := by decide +kernel
theorem d_K_doNextStep_185 : decode b_K_doNextStep 185 = .ok (.invokevirtual 157, 3) := by decide +kernel
theorem d_K_doNextStep_188 : decode b_K_doNextStep 188 = .ok (.aload_n 0, 1) := by decide +kernel
theorem d_K_doNextStep_189 : decode b_K_doNextStep 189 = .ok (.getfield 45, 3) := by decide +kernel
theorem d_K_doNextStep_192 : decode b_K_doNextStep 192 = .ok (.aload_n 0, 1) := by decide +kernel
theorem d_K_doNextStep_193 : decode b_K_doNextStep 193 = .ok (.aload_n 0, 1) := by decide +kernel
theorem d_K_doNextStep_194 : decode b_K_doNextStep 194 = .ok (.getfield 25, 3) := by decide +kernel
theorem d_K_doNextStep_197 : decode b_K_doNextStep 197 = .ok (.getfield 123, 3) := by decide +kernel
theorem d_K_doNextStep_200 : decode b_K_doNextStep 200 = .ok (.iload_n 1, 1) := by decide +kernel
theorem d_K_doNextStep_201 : decode b_K_doNextStep 201 = .ok (.invokevirtual 140, 3) := by decide +kernel
theorem d_K_doNextStep_204 : decode b_K_doNextStep 204 = .ok (.invokevirtual 151, 3) := by decide +kernel
theorem d_K_doNextStep_207 : decode b_K_doNextStep 207 = .ok (.goto 31, 3) := by decide +kernel
theorem d_K_doNextStep_210 : decode b_K_doNextStep 210 = .ok (.aload_n 0, 1) := by decide +kernel
theorem d_K_doNextStep_211 : decode b_K_doNextStep 211 = .ok (.getfield 9, 3) := by decide +kernel
theorem d_K_doNextStep_214 : decode b_K_doNextStep 214 = .ok (.aload_n 0, 1) := by decide +kernel
theorem d_K_doNextStep_215 : decode b_K_doNextStep 215 = .ok (.aload_n 0, 1) := by decide +kernel
theorem d_K_doNextStep_216 : decode b_K_doNextStep 216 = .ok (.getfield 25, 3) := by decide +kernel
theorem d_K_doNextStep_219 : decode b_K_doNextStep 219 = .ok (.getfield 123, 3) := by decide +kernel
theorem d_K_doNextStep_222 : decode b_K_doNextStep 222 = .ok (.iload_n 1, 1) := by decide +kernel
theorem d_K_doNextStep_223 : decode b_K_doNextStep 223 = .ok (.invokevirtual 109, 3) := by decide +kernel
theorem d_K_doNextStep_226 : decode b_K_doNextStep 226 = .ok (.aload_n 0, 1) := by decide +kernel
theorem d_K_doNextStep_227 : decode b_K_doNextStep 227 = .ok (.getfield 45, 3) := by decide +kernel
theorem d_K_doNextStep_230 : decode b_K_doNextStep 230 = .ok (.aload_n 0, 1) := by decide +kernel
theorem d_K_doNextStep_231 : decode b_K_doNextStep 231 = .ok (.iload_n 1, 1) := by decide +kernel
theorem d_K_doNextStep_232 : decode b_K_doNextStep 232 = .ok (.invokevirtual 147, 3) := by decide +kernel
theorem d_K_doNextStep_235 : decode b_K_doNextStep 235 = .ok (.invokevirtual 151, 3) := by decide +kernel
theorem d_K_doNextStep_238 : decode b_K_doNextStep 238 = .ok (.return_, 1) := by decide +kernel
theorem d_K_isWorkedOn_0 : decode b_K_isWorkedOn 0 = .ok (.aload_n 0, 1) := by decide +kernel
theorem d_K_isWorkedOn_1 : decode b_K_isWorkedOn 1 = .ok (.getfield 25, 3) := by decide +kernel
theorem d_K_isWorkedOn_4 : decode b_K_isWorkedOn 4 = .ok (.getfield 126, 3) := by decide +kernel
theorem d_K_isWorkedOn_7 : decode b_K_isWorkedOn 7 = .ok (.ifCond .eq 26, 3) := by decide +kernel
theorem d_K_isWorkedOn_10 : decode b_K_isWorkedOn 10 = .ok (.aload_n 0, 1) := by decide +kernel
theorem d_K_isWorkedOn_11 : decode b_K_isWorkedOn 11 = .ok (.getfield 9, 3) := by decide +kernel
theorem d_K_isWorkedOn_14 : decode b_K_isWorkedOn 14 = .ok (.iload_n 1, 1) := by decide +kernel
theorem d_K_isWorkedOn_15 : decode b_K_isWorkedOn 15 = .ok (.bipush 8, 2) := by decide +kernel
theorem d_K_isWorkedOn_17 : decode b_K_isWorkedOn 17 = .ok (.idiv, 1) := by decide +kernel
theorem d_K_isWorkedOn_18 : decode b_K_isWorkedOn 18 = .ok (.iconst 1, 1) := by decide +kernel
theorem d_K_isWorkedOn_19 : decode b_K_isWorkedOn 19 = .ok (.invokevirtual 160, 3) := by decide +kernel
theorem d_K_isWorkedOn_22 : decode b_K_isWorkedOn 22 = .ok (.iload_n 1, 1) := by decide +kernel
theorem d_K_isWorkedOn_23 : decode b_K_isWorkedOn 23 = .ok (.bipush 8, 2) := by decide +kernel
theorem d_K_isWorkedOn_25 : decode b_K_isWorkedOn 25 = .ok (.irem, 1) := by decide +kernel
theorem d_K_isWorkedOn_26 : decode b_K_isWorkedOn 26 = .ok (.ishr, 1) := by decide +kernel
theorem d_K_isWorkedOn_27 : decode b_K_isWorkedOn 27 = .ok (.iconst 1, 1) := by decide +kernel
theorem d_K_isWorkedOn_28 : decode b_K_isWorkedOn 28 = .ok (.iand, 1) := by decide +kernel
theorem d_K_isWorkedOn_29 : decode b_K_isWorkedOn 29 = .ok (.iconst 1, 1) := by decide +kernel
theorem d_K_isWorkedOn_30 : decode b_K_isWorkedOn 30 = .ok (.if_icmp .ne 7, 3) := by decide +kernel
theorem d_K_isWorkedOn_33 : decode b_K_isWorkedOn 33 = .ok (.iconst 1, 1) := by decide +kernel
theorem d_K_isWorkedOn_34 : decode b_K_isWorkedOn 34 = .ok (.goto 4, 3) := by decide +kernel
theorem d_K_isWorkedOn_37 : decode b_K_isWorkedOn 37 = .ok (.iconst 0, 1) := by decide +kernel
theorem d_K_isWorkedOn_38 : decode b_K_isWorkedOn 38 = .ok (.ireturn, 1) := by decide +kernel
theorem d_K_writeSum_0 : decode b_K_writeSum 0 = .ok (.aload_n 0, 1) := by decide +kernel
theorem d_K_writeSum_1 : decode b_K_writeSum 1 = .ok (.aload_n 0, 1) := by decide +kernel
theorem d_K_writeSum_2 : decode b_K_writeSum 2 = .ok (.getfield 25, 3) := by decide +kernel
theorem d_K_writeSum_5 : decode b_K_writeSum 5 = .ok (.getfield 120, 3) := by decide +kernel
theorem d_K_writeSum_8 : decode b_K_writeSum 8 = .ok (.iconst 0, 1) := by decide +kernel
theorem d_K_writeSum_9 : decode b_K_writeSum 9 = .ok (.invokevirtual 140, 3) := by decide +kernel
theorem d_K_writeSum_12 : decode b_K_writeSum 12 = .ok (.istore_n 1, 1) := by decide +kernel
theorem d_K_writeSum_13 : decode b_K_writeSum 13 = .ok (.iconst 0, 1) := by decide +kernel
theorem d_K_writeSum_14 : decode b_K_writeSum 14 = .ok (.istore_n 2, 1) := by decide +kernel
theorem d_K_writeSum_15 : decode b_K_writeSum 15 = .ok (.aload_n 0, 1) := by decide +kernel
theorem d_K_writeSum_16 : decode b_K_writeSum 16 = .ok (.getfield 60, 3) := by decide +kernel
theorem d_K_writeSum_19 : decode b_K_writeSum 19 = .ok (.istore_n 3, 1) := by decide +kernel
theorem d_K_writeSum_20 : decode b_K_writeSum 20 = .ok (.iload_n 3, 1) := by decide +kernel
theorem d_K_writeSum_21 : decode b_K_writeSum 21 = .ok (.aload_n 0, 1) := by decide +kernel
theorem d_K_writeSum_22 : decode b_K_writeSum 22 = .ok (.getfield 66, 3) := by decide +kernel
theorem d_K_writeSum_25 : decode b_K_writeSum 25 = .ok (.if_icmp .ge 34, 3) := by decide +kernel
theorem d_K_writeSum_28 : decode b_K_writeSum 28 = .ok (.aload_n 0, 1) := by decide +kernel
theorem d_K_writeSum_29 : decode b_K_writeSum 29 = .ok (.iload_n 3, 1) := by decide +kernel
theorem d_K_writeSum_30 : decode b_K_writeSum 30 = .ok (.invokevirtual 134, 3) := by decide +kernel
theorem d_K_writeSum_33 : decode b_K_writeSum 33 = .ok (.ifCond .eq 20, 3) := by decide +kernel
theorem d_K_writeSum_36 : decode b_K_writeSum 36 = .ok (.iload_n 1, 1) := by decide +kernel
theorem d_K_writeSum_37 : decode b_K_writeSum 37 = .ok (.aload_n 0, 1) := by decide +kernel
theorem d_K_writeSum_38 : decode b_K_writeSum 38 = .ok (.aload_n 0, 1) := by decide +kernel
theorem d_K_writeSum_39 : decode b_K_writeSum 39 = .ok (.getfield 25, 3) := by decide +kernel
theorem d_K_writeSum_42 : decode b_K_writeSum 42 = .ok (.getfield 106, 3) := by decide +kernel
theorem d_K_writeSum_45 : decode b_K_writeSum 45 = .ok (.iload_n 3, 1) := by decide +kernel
theorem d_K_writeSum_46 : decode b_K_writeSum 46 = .ok (.invokevirtual 140, 3) := by decide +kernel
theorem d_K_writeSum_49 : decode b_K_writeSum 49 = .ok (.iadd, 1) := by decide +kernel
theorem d_K_writeSum_50 : decode b_K_writeSum 50 = .ok (.istore_n 1, 1) := by decide +kernel
theorem d_K_writeSum_51 : decode b_K_writeSum 51 = .ok (.iconst 1, 1) := by decide +kernel
theorem d_K_writeSum_52 : decode b_K_writeSum 52 = .ok (.istore_n 2, 1) := by decide +kernel
theorem d_K_writeSum_53 : decode b_K_writeSum 53 = .ok (.iinc 3 1, 3) := by decide +kernel
theorem d_K_writeSum_56 : decode b_K_writeSum 56 = .ok (.goto (-36), 3) := by decide +kernel
theorem d_K_writeSum_59 : decode b_K_writeSum 59 = .ok (.iload_n 2, 1) := by decide +kernel
theorem d_K_writeSum_60 : decode b_K_writeSum 60 = .ok (.ifCond .eq 27, 3) := by decide +kernel
theorem d_K_writeSum_63 : decode b_K_writeSum 63 = .ok (.aload_n 0, 1) := by decide +kernel
theorem d_K_writeSum_64 : decode b_K_writeSum 64 = .ok (.getfield 9, 3) := by decide +kernel
theorem d_K_writeSum_67 : decode b_K_writeSum 67 = .ok (.aload_n 0, 1) := by decide +kernel
theorem d_K_writeSum_68 : decode b_K_writeSum 68 = .ok (.aload_n 0, 1) := by decide +kernel
theorem d_K_writeSum_69 : decode b_K_writeSum 69 = .ok (.getfield 25, 3) := by decide +kernel
theorem d_K_writeSum_72 : decode b_K_writeSum 72 = .ok (.getfield 123, 3) := by decide +kernel
theorem d_K_writeSum_75 : decode b_K_writeSum 75 = .ok (.iconst 0, 1) := by decide +kernel
theorem d_K_writeSum_76 : decode b_K_writeSum 76 = .ok (.invokevirtual 109, 3) := by decide +kernel
theorem d_K_writeSum_79 : decode b_K_writeSum 79 = .ok (.aload_n 0, 1) := by decide +kernel
theorem d_K_writeSum_80 : decode b_K_writeSum 80 = .ok (.getfield 45, 3) := by decide +kernel
theorem d_K_writeSum_83 : decode b_K_writeSum 83 = .ok (.iload_n 1, 1) := by decide +kernel
theorem d_K_writeSum_84 : decode b_K_writeSum 84 = .ok (.invokevirtual 151, 3) := by decide +kernel
theorem d_K_writeSum_87 : decode b_K_writeSum 87 = .ok (.return_, 1) := by decide +kernel
theorem d_K_element_0 : decode b_K_element 0 = .ok (.aload_n 0, 1) := by decide +kernel
theorem d_K_element_1 : decode b_K_element 1 = .ok (.getfield 9, 3) := by decide +kernel
theorem d_K_element_4 : decode b_K_element 4 = .ok (.aload_n 0, 1) := by decide +kernel
theorem d_K_element_5 : decode b_K_element 5 = .ok (.iload_n 1, 1) := by decide +kernel
theorem d_K_element_6 : decode b_K_element 6 = .ok (.iload_n 2, 1) := by decide +kernel
theorem d_K_element_7 : decode b_K_element 7 = .ok (.invokevirtual 109, 3) := by decide +kernel
theorem d_K_element_10 : decode b_K_element 10 = .ok (.aload_n 0, 1) := by decide +kernel
theorem d_K_element_11 : decode b_K_element 11 = .ok (.getfield 45, 3) := by decide +kernel
theorem d_K_element_14 : decode b_K_element 14 = .ok (.invokevirtual 166, 3) := by decide +kernel
theorem d_K_element_17 : decode b_K_element 17 = .ok (.ireturn, 1) := by decide +kernel
theorem d_K_writeMaskBit_0 : decode b_K_writeMaskBit 0 = .ok (.bipush 8, 2) := by decide +kernel
theorem d_K_writeMaskBit_2 : decode b_K_writeMaskBit 2 = .ok (.aload_n 0, 1) := by decide +kernel
theorem d_K_writeMaskBit_3 : decode b_K_writeMaskBit 3 = .ok (.getfield 25, 3) := by decide +kernel
theorem d_K_writeMaskBit_6 : decode b_K_writeMaskBit 6 = .ok (.getfield 123, 3) := by decide +kernel
theorem d_K_writeMaskBit_9 : decode b_K_writeMaskBit 9 = .ok (.imul, 1) := by decide +kernel
theorem d_K_writeMaskBit_10 : decode b_K_writeMaskBit 10 = .ok (.iload_n 1, 1) := by decide +kernel
theorem d_K_writeMaskBit_11 : decode b_K_writeMaskBit 11 = .ok (.bipush 8, 2) := by decide +kernel
theorem d_K_writeMaskBit_13 : decode b_K_writeMaskBit 13 = .ok (.idiv, 1) := by decide +kernel
theorem d_K_writeMaskBit_14 : decode b_K_writeMaskBit 14 = .ok (.iadd, 1) := by decide +kernel
theorem d_K_writeMaskBit_15 : decode b_K_writeMaskBit 15 = .ok (.istore_n 3, 1) := by decide +kernel
theorem d_K_writeMaskBit_16 : decode b_K_writeMaskBit 16 = .ok (.iconst 1, 1) := by decide +kernel
theorem d_K_writeMaskBit_17 : decode b_K_writeMaskBit 17 = .ok (.iload_n 1, 1) := by decide +kernel
theorem d_K_writeMaskBit_18 : decode b_K_writeMaskBit 18 = .ok (.bipush 8, 2) := by decide +kernel
theorem d_K_writeMaskBit_20 : decode b_K_writeMaskBit 20 = .ok (.irem, 1) := by decide +kernel
theorem d_K_writeMaskBit_21 : decode b_K_writeMaskBit 21 = .ok (.ishl, 1) := by decide +kernel
theorem d_K_writeMaskBit_22 : decode b_K_writeMaskBit 22 = .ok (.istore 4, 2) := by decide +kernel
theorem d_K_writeMaskBit_24 : decode b_K_writeMaskBit 24 = .ok (.aload_n 0, 1) := by decide +kernel
theorem d_K_writeMaskBit_25 : decode b_K_writeMaskBit 25 = .ok (.getfield 9, 3) := by decide +kernel
theorem d_K_writeMaskBit_28 : decode b_K_writeMaskBit 28 = .ok (.iload_n 3, 1) := by decide +kernel
theorem d_K_writeMaskBit_29 : decode b_K_writeMaskBit 29 = .ok (.iconst 1, 1) := by decide +kernel
theorem d_K_writeMaskBit_30 : decode b_K_writeMaskBit 30 = .ok (.invokevirtual 160, 3) := by decide +kernel
theorem d_K_writeMaskBit_33 : decode b_K_writeMaskBit 33 = .ok (.iload 4, 2) := by decide +kernel
theorem d_K_writeMaskBit_35 : decode b_K_writeMaskBit 35 = .ok (.iconst (-1), 1) := by decide +kernel
theorem d_K_writeMaskBit_36 : decode b_K_writeMaskBit 36 = .ok (.ixor, 1) := by decide +kernel
theorem d_K_writeMaskBit_37 : decode b_K_writeMaskBit 37 = .ok (.iand, 1) := by decide +kernel
theorem d_K_writeMaskBit_38 : decode b_K_writeMaskBit 38 = .ok (.istore 5, 2) := by decide +kernel
theorem d_K_writeMaskBit_40 : decode b_K_writeMaskBit 40 = .ok (.aload_n 0, 1) := by decide +kernel
theorem d_K_writeMaskBit_41 : decode b_K_writeMaskBit 41 = .ok (.getfield 9, 3) := by decide +kernel
theorem d_K_writeMaskBit_44 : decode b_K_writeMaskBit 44 = .ok (.iload_n 3, 1) := by decide +kernel
theorem d_K_writeMaskBit_45 : decode b_K_writeMaskBit 45 = .ok (.iconst 1, 1) := by decide +kernel
theorem d_K_writeMaskBit_46 : decode b_K_writeMaskBit 46 = .ok (.iload_n 2, 1) := by decide +kernel
theorem d_K_writeMaskBit_47 : decode b_K_writeMaskBit 47 = .ok (.ifCond .eq 11, 3) := by decide +kernel
theorem d_K_writeMaskBit_50 : decode b_K_writeMaskBit 50 = .ok (.iload 5, 2) := by decide +kernel
theorem d_K_writeMaskBit_52 : decode b_K_writeMaskBit 52 = .ok (.iload 4, 2) := by decide +kernel
theorem d_K_writeMaskBit_54 : decode b_K_writeMaskBit 54 = .ok (.ior, 1) := by decide +kernel
theorem d_K_writeMaskBit_55 : decode b_K_writeMaskBit 55 = .ok (.goto 5, 3) := by decide +kernel
theorem d_K_writeMaskBit_58 : decode b_K_writeMaskBit 58 = .ok (.iload 5, 2) := by decide +kernel
theorem d_K_writeMaskBit_60 : decode b_K_writeMaskBit 60 = .ok (.invokevirtual 151, 3) := by decide +kernel
theorem d_K_writeMaskBit_63 : decode b_K_writeMaskBit 63 = .ok (.return_, 1) := by decide +kernel
theorem d_K_result_0 : decode b_K_result 0 = .ok (.aload_n 0, 1) := by decide +kernel
theorem d_K_result_1 : decode b_K_result 1 = .ok (.getfield 25, 3) := by decide +kernel
theorem d_K_result_4 : decode b_K_result 4 = .ok (.getfield 78, 3) := by decide +kernel
theorem d_K_result_7 : decode b_K_result 7 = .ok (.tableswitch 198 8 16 #[49, 75, 101, 127, 198, 49, 198, 145, 163], 49) := by decide +kernel
theorem d_K_result_56 : decode b_K_result 56 = .ok (.aload_n 0, 1) := by decide +kernel
theorem d_K_result_57 : decode b_K_result 57 = .ok (.aload_n 0, 1) := by decide +kernel
theorem d_K_result_58 : decode b_K_result 58 = .ok (.getfield 25, 3) := by decide +kernel
theorem d_K_result_61 : decode b_K_result 61 = .ok (.getfield 106, 3) := by decide +kernel
theorem d_K_result_64 : decode b_K_result 64 = .ok (.iload_n 1, 1) := by decide +kernel
theorem d_K_result_65 : decode b_K_result 65 = .ok (.invokevirtual 140, 3) := by decide +kernel
theorem d_K_result_68 : decode b_K_result 68 = .ok (.aload_n 0, 1) := by decide +kernel
theorem d_K_result_69 : decode b_K_result 69 = .ok (.aload_n 0, 1) := by decide +kernel
theorem d_K_result_70 : decode b_K_result 70 = .ok (.getfield 25, 3) := by decide +kernel
theorem d_K_result_73 : decode b_K_result 73 = .ok (.getfield 120, 3) := by decide +kernel
theorem d_K_result_76 : decode b_K_result 76 = .ok (.iload_n 1, 1) := by decide +kernel
theorem d_K_result_77 : decode b_K_result 77 = .ok (.invokevirtual 140, 3) := by decide +kernel
theorem d_K_result_80 : decode b_K_result 80 = .ok (.iadd, 1) := by decide +kernel
theorem d_K_result_81 : decode b_K_result 81 = .ok (.ireturn, 1) := by decide +kernel
theorem d_K_result_82 : decode b_K_result 82 = .ok (.aload_n 0, 1) := by decide +kernel
theorem d_K_result_83 : decode b_K_result 83 = .ok (.aload_n 0, 1) := by decide +kernel
theorem d_K_result_84 : decode b_K_result 84 = .ok (.getfield 25, 3) := by decide +kernel
theorem d_K_result_87 : decode b_K_result 87 = .ok (.getfield 106, 3) := by decide +kernel
theorem d_K_result_90 : decode b_K_result 90 = .ok (.iload_n 1, 1) := by decide +kernel
theorem d_K_result_91 : decode b_K_result 91 = .ok (.invokevirtual 140, 3) := by decide +kernel
theorem d_K_result_94 : decode b_K_result 94 = .ok (.aload_n 0, 1) := by decide +kernel
theorem d_K_result_95 : decode b_K_result 95 = .ok (.aload_n 0, 1) := by decide +kernel
theorem d_K_result_96 : decode b_K_result 96 = .ok (.getfield 25, 3) := by decide +kernel
theorem d_K_result_99 : decode b_K_result 99 = .ok (.getfield 120, 3) := by decide +kernel
theorem d_K_result_102 : decode b_K_result 102 = .ok (.iload_n 1, 1) := by decide +kernel
theorem d_K_result_103 : decode b_K_result 103 = .ok (.invokevirtual 140, 3) := by decide +kernel
theorem d_K_result_106 : decode b_K_result 106 = .ok (.isub, 1) := by decide +kernel
theorem d_K_result_107 : decode b_K_result 107 = .ok (.ireturn, 1) := by decide +kernel
theorem d_K_result_108 : decode b_K_result 108 = .ok (.aload_n 0, 1) := by decide +kernel
theorem d_K_result_109 : decode b_K_result 109 = .ok (.aload_n 0, 1) := by decide +kernel
theorem d_K_result_110 : decode b_K_result 110 = .ok (.getfield 25, 3) := by decide +kernel
theorem d_K_result_113 : decode b_K_result 113 = .ok (.getfield 106, 3) := by decide +kernel
theorem d_K_result_116 : decode b_K_result 116 = .ok (.iload_n 1, 1) := by decide +kernel
theorem d_K_result_117 : decode b_K_result 117 = .ok (.invokevirtual 140, 3) := by decide +kernel
theorem d_K_result_120 : decode b_K_result 120 = .ok (.aload_n 0, 1) := by decide +kernel
theorem d_K_result_121 : decode b_K_result 121 = .ok (.aload_n 0, 1) := by decide +kernel
theorem d_K_result_122 : decode b_K_result 122 = .ok (.getfield 25, 3) := by decide +kernel
theorem d_K_result_125 : decode b_K_result 125 = .ok (.getfield 120, 3) := by decide +kernel
theorem d_K_result_128 : decode b_K_result 128 = .ok (.iload_n 1, 1) := by decide +kernel
theorem d_K_result_129 : decode b_K_result 129 = .ok (.invokevirtual 140, 3) := by decide +kernel
theorem d_K_result_132 : decode b_K_result 132 = .ok (.imul, 1) := by decide +kernel
theorem d_K_result_133 : decode b_K_result 133 = .ok (.ireturn, 1) := by decide +kernel
theorem d_K_result_134 : decode b_K_result 134 = .ok (.aload_n 0, 1) := by decide +kernel
theorem d_K_result_135 : decode b_K_result 135 = .ok (.aload_n 0, 1) := by decide +kernel
theorem d_K_result_136 : decode b_K_result 136 = .ok (.getfield 25, 3) := by decide +kernel
theorem d_K_result_139 : decode b_K_result 139 = .ok (.getfield 106, 3) := by decide +kernel
theorem d_K_result_142 : decode b_K_result 142 = .ok (.iload_n 1, 1) := by decide +kernel
theorem d_K_result_143 : decode b_K_result 143 = .ok (.invokevirtual 140, 3) := by decide +kernel
theorem d_K_result_146 : decode b_K_result 146 = .ok (.aload_n 0, 1) := by decide +kernel
theorem d_K_result_147 : decode b_K_result 147 = .ok (.getfield 36, 3) := by decide +kernel
theorem d_K_result_150 : decode b_K_result 150 = .ok (.iadd, 1) := by decide +kernel
theorem d_K_result_151 : decode b_K_result 151 = .ok (.ireturn, 1) := by decide +kernel
theorem d_K_result_152 : decode b_K_result 152 = .ok (.aload_n 0, 1) := by decide +kernel
theorem d_K_result_153 : decode b_K_result 153 = .ok (.aload_n 0, 1) := by decide +kernel
theorem d_K_result_154 : decode b_K_result 154 = .ok (.getfield 25, 3) := by decide +kernel
theorem d_K_result_157 : decode b_K_result 157 = .ok (.getfield 106, 3) := by decide +kernel
theorem d_K_result_160 : decode b_K_result 160 = .ok (.iload_n 1, 1) := by decide +kernel
theorem d_K_result_161 : decode b_K_result 161 = .ok (.aload_n 0, 1) := by decide +kernel
theorem d_K_result_162 : decode b_K_result 162 = .ok (.getfield 36, 3) := by decide +kernel
theorem d_K_result_165 : decode b_K_result 165 = .ok (.iadd, 1) := by decide +kernel
theorem d_K_result_166 : decode b_K_result 166 = .ok (.invokevirtual 163, 3) := by decide +kernel
theorem d_K_result_169 : decode b_K_result 169 = .ok (.ireturn, 1) := by decide +kernel
theorem d_K_result_170 : decode b_K_result 170 = .ok (.aload_n 0, 1) := by decide +kernel
theorem d_K_result_171 : decode b_K_result 171 = .ok (.aload_n 0, 1) := by decide +kernel
theorem d_K_result_172 : decode b_K_result 172 = .ok (.getfield 25, 3) := by decide +kernel
theorem d_K_result_175 : decode b_K_result 175 = .ok (.getfield 106, 3) := by decide +kernel
theorem d_K_result_178 : decode b_K_result 178 = .ok (.aload_n 0, 1) := by decide +kernel
theorem d_K_result_179 : decode b_K_result 179 = .ok (.getfield 9, 3) := by decide +kernel
theorem d_K_result_182 : decode b_K_result 182 = .ok (.aload_n 0, 1) := by decide +kernel
theorem d_K_result_183 : decode b_K_result 183 = .ok (.aload_n 0, 1) := by decide +kernel
theorem d_K_result_184 : decode b_K_result 184 = .ok (.getfield 25, 3) := by decide +kernel
theorem d_K_result_187 : decode b_K_result 187 = .ok (.getfield 120, 3) := by decide +kernel
theorem d_K_result_190 : decode b_K_result 190 = .ok (.iload_n 1, 1) := by decide +kernel
theorem d_K_result_191 : decode b_K_result 191 = .ok (.invokevirtual 109, 3) := by decide +kernel
theorem d_K_result_194 : decode b_K_result 194 = .ok (.aload_n 0, 1) := by decide +kernel
theorem d_K_result_195 : decode b_K_result 195 = .ok (.getfield 45, 3) := by decide +kernel
theorem d_K_result_198 : decode b_K_result 198 = .ok (.invokevirtual 160, 3) := by decide +kernel
theorem d_K_result_201 : decode b_K_result 201 = .ok (.invokevirtual 163, 3) := by decide +kernel
theorem d_K_result_204 : decode b_K_result 204 = .ok (.ireturn, 1) := by decide +kernel
theorem d_K_result_205 : decode b_K_result 205 = .ok (.aload_n 0, 1) := by decide +kernel
theorem d_K_result_206 : decode b_K_result 206 = .ok (.getfield 15, 3) := by decide +kernel
theorem d_K_result_209 : decode b_K_result 209 = .ok (.aload_n 0, 1) := by decide +kernel
theorem d_K_result_210 : decode b_K_result 210 = .ok (.iload_n 1, 1) := by decide +kernel
theorem d_K_result_211 : decode b_K_result 211 = .ok (.invokevirtual 157, 3) := by decide +kernel
theorem d_K_result_214 : decode b_K_result 214 = .ok (.aload_n 0, 1) := by decide +kernel
theorem d_K_result_215 : decode b_K_result 215 = .ok (.getfield 45, 3) := by decide +kernel
theorem d_K_result_218 : decode b_K_result 218 = .ok (.invokevirtual 166, 3) := by decide +kernel
theorem d_K_result_221 : decode b_K_result 221 = .ok (.ireturn, 1) := by decide +kernel
theorem d_K_elementOrZero_0 : decode b_K_elementOrZero 0 = .ok (.aload_n 0, 1) := by decide +kernel
theorem d_K_elementOrZero_1 : decode b_K_elementOrZero 1 = .ok (.iload_n 2, 1) := by decide +kernel
theorem d_K_elementOrZero_2 : decode b_K_elementOrZero 2 = .ok (.invokevirtual 116, 3) := by decide +kernel
theorem d_K_elementOrZero_5 : decode b_K_elementOrZero 5 = .ok (.ifCond .eq 23, 3) := by decide +kernel
theorem d_K_elementOrZero_8 : decode b_K_elementOrZero 8 = .ok (.aload_n 0, 1) := by decide +kernel
theorem d_K_elementOrZero_9 : decode b_K_elementOrZero 9 = .ok (.getfield 9, 3) := by decide +kernel
theorem d_K_elementOrZero_12 : decode b_K_elementOrZero 12 = .ok (.aload_n 0, 1) := by decide +kernel
theorem d_K_elementOrZero_13 : decode b_K_elementOrZero 13 = .ok (.iload_n 1, 1) := by decide +kernel
theorem d_K_elementOrZero_14 : decode b_K_elementOrZero 14 = .ok (.iload_n 2, 1) := by decide +kernel
theorem d_K_elementOrZero_15 : decode b_K_elementOrZero 15 = .ok (.invokevirtual 109, 3) := by decide +kernel
theorem d_K_elementOrZero_18 : decode b_K_elementOrZero 18 = .ok (.aload_n 0, 1) := by decide +kernel
theorem d_K_elementOrZero_19 : decode b_K_elementOrZero 19 = .ok (.getfield 45, 3) := by decide +kernel
theorem d_K_elementOrZero_22 : decode b_K_elementOrZero 22 = .ok (.invokevirtual 166, 3) := by decide +kernel
theorem d_K_elementOrZero_25 : decode b_K_elementOrZero 25 = .ok (.goto 4, 3) := by decide +kernel
theorem d_K_elementOrZero_28 : decode b_K_elementOrZero 28 = .ok (.iconst 0, 1) := by decide +kernel
theorem d_K_elementOrZero_29 : decode b_K_elementOrZero 29 = .ok (.ireturn, 1) := by decide +kernel
theorem d_K_placeInMemory_0 : decode b_K_placeInMemory 0 = .ok (.aload_n 0, 1) := by decide +kernel
theorem d_K_placeInMemory_1 : decode b_K_placeInMemory 1 = .ok (.getfield 33, 3) := by decide +kernel
theorem d_K_placeInMemory_4 : decode b_K_placeInMemory 4 = .ok (.aload_n 0, 1) := by decide +kernel
theorem d_K_placeInMemory_5 : decode b_K_placeInMemory 5 = .ok (.getfield 25, 3) := by decide +kernel
theorem d_K_placeInMemory_8 : decode b_K_placeInMemory 8 = .ok (.getfield 78, 3) := by decide +kernel
theorem d_K_placeInMemory_11 : decode b_K_placeInMemory 11 = .ok (.bipush 19, 2) := by decide +kernel
theorem d_K_placeInMemory_13 : decode b_K_placeInMemory 13 = .ok (.if_icmp .ne 29, 3) := by decide +kernel
theorem d_K_placeInMemory_16 : decode b_K_placeInMemory 16 = .ok (.aload_n 0, 1) := by decide +kernel
theorem d_K_placeInMemory_17 : decode b_K_placeInMemory 17 = .ok (.getfield 9, 3) := by decide +kernel
theorem d_K_placeInMemory_20 : decode b_K_placeInMemory 20 = .ok (.aload_n 0, 1) := by decide +kernel
theorem d_K_placeInMemory_21 : decode b_K_placeInMemory 21 = .ok (.aload_n 0, 1) := by decide +kernel
theorem d_K_placeInMemory_22 : decode b_K_placeInMemory 22 = .ok (.getfield 25, 3) := by decide +kernel
theorem d_K_placeInMemory_25 : decode b_K_placeInMemory 25 = .ok (.getfield 120, 3) := by decide +kernel
theorem d_K_placeInMemory_28 : decode b_K_placeInMemory 28 = .ok (.iload_n 1, 1) := by decide +kernel
theorem d_K_placeInMemory_29 : decode b_K_placeInMemory 29 = .ok (.invokevirtual 109, 3) := by decide +kernel
theorem d_K_placeInMemory_32 : decode b_K_placeInMemory 32 = .ok (.aload_n 0, 1) := by decide +kernel
theorem d_K_placeInMemory_33 : decode b_K_placeInMemory 33 = .ok (.getfield 45, 3) := by decide +kernel
theorem d_K_placeInMemory_36 : decode b_K_placeInMemory 36 = .ok (.invokevirtual 160, 3) := by decide +kernel
theorem d_K_placeInMemory_39 : decode b_K_placeInMemory 39 = .ok (.goto 9, 3) := by decide +kernel
theorem d_K_placeInMemory_42 : decode b_K_placeInMemory 42 = .ok (.iload_n 1, 1) := by decide +kernel
theorem d_K_placeInMemory_43 : decode b_K_placeInMemory 43 = .ok (.aload_n 0, 1) := by decide +kernel
theorem d_K_placeInMemory_44 : decode b_K_placeInMemory 44 = .ok (.getfield 36, 3) := by decide +kernel
theorem d_K_placeInMemory_47 : decode b_K_placeInMemory 47 = .ok (.imul, 1) := by decide +kernel
theorem d_K_placeInMemory_48 : decode b_K_placeInMemory 48 = .ok (.iadd, 1) := by decide +kernel
theorem d_K_placeInMemory_49 : decode b_K_placeInMemory 49 = .ok (.ireturn, 1) := by decide +kernel
theorem d_K_readsFromStep_0 : decode b_K_readsFromStep 0 = .ok (.iload_n 1, 1) := by decide +kernel
theorem d_K_readsFromStep_1 : decode b_K_readsFromStep 1 = .ok (.ifCond .lt 18, 3) := by decide +kernel
theorem d_K_readsFromStep_4 : decode b_K_readsFromStep 4 = .ok (.iload_n 1, 1) := by decide +kernel
theorem d_K_readsFromStep_5 : decode b_K_readsFromStep 5 = .ok (.bipush 32, 2) := by decide +kernel
theorem d_K_readsFromStep_7 : decode b_K_readsFromStep 7 = .ok (.if_icmp .gt 12, 3) := by decide +kernel
theorem d_K_readsFromStep_10 : decode b_K_readsFromStep 10 = .ok (.aload_n 0, 1) := by decide +kernel
theorem d_K_readsFromStep_11 : decode b_K_readsFromStep 11 = .ok (.getfield 18, 3) := by decide +kernel
theorem d_K_readsFromStep_14 : decode b_K_readsFromStep 14 = .ok (.iload_n 1, 1) := by decide +kernel
theorem d_K_readsFromStep_15 : decode b_K_readsFromStep 15 = .ok (.laload, 1) := by decide +kernel
theorem d_K_readsFromStep_16 : decode b_K_readsFromStep 16 = .ok (.goto 4, 3) := by decide +kernel
theorem d_K_readsFromStep_19 : decode b_K_readsFromStep 19 = .ok (.lconst 0, 1) := by decide +kernel
theorem d_K_readsFromStep_20 : decode b_K_readsFromStep 20 = .ok (.lreturn, 1) := by decide +kernel
theorem d_K_writesFromStep_0 : decode b_K_writesFromStep 0 = .ok (.iload_n 1, 1) := by decide +kernel
theorem d_K_writesFromStep_1 : decode b_K_writesFromStep 1 = .ok (.ifCond .lt 18, 3) := by decide +kernel
theorem d_K_writesFromStep_4 : decode b_K_writesFromStep 4 = .ok (.iload_n 1, 1) := by decide +kernel
theorem d_K_writesFromStep_5 : decode b_K_writesFromStep 5 = .ok (.bipush 32, 2) := by decide +kernel
theorem d_K_writesFromStep_7 : decode b_K_writesFromStep 7 = .ok (.if_icmp .gt 12, 3) := by decide +kernel
theorem d_K_writesFromStep_10 : decode b_K_writesFromStep 10 = .ok (.aload_n 0, 1) := by decide +kernel
theorem d_K_writesFromStep_11 : decode b_K_writesFromStep 11 = .ok (.getfield 22, 3) := by decide +kernel
theorem d_K_writesFromStep_14 : decode b_K_writesFromStep 14 = .ok (.iload_n 1, 1) := by decide +kernel
theorem d_K_writesFromStep_15 : decode b_K_writesFromStep 15 = .ok (.laload, 1) := by decide +kernel
theorem d_K_writesFromStep_16 : decode b_K_writesFromStep 16 = .ok (.goto 4, 3) := by decide +kernel
theorem d_K_writesFromStep_19 : decode b_K_writesFromStep 19 = .ok (.lconst 0, 1) := by decide +kernel
theorem d_K_writesFromStep_20 : decode b_K_writesFromStep 20 = .ok (.lreturn, 1) := by decide +kernel
theorem d_K_take_0 : decode b_K_take 0 = .ok (.aload_n 0, 1) := by decide +kernel
theorem d_K_take_1 : decode b_K_take 1 = .ok (.aload_n 1, 1) := by decide +kernel
theorem d_K_take_2 : decode b_K_take 2 = .ok (.putfield 25, 3) := by decide +kernel
theorem d_K_take_5 : decode b_K_take 5 = .ok (.aload_n 0, 1) := by decide +kernel
theorem d_K_take_6 : decode b_K_take 6 = .ok (.iload_n 2, 1) := by decide +kernel
theorem d_K_take_7 : decode b_K_take 7 = .ok (.putfield 29, 3) := by decide +kernel
theorem d_K_take_10 : decode b_K_take 10 = .ok (.aload_n 0, 1) := by decide +kernel
theorem d_K_take_11 : decode b_K_take 11 = .ok (.iload 4, 2) := by decide +kernel
theorem d_K_take_13 : decode b_K_take 13 = .ok (.putfield 33, 3) := by decide +kernel
theorem d_K_take_16 : decode b_K_take 16 = .ok (.aload_n 0, 1) := by decide +kernel
theorem d_K_take_17 : decode b_K_take 17 = .ok (.iload 5, 2) := by decide +kernel
theorem d_K_take_19 : decode b_K_take 19 = .ok (.putfield 36, 3) := by decide +kernel
theorem d_K_take_22 : decode b_K_take 22 = .ok (.aload_n 0, 1) := by decide +kernel
theorem d_K_take_23 : decode b_K_take 23 = .ok (.aload_n 3, 1) := by decide +kernel
theorem d_K_take_24 : decode b_K_take 24 = .ok (.invokevirtual 39, 3) := by decide +kernel
theorem d_K_take_27 : decode b_K_take 27 = .ok (.putfield 45, 3) := by decide +kernel
theorem d_K_take_30 : decode b_K_take 30 = .ok (.aload_n 0, 1) := by decide +kernel
theorem d_K_take_31 : decode b_K_take 31 = .ok (.aload_n 3, 1) := by decide +kernel
theorem d_K_take_32 : decode b_K_take 32 = .ok (.invokevirtual 47, 3) := by decide +kernel
theorem d_K_take_35 : decode b_K_take 35 = .ok (.putfield 50, 3) := by decide +kernel
theorem d_K_take_38 : decode b_K_take 38 = .ok (.aload_n 0, 1) := by decide +kernel
theorem d_K_take_39 : decode b_K_take 39 = .ok (.aload_n 3, 1) := by decide +kernel
theorem d_K_take_40 : decode b_K_take 40 = .ok (.invokevirtual 52, 3) := by decide +kernel
theorem d_K_take_43 : decode b_K_take 43 = .ok (.putfield 55, 3) := by decide +kernel
theorem d_K_take_46 : decode b_K_take 46 = .ok (.aload_n 0, 1) := by decide +kernel
theorem d_K_take_47 : decode b_K_take 47 = .ok (.aload_n 3, 1) := by decide +kernel
theorem d_K_take_48 : decode b_K_take 48 = .ok (.getfield 57, 3) := by decide +kernel
theorem d_K_take_51 : decode b_K_take 51 = .ok (.putfield 60, 3) := by decide +kernel
theorem d_K_take_54 : decode b_K_take 54 = .ok (.aload_n 0, 1) := by decide +kernel
theorem d_K_take_55 : decode b_K_take 55 = .ok (.aload_n 3, 1) := by decide +kernel
theorem d_K_take_56 : decode b_K_take 56 = .ok (.getfield 63, 3) := by decide +kernel
theorem d_K_take_59 : decode b_K_take 59 = .ok (.putfield 66, 3) := by decide +kernel
theorem d_K_take_62 : decode b_K_take 62 = .ok (.aload_n 0, 1) := by decide +kernel
theorem d_K_take_63 : decode b_K_take 63 = .ok (.iconst 0, 1) := by decide +kernel
theorem d_K_take_64 : decode b_K_take 64 = .ok (.putfield 69, 3) := by decide +kernel
theorem d_K_take_67 : decode b_K_take 67 = .ok (.return_, 1) := by decide +kernel
theorem d_K_firstBad_0 : decode b_K_firstBad 0 = .ok (.aload_n 0, 1) := by decide +kernel
theorem d_K_firstBad_1 : decode b_K_firstBad 1 = .ok (.getfield 60, 3) := by decide +kernel
theorem d_K_firstBad_4 : decode b_K_firstBad 4 = .ok (.istore_n 2, 1) := by decide +kernel
theorem d_K_firstBad_5 : decode b_K_firstBad 5 = .ok (.iload_n 2, 1) := by decide +kernel
theorem d_K_firstBad_6 : decode b_K_firstBad 6 = .ok (.aload_n 0, 1) := by decide +kernel
theorem d_K_firstBad_7 : decode b_K_firstBad 7 = .ok (.getfield 66, 3) := by decide +kernel
theorem d_K_firstBad_10 : decode b_K_firstBad 10 = .ok (.if_icmp .ge 39, 3) := by decide +kernel
theorem d_K_firstBad_13 : decode b_K_firstBad 13 = .ok (.aload_n 0, 1) := by decide +kernel
theorem d_K_firstBad_14 : decode b_K_firstBad 14 = .ok (.iload_n 2, 1) := by decide +kernel
theorem d_K_firstBad_15 : decode b_K_firstBad 15 = .ok (.invokevirtual 157, 3) := by decide +kernel
theorem d_K_firstBad_18 : decode b_K_firstBad 18 = .ok (.istore_n 3, 1) := by decide +kernel
theorem d_K_firstBad_19 : decode b_K_firstBad 19 = .ok (.iload_n 3, 1) := by decide +kernel
theorem d_K_firstBad_20 : decode b_K_firstBad 20 = .ok (.ifCond .lt 13, 3) := by decide +kernel
theorem d_K_firstBad_23 : decode b_K_firstBad 23 = .ok (.iload_n 3, 1) := by decide +kernel
theorem d_K_firstBad_24 : decode b_K_firstBad 24 = .ok (.iload_n 1, 1) := by decide +kernel
theorem d_K_firstBad_25 : decode b_K_firstBad 25 = .ok (.aload_n 0, 1) := by decide +kernel
theorem d_K_firstBad_26 : decode b_K_firstBad 26 = .ok (.getfield 45, 3) := by decide +kernel
theorem d_K_firstBad_29 : decode b_K_firstBad 29 = .ok (.isub, 1) := by decide +kernel
theorem d_K_firstBad_30 : decode b_K_firstBad 30 = .ok (.if_icmp .le 13, 3) := by decide +kernel
theorem d_K_firstBad_33 : decode b_K_firstBad 33 = .ok (.aload_n 0, 1) := by decide +kernel
theorem d_K_firstBad_34 : decode b_K_firstBad 34 = .ok (.iload_n 2, 1) := by decide +kernel
theorem d_K_firstBad_35 : decode b_K_firstBad 35 = .ok (.invokevirtual 134, 3) := by decide +kernel
theorem d_K_firstBad_38 : decode b_K_firstBad 38 = .ok (.ifCond .eq 5, 3) := by decide +kernel
theorem d_K_firstBad_41 : decode b_K_firstBad 41 = .ok (.iload_n 2, 1) := by decide +kernel
theorem d_K_firstBad_42 : decode b_K_firstBad 42 = .ok (.ireturn, 1) := by decide +kernel
theorem d_K_firstBad_43 : decode b_K_firstBad 43 = .ok (.iinc 2 1, 3) := by decide +kernel
theorem d_K_firstBad_46 : decode b_K_firstBad 46 = .ok (.goto (-41), 3) := by decide +kernel
theorem d_K_firstBad_49 : decode b_K_firstBad 49 = .ok (.iconst (-1), 1) := by decide +kernel
theorem d_K_firstBad_50 : decode b_K_firstBad 50 = .ok (.ireturn, 1) := by decide +kernel
theorem d_K_foresee_0 : decode b_K_foresee 0 = .ok (.aload_n 0, 1) := by decide +kernel
theorem d_K_foresee_1 : decode b_K_foresee 1 = .ok (.invokevirtual 86, 3) := by decide +kernel
theorem d_K_foresee_4 : decode b_K_foresee 4 = .ok (.istore_n 1, 1) := by decide +kernel
theorem d_K_foresee_5 : decode b_K_foresee 5 = .ok (.lconst 0, 1) := by decide +kernel
theorem d_K_foresee_6 : decode b_K_foresee 6 = .ok (.lstore_n 2, 1) := by decide +kernel
theorem d_K_foresee_7 : decode b_K_foresee 7 = .ok (.lconst 0, 1) := by decide +kernel
theorem d_K_foresee_8 : decode b_K_foresee 8 = .ok (.lstore 4, 2) := by decide +kernel
theorem d_K_foresee_10 : decode b_K_foresee 10 = .ok (.bipush 32, 2) := by decide +kernel
theorem d_K_foresee_12 : decode b_K_foresee 12 = .ok (.istore 6, 2) := by decide +kernel
theorem d_K_foresee_14 : decode b_K_foresee 14 = .ok (.iload 6, 2) := by decide +kernel
theorem d_K_foresee_16 : decode b_K_foresee 16 = .ok (.ifCond .lt 52, 3) := by decide +kernel
theorem d_K_foresee_19 : decode b_K_foresee 19 = .ok (.iload 6, 2) := by decide +kernel
theorem d_K_foresee_21 : decode b_K_foresee 21 = .ok (.iload_n 1, 1) := by decide +kernel
theorem d_K_foresee_22 : decode b_K_foresee 22 = .ok (.if_icmp .ge 23, 3) := by decide +kernel
theorem d_K_foresee_25 : decode b_K_foresee 25 = .ok (.lload_n 2, 1) := by decide +kernel
theorem d_K_foresee_26 : decode b_K_foresee 26 = .ok (.aload_n 0, 1) := by decide +kernel
theorem d_K_foresee_27 : decode b_K_foresee 27 = .ok (.iload 6, 2) := by decide +kernel
theorem d_K_foresee_29 : decode b_K_foresee 29 = .ok (.invokevirtual 89, 3) := by decide +kernel
theorem d_K_foresee_32 : decode b_K_foresee 32 = .ok (.lor, 1) := by decide +kernel
theorem d_K_foresee_33 : decode b_K_foresee 33 = .ok (.lstore_n 2, 1) := by decide +kernel
theorem d_K_foresee_34 : decode b_K_foresee 34 = .ok (.lload 4, 2) := by decide +kernel
theorem d_K_foresee_36 : decode b_K_foresee 36 = .ok (.aload_n 0, 1) := by decide +kernel
theorem d_K_foresee_37 : decode b_K_foresee 37 = .ok (.iload 6, 2) := by decide +kernel
theorem d_K_foresee_39 : decode b_K_foresee 39 = .ok (.invokevirtual 93, 3) := by decide +kernel
theorem d_K_foresee_42 : decode b_K_foresee 42 = .ok (.lor, 1) := by decide +kernel
theorem d_K_foresee_43 : decode b_K_foresee 43 = .ok (.lstore 4, 2) := by decide +kernel
theorem d_K_foresee_45 : decode b_K_foresee 45 = .ok (.aload_n 0, 1) := by decide +kernel
theorem d_K_foresee_46 : decode b_K_foresee 46 = .ok (.getfield 18, 3) := by decide +kernel
theorem d_K_foresee_49 : decode b_K_foresee 49 = .ok (.iload 6, 2) := by decide +kernel
theorem d_K_foresee_51 : decode b_K_foresee 51 = .ok (.lload_n 2, 1) := by decide +kernel
theorem d_K_foresee_52 : decode b_K_foresee 52 = .ok (.lastore, 1) := by decide +kernel
theorem d_K_foresee_53 : decode b_K_foresee 53 = .ok (.aload_n 0, 1) := by decide +kernel
theorem d_K_foresee_54 : decode b_K_foresee 54 = .ok (.getfield 22, 3) := by decide +kernel
theorem d_K_foresee_57 : decode b_K_foresee 57 = .ok (.iload 6, 2) := by decide +kernel
theorem d_K_foresee_59 : decode b_K_foresee 59 = .ok (.lload 4, 2) := by decide +kernel
theorem d_K_foresee_61 : decode b_K_foresee 61 = .ok (.lastore, 1) := by decide +kernel
theorem d_K_foresee_62 : decode b_K_foresee 62 = .ok (.iinc 6 (-1), 3) := by decide +kernel
theorem d_K_foresee_65 : decode b_K_foresee 65 = .ok (.goto (-51), 3) := by decide +kernel
theorem d_K_foresee_68 : decode b_K_foresee 68 = .ok (.return_, 1) := by decide +kernel
