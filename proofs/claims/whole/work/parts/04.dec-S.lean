theorem d_S_init_0 : decode b_S_init 0 = .ok (.aload_n 0, 1) := by decide +kernel
theorem d_S_init_1 : decode b_S_init 1 = .ok (.invokespecial 3, 3) := by decide +kernel
theorem d_S_init_4 : decode b_S_init 4 = .ok (.return_, 1) := by decide +kernel
theorem d_S_width_0 : decode b_S_width 0 = .ok (.iconst 1, 1) := by decide +kernel
theorem d_S_width_1 : decode b_S_width 1 = .ok (.aload_n 0, 1) := by decide +kernel
theorem d_S_width_2 : decode b_S_width 2 = .ok (.getfield 9, 3) := by decide +kernel
theorem d_S_width_5 : decode b_S_width 5 = .ok (.ishl, 1) := by decide +kernel
theorem d_S_width_6 : decode b_S_width 6 = .ok (.ireturn, 1) := by decide +kernel
theorem d_S_group_0 : decode b_S_group 0 = .ok (.iconst 1, 1) := by decide +kernel
theorem d_S_group_1 : decode b_S_group 1 = .ok (.aload_n 0, 1) := by decide +kernel
theorem d_S_group_2 : decode b_S_group 2 = .ok (.getfield 15, 3) := by decide +kernel
theorem d_S_group_5 : decode b_S_group 5 = .ok (.ishl, 1) := by decide +kernel
theorem d_S_group_6 : decode b_S_group 6 = .ok (.ireturn, 1) := by decide +kernel
theorem d_S_isCode_0 : decode b_S_isCode 0 = .ok (.iload_n 0, 1) := by decide +kernel
theorem d_S_isCode_1 : decode b_S_isCode 1 = .ok (.ifCond .lt 20, 3) := by decide +kernel
theorem d_S_isCode_4 : decode b_S_isCode 4 = .ok (.iload_n 0, 1) := by decide +kernel
theorem d_S_isCode_5 : decode b_S_isCode 5 = .ok (.bipush 10, 2) := by decide +kernel
theorem d_S_isCode_7 : decode b_S_isCode 7 = .ok (.if_icmp .gt 14, 3) := by decide +kernel
theorem d_S_isCode_10 : decode b_S_isCode 10 = .ok (.iload_n 0, 1) := by decide +kernel
theorem d_S_isCode_11 : decode b_S_isCode 11 = .ok (.iconst 4, 1) := by decide +kernel
theorem d_S_isCode_12 : decode b_S_isCode 12 = .ok (.irem, 1) := by decide +kernel
theorem d_S_isCode_13 : decode b_S_isCode 13 = .ok (.iconst 3, 1) := by decide +kernel
theorem d_S_isCode_14 : decode b_S_isCode 14 = .ok (.if_icmp .eq 7, 3) := by decide +kernel
theorem d_S_isCode_17 : decode b_S_isCode 17 = .ok (.iconst 1, 1) := by decide +kernel
theorem d_S_isCode_18 : decode b_S_isCode 18 = .ok (.goto 4, 3) := by decide +kernel
theorem d_S_isCode_21 : decode b_S_isCode 21 = .ok (.iconst 0, 1) := by decide +kernel
theorem d_S_isCode_22 : decode b_S_isCode 22 = .ok (.ireturn, 1) := by decide +kernel
theorem d_S_forbids_0 : decode b_S_forbids 0 = .ok (.aload_n 1, 1) := by decide +kernel
theorem d_S_forbids_1 : decode b_S_forbids 1 = .ok (.invokevirtual 37, 3) := by decide +kernel
theorem d_S_forbids_4 : decode b_S_forbids 4 = .ok (.ifCond .eq 38, 3) := by decide +kernel
theorem d_S_forbids_7 : decode b_S_forbids 7 = .ok (.aload_n 0, 1) := by decide +kernel
theorem d_S_forbids_8 : decode b_S_forbids 8 = .ok (.aload_n 1, 1) := by decide +kernel
theorem d_S_forbids_9 : decode b_S_forbids 9 = .ok (.invokevirtual 43, 3) := by decide +kernel
theorem d_S_forbids_12 : decode b_S_forbids 12 = .ok (.ifCond .ne 26, 3) := by decide +kernel
theorem d_S_forbids_15 : decode b_S_forbids 15 = .ok (.aload_n 1, 1) := by decide +kernel
theorem d_S_forbids_16 : decode b_S_forbids 16 = .ok (.invokestatic 47, 3) := by decide +kernel
theorem d_S_forbids_19 : decode b_S_forbids 19 = .ok (.ifCond .ne 19, 3) := by decide +kernel
theorem d_S_forbids_22 : decode b_S_forbids 22 = .ok (.aload_n 0, 1) := by decide +kernel
theorem d_S_forbids_23 : decode b_S_forbids 23 = .ok (.aload_n 1, 1) := by decide +kernel
theorem d_S_forbids_24 : decode b_S_forbids 24 = .ok (.invokevirtual 50, 3) := by decide +kernel
theorem d_S_forbids_27 : decode b_S_forbids 27 = .ok (.ifCond .ne 11, 3) := by decide +kernel
theorem d_S_forbids_30 : decode b_S_forbids 30 = .ok (.aload_n 0, 1) := by decide +kernel
theorem d_S_forbids_31 : decode b_S_forbids 31 = .ok (.aload_n 1, 1) := by decide +kernel
theorem d_S_forbids_32 : decode b_S_forbids 32 = .ok (.invokevirtual 53, 3) := by decide +kernel
theorem d_S_forbids_35 : decode b_S_forbids 35 = .ok (.ifCond .eq 7, 3) := by decide +kernel
theorem d_S_forbids_38 : decode b_S_forbids 38 = .ok (.iconst 1, 1) := by decide +kernel
theorem d_S_forbids_39 : decode b_S_forbids 39 = .ok (.goto 4, 3) := by decide +kernel
theorem d_S_forbids_42 : decode b_S_forbids 42 = .ok (.iconst 0, 1) := by decide +kernel
theorem d_S_forbids_43 : decode b_S_forbids 43 = .ok (.ireturn, 1) := by decide +kernel
theorem d_S_isMisplaced_0 : decode b_S_isMisplaced 0 = .ok (.aload_n 1, 1) := by decide +kernel
theorem d_S_isMisplaced_1 : decode b_S_isMisplaced 1 = .ok (.getfield 56, 3) := by decide +kernel
theorem d_S_isMisplaced_4 : decode b_S_isMisplaced 4 = .ok (.bipush 13, 2) := by decide +kernel
theorem d_S_isMisplaced_6 : decode b_S_isMisplaced 6 = .ok (.if_icmp .ne 12, 3) := by decide +kernel
theorem d_S_isMisplaced_9 : decode b_S_isMisplaced 9 = .ok (.iconst 2, 1) := by decide +kernel
theorem d_S_isMisplaced_10 : decode b_S_isMisplaced 10 = .ok (.aload_n 0, 1) := by decide +kernel
theorem d_S_isMisplaced_11 : decode b_S_isMisplaced 11 = .ok (.invokevirtual 59, 3) := by decide +kernel
theorem d_S_isMisplaced_14 : decode b_S_isMisplaced 14 = .ok (.imul, 1) := by decide +kernel
theorem d_S_isMisplaced_15 : decode b_S_isMisplaced 15 = .ok (.goto 7, 3) := by decide +kernel
theorem d_S_isMisplaced_18 : decode b_S_isMisplaced 18 = .ok (.aload_n 0, 1) := by decide +kernel
theorem d_S_isMisplaced_19 : decode b_S_isMisplaced 19 = .ok (.invokevirtual 59, 3) := by decide +kernel
theorem d_S_isMisplaced_22 : decode b_S_isMisplaced 22 = .ok (.istore_n 2, 1) := by decide +kernel
theorem d_S_isMisplaced_23 : decode b_S_isMisplaced 23 = .ok (.aload_n 1, 1) := by decide +kernel
theorem d_S_isMisplaced_24 : decode b_S_isMisplaced 24 = .ok (.invokevirtual 62, 3) := by decide +kernel
theorem d_S_isMisplaced_27 : decode b_S_isMisplaced 27 = .ok (.ifCond .eq 14, 3) := by decide +kernel
theorem d_S_isMisplaced_30 : decode b_S_isMisplaced 30 = .ok (.aload_n 1, 1) := by decide +kernel
theorem d_S_isMisplaced_31 : decode b_S_isMisplaced 31 = .ok (.getfield 65, 3) := by decide +kernel
theorem d_S_isMisplaced_34 : decode b_S_isMisplaced 34 = .ok (.iload_n 2, 1) := by decide +kernel
theorem d_S_isMisplaced_35 : decode b_S_isMisplaced 35 = .ok (.invokestatic 68, 3) := by decide +kernel
theorem d_S_isMisplaced_38 : decode b_S_isMisplaced 38 = .ok (.ifCond .eq 45, 3) := by decide +kernel
theorem d_S_isMisplaced_41 : decode b_S_isMisplaced 41 = .ok (.aload_n 1, 1) := by decide +kernel
theorem d_S_isMisplaced_42 : decode b_S_isMisplaced 42 = .ok (.invokevirtual 72, 3) := by decide +kernel
theorem d_S_isMisplaced_45 : decode b_S_isMisplaced 45 = .ok (.ifCond .eq 17, 3) := by decide +kernel
theorem d_S_isMisplaced_48 : decode b_S_isMisplaced 48 = .ok (.aload_n 1, 1) := by decide +kernel
theorem d_S_isMisplaced_49 : decode b_S_isMisplaced 49 = .ok (.getfield 75, 3) := by decide +kernel
theorem d_S_isMisplaced_52 : decode b_S_isMisplaced 52 = .ok (.aload_n 0, 1) := by decide +kernel
theorem d_S_isMisplaced_53 : decode b_S_isMisplaced 53 = .ok (.invokevirtual 59, 3) := by decide +kernel
theorem d_S_isMisplaced_56 : decode b_S_isMisplaced 56 = .ok (.invokestatic 68, 3) := by decide +kernel
theorem d_S_isMisplaced_59 : decode b_S_isMisplaced 59 = .ok (.ifCond .eq 24, 3) := by decide +kernel
theorem d_S_isMisplaced_62 : decode b_S_isMisplaced 62 = .ok (.aload_n 1, 1) := by decide +kernel
theorem d_S_isMisplaced_63 : decode b_S_isMisplaced 63 = .ok (.invokevirtual 78, 3) := by decide +kernel
theorem d_S_isMisplaced_66 : decode b_S_isMisplaced 66 = .ok (.ifCond .eq 21, 3) := by decide +kernel
theorem d_S_isMisplaced_69 : decode b_S_isMisplaced 69 = .ok (.aload_n 1, 1) := by decide +kernel
theorem d_S_isMisplaced_70 : decode b_S_isMisplaced 70 = .ok (.getfield 81, 3) := by decide +kernel
theorem d_S_isMisplaced_73 : decode b_S_isMisplaced 73 = .ok (.aload_n 0, 1) := by decide +kernel
theorem d_S_isMisplaced_74 : decode b_S_isMisplaced 74 = .ok (.invokevirtual 59, 3) := by decide +kernel
theorem d_S_isMisplaced_77 : decode b_S_isMisplaced 77 = .ok (.invokestatic 68, 3) := by decide +kernel
theorem d_S_isMisplaced_80 : decode b_S_isMisplaced 80 = .ok (.ifCond .ne 7, 3) := by decide +kernel
theorem d_S_isMisplaced_83 : decode b_S_isMisplaced 83 = .ok (.iconst 1, 1) := by decide +kernel
theorem d_S_isMisplaced_84 : decode b_S_isMisplaced 84 = .ok (.goto 4, 3) := by decide +kernel
theorem d_S_isMisplaced_87 : decode b_S_isMisplaced 87 = .ok (.iconst 0, 1) := by decide +kernel
theorem d_S_isMisplaced_88 : decode b_S_isMisplaced 88 = .ok (.ireturn, 1) := by decide +kernel
theorem d_S_isMultiple_0 : decode b_S_isMultiple 0 = .ok (.iload_n 0, 1) := by decide +kernel
theorem d_S_isMultiple_1 : decode b_S_isMultiple 1 = .ok (.iload_n 1, 1) := by decide +kernel
theorem d_S_isMultiple_2 : decode b_S_isMultiple 2 = .ok (.iconst 1, 1) := by decide +kernel
theorem d_S_isMultiple_3 : decode b_S_isMultiple 3 = .ok (.isub, 1) := by decide +kernel
theorem d_S_isMultiple_4 : decode b_S_isMultiple 4 = .ok (.iand, 1) := by decide +kernel
theorem d_S_isMultiple_5 : decode b_S_isMultiple 5 = .ok (.ifCond .ne 7, 3) := by decide +kernel
theorem d_S_isMultiple_8 : decode b_S_isMultiple 8 = .ok (.iconst 1, 1) := by decide +kernel
theorem d_S_isMultiple_9 : decode b_S_isMultiple 9 = .ok (.goto 4, 3) := by decide +kernel
theorem d_S_isMultiple_12 : decode b_S_isMultiple 12 = .ok (.iconst 0, 1) := by decide +kernel
theorem d_S_isMultiple_13 : decode b_S_isMultiple 13 = .ok (.ireturn, 1) := by decide +kernel
theorem d_S_spoilsMask_0 : decode b_S_spoilsMask 0 = .ok (.aload_n 0, 1) := by decide +kernel
theorem d_S_spoilsMask_1 : decode b_S_spoilsMask 1 = .ok (.getfield 84, 3) := by decide +kernel
theorem d_S_spoilsMask_4 : decode b_S_spoilsMask 4 = .ok (.ifCond .eq 32, 3) := by decide +kernel
theorem d_S_spoilsMask_7 : decode b_S_spoilsMask 7 = .ok (.aload_n 0, 1) := by decide +kernel
theorem d_S_spoilsMask_8 : decode b_S_spoilsMask 8 = .ok (.getfield 65, 3) := by decide +kernel
theorem d_S_spoilsMask_11 : decode b_S_spoilsMask 11 = .ok (.ifCond .ne 25, 3) := by decide +kernel
theorem d_S_spoilsMask_14 : decode b_S_spoilsMask 14 = .ok (.aload_n 0, 1) := by decide +kernel
theorem d_S_spoilsMask_15 : decode b_S_spoilsMask 15 = .ok (.getfield 56, 3) := by decide +kernel
theorem d_S_spoilsMask_18 : decode b_S_spoilsMask 18 = .ok (.bipush 12, 2) := by decide +kernel
theorem d_S_spoilsMask_20 : decode b_S_spoilsMask 20 = .ok (.if_icmp .eq 16, 3) := by decide +kernel
theorem d_S_spoilsMask_23 : decode b_S_spoilsMask 23 = .ok (.aload_n 0, 1) := by decide +kernel
theorem d_S_spoilsMask_24 : decode b_S_spoilsMask 24 = .ok (.getfield 56, 3) := by decide +kernel
theorem d_S_spoilsMask_27 : decode b_S_spoilsMask 27 = .ok (.bipush 18, 2) := by decide +kernel
theorem d_S_spoilsMask_29 : decode b_S_spoilsMask 29 = .ok (.if_icmp .eq 7, 3) := by decide +kernel
theorem d_S_spoilsMask_32 : decode b_S_spoilsMask 32 = .ok (.iconst 1, 1) := by decide +kernel
theorem d_S_spoilsMask_33 : decode b_S_spoilsMask 33 = .ok (.goto 4, 3) := by decide +kernel
theorem d_S_spoilsMask_36 : decode b_S_spoilsMask 36 = .ok (.iconst 0, 1) := by decide +kernel
theorem d_S_spoilsMask_37 : decode b_S_spoilsMask 37 = .ok (.ireturn, 1) := by decide +kernel
theorem d_S_spoilsSources_0 : decode b_S_spoilsSources 0 = .ok (.aload_n 1, 1) := by decide +kernel
theorem d_S_spoilsSources_1 : decode b_S_spoilsSources 1 = .ok (.getfield 56, 3) := by decide +kernel
theorem d_S_spoilsSources_4 : decode b_S_spoilsSources 4 = .ok (.tableswitch 113 13 16 #[77, 113, 32, 49], 32) := by decide +kernel
theorem d_S_spoilsSources_36 : decode b_S_spoilsSources 36 = .ok (.aload_n 1, 1) := by decide +kernel
theorem d_S_spoilsSources_37 : decode b_S_spoilsSources 37 = .ok (.getfield 65, 3) := by decide +kernel
theorem d_S_spoilsSources_40 : decode b_S_spoilsSources 40 = .ok (.aload_n 1, 1) := by decide +kernel
theorem d_S_spoilsSources_41 : decode b_S_spoilsSources 41 = .ok (.getfield 75, 3) := by decide +kernel
theorem d_S_spoilsSources_44 : decode b_S_spoilsSources 44 = .ok (.if_icmp .ne 7, 3) := by decide +kernel
theorem d_S_spoilsSources_47 : decode b_S_spoilsSources 47 = .ok (.iconst 1, 1) := by decide +kernel
theorem d_S_spoilsSources_48 : decode b_S_spoilsSources 48 = .ok (.goto 4, 3) := by decide +kernel
theorem d_S_spoilsSources_51 : decode b_S_spoilsSources 51 = .ok (.iconst 0, 1) := by decide +kernel
theorem d_S_spoilsSources_52 : decode b_S_spoilsSources 52 = .ok (.ireturn, 1) := by decide +kernel
theorem d_S_spoilsSources_53 : decode b_S_spoilsSources 53 = .ok (.aload_n 1, 1) := by decide +kernel
theorem d_S_spoilsSources_54 : decode b_S_spoilsSources 54 = .ok (.getfield 65, 3) := by decide +kernel
theorem d_S_spoilsSources_57 : decode b_S_spoilsSources 57 = .ok (.aload_n 1, 1) := by decide +kernel
theorem d_S_spoilsSources_58 : decode b_S_spoilsSources 58 = .ok (.getfield 75, 3) := by decide +kernel
theorem d_S_spoilsSources_61 : decode b_S_spoilsSources 61 = .ok (.if_icmp .eq 14, 3) := by decide +kernel
theorem d_S_spoilsSources_64 : decode b_S_spoilsSources 64 = .ok (.aload_n 1, 1) := by decide +kernel
theorem d_S_spoilsSources_65 : decode b_S_spoilsSources 65 = .ok (.getfield 65, 3) := by decide +kernel
theorem d_S_spoilsSources_68 : decode b_S_spoilsSources 68 = .ok (.aload_n 1, 1) := by decide +kernel
theorem d_S_spoilsSources_69 : decode b_S_spoilsSources 69 = .ok (.getfield 81, 3) := by decide +kernel
theorem d_S_spoilsSources_72 : decode b_S_spoilsSources 72 = .ok (.if_icmp .ne 7, 3) := by decide +kernel
theorem d_S_spoilsSources_75 : decode b_S_spoilsSources 75 = .ok (.iconst 1, 1) := by decide +kernel
theorem d_S_spoilsSources_76 : decode b_S_spoilsSources 76 = .ok (.goto 4, 3) := by decide +kernel
theorem d_S_spoilsSources_79 : decode b_S_spoilsSources 79 = .ok (.iconst 0, 1) := by decide +kernel
theorem d_S_spoilsSources_80 : decode b_S_spoilsSources 80 = .ok (.ireturn, 1) := by decide +kernel
theorem d_S_spoilsSources_81 : decode b_S_spoilsSources 81 = .ok (.aload_n 0, 1) := by decide +kernel
theorem d_S_spoilsSources_82 : decode b_S_spoilsSources 82 = .ok (.aload_n 1, 1) := by decide +kernel
theorem d_S_spoilsSources_83 : decode b_S_spoilsSources 83 = .ok (.getfield 65, 3) := by decide +kernel
theorem d_S_spoilsSources_86 : decode b_S_spoilsSources 86 = .ok (.aload_n 1, 1) := by decide +kernel
theorem d_S_spoilsSources_87 : decode b_S_spoilsSources 87 = .ok (.getfield 75, 3) := by decide +kernel
theorem d_S_spoilsSources_90 : decode b_S_spoilsSources 90 = .ok (.invokevirtual 88, 3) := by decide +kernel
theorem d_S_spoilsSources_93 : decode b_S_spoilsSources 93 = .ok (.ifCond .ne 18, 3) := by decide +kernel
theorem d_S_spoilsSources_96 : decode b_S_spoilsSources 96 = .ok (.aload_n 0, 1) := by decide +kernel
theorem d_S_spoilsSources_97 : decode b_S_spoilsSources 97 = .ok (.aload_n 1, 1) := by decide +kernel
theorem d_S_spoilsSources_98 : decode b_S_spoilsSources 98 = .ok (.getfield 65, 3) := by decide +kernel
theorem d_S_spoilsSources_101 : decode b_S_spoilsSources 101 = .ok (.aload_n 1, 1) := by decide +kernel
theorem d_S_spoilsSources_102 : decode b_S_spoilsSources 102 = .ok (.getfield 81, 3) := by decide +kernel
theorem d_S_spoilsSources_105 : decode b_S_spoilsSources 105 = .ok (.invokevirtual 88, 3) := by decide +kernel
theorem d_S_spoilsSources_108 : decode b_S_spoilsSources 108 = .ok (.ifCond .eq 7, 3) := by decide +kernel
theorem d_S_spoilsSources_111 : decode b_S_spoilsSources 111 = .ok (.iconst 1, 1) := by decide +kernel
theorem d_S_spoilsSources_112 : decode b_S_spoilsSources 112 = .ok (.goto 4, 3) := by decide +kernel
theorem d_S_spoilsSources_115 : decode b_S_spoilsSources 115 = .ok (.iconst 0, 1) := by decide +kernel
theorem d_S_spoilsSources_116 : decode b_S_spoilsSources 116 = .ok (.ireturn, 1) := by decide +kernel
theorem d_S_spoilsSources_117 : decode b_S_spoilsSources 117 = .ok (.iconst 0, 1) := by decide +kernel
theorem d_S_spoilsSources_118 : decode b_S_spoilsSources 118 = .ok (.ireturn, 1) := by decide +kernel
theorem d_S_isInWideGroup_0 : decode b_S_isInWideGroup 0 = .ok (.iload_n 2, 1) := by decide +kernel
theorem d_S_isInWideGroup_1 : decode b_S_isInWideGroup 1 = .ok (.iload_n 1, 1) := by decide +kernel
theorem d_S_isInWideGroup_2 : decode b_S_isInWideGroup 2 = .ok (.if_icmp .lt 19, 3) := by decide +kernel
theorem d_S_isInWideGroup_5 : decode b_S_isInWideGroup 5 = .ok (.iload_n 2, 1) := by decide +kernel
theorem d_S_isInWideGroup_6 : decode b_S_isInWideGroup 6 = .ok (.iload_n 1, 1) := by decide +kernel
theorem d_S_isInWideGroup_7 : decode b_S_isInWideGroup 7 = .ok (.iconst 2, 1) := by decide +kernel
theorem d_S_isInWideGroup_8 : decode b_S_isInWideGroup 8 = .ok (.aload_n 0, 1) := by decide +kernel
theorem d_S_isInWideGroup_9 : decode b_S_isInWideGroup 9 = .ok (.invokevirtual 59, 3) := by decide +kernel
theorem d_S_isInWideGroup_12 : decode b_S_isInWideGroup 12 = .ok (.imul, 1) := by decide +kernel
theorem d_S_isInWideGroup_13 : decode b_S_isInWideGroup 13 = .ok (.iadd, 1) := by decide +kernel
theorem d_S_isInWideGroup_14 : decode b_S_isInWideGroup 14 = .ok (.if_icmp .ge 7, 3) := by decide +kernel
theorem d_S_isInWideGroup_17 : decode b_S_isInWideGroup 17 = .ok (.iconst 1, 1) := by decide +kernel
theorem d_S_isInWideGroup_18 : decode b_S_isInWideGroup 18 = .ok (.goto 4, 3) := by decide +kernel
theorem d_S_isInWideGroup_21 : decode b_S_isInWideGroup 21 = .ok (.iconst 0, 1) := by decide +kernel
theorem d_S_isInWideGroup_22 : decode b_S_isInWideGroup 22 = .ok (.ireturn, 1) := by decide +kernel
theorem d_S_isTooWide_0 : decode b_S_isTooWide 0 = .ok (.aload_n 1, 1) := by decide +kernel
theorem d_S_isTooWide_1 : decode b_S_isTooWide 1 = .ok (.getfield 56, 3) := by decide +kernel
theorem d_S_isTooWide_4 : decode b_S_isTooWide 4 = .ok (.bipush 13, 2) := by decide +kernel
theorem d_S_isTooWide_6 : decode b_S_isTooWide 6 = .ok (.if_icmp .ne 23, 3) := by decide +kernel
theorem d_S_isTooWide_9 : decode b_S_isTooWide 9 = .ok (.aload_n 0, 1) := by decide +kernel
theorem d_S_isTooWide_10 : decode b_S_isTooWide 10 = .ok (.invokevirtual 91, 3) := by decide +kernel
theorem d_S_isTooWide_13 : decode b_S_isTooWide 13 = .ok (.iconst 4, 1) := by decide +kernel
theorem d_S_isTooWide_14 : decode b_S_isTooWide 14 = .ok (.if_icmp .eq 11, 3) := by decide +kernel
theorem d_S_isTooWide_17 : decode b_S_isTooWide 17 = .ok (.aload_n 0, 1) := by decide +kernel
theorem d_S_isTooWide_18 : decode b_S_isTooWide 18 = .ok (.invokevirtual 59, 3) := by decide +kernel
theorem d_S_isTooWide_21 : decode b_S_isTooWide 21 = .ok (.iconst 4, 1) := by decide +kernel
theorem d_S_isTooWide_22 : decode b_S_isTooWide 22 = .ok (.if_icmp .ne 7, 3) := by decide +kernel
theorem d_S_isTooWide_25 : decode b_S_isTooWide 25 = .ok (.iconst 1, 1) := by decide +kernel
theorem d_S_isTooWide_26 : decode b_S_isTooWide 26 = .ok (.goto 4, 3) := by decide +kernel
theorem d_S_isTooWide_29 : decode b_S_isTooWide 29 = .ok (.iconst 0, 1) := by decide +kernel
theorem d_S_isTooWide_30 : decode b_S_isTooWide 30 = .ok (.ireturn, 1) := by decide +kernel
theorem d_S_most_0 : decode b_S_most 0 = .ok (.bipush 8, 2) := by decide +kernel
theorem d_S_most_2 : decode b_S_most 2 = .ok (.aload_n 0, 1) := by decide +kernel
theorem d_S_most_3 : decode b_S_most 3 = .ok (.getfield 15, 3) := by decide +kernel
theorem d_S_most_6 : decode b_S_most 6 = .ok (.ishl, 1) := by decide +kernel
theorem d_S_most_7 : decode b_S_most 7 = .ok (.aload_n 0, 1) := by decide +kernel
theorem d_S_most_8 : decode b_S_most 8 = .ok (.getfield 9, 3) := by decide +kernel
theorem d_S_most_11 : decode b_S_most 11 = .ok (.ishr, 1) := by decide +kernel
theorem d_S_most_12 : decode b_S_most 12 = .ok (.ireturn, 1) := by decide +kernel
theorem d_S_configure_0 : decode b_S_configure 0 = .ok (.aload_n 0, 1) := by decide +kernel
theorem d_S_configure_1 : decode b_S_configure 1 = .ok (.iload_n 1, 1) := by decide +kernel
theorem d_S_configure_2 : decode b_S_configure 2 = .ok (.iconst 4, 1) := by decide +kernel
theorem d_S_configure_3 : decode b_S_configure 3 = .ok (.irem, 1) := by decide +kernel
theorem d_S_configure_4 : decode b_S_configure 4 = .ok (.putfield 9, 3) := by decide +kernel
theorem d_S_configure_7 : decode b_S_configure 7 = .ok (.aload_n 0, 1) := by decide +kernel
theorem d_S_configure_8 : decode b_S_configure 8 = .ok (.iload_n 1, 1) := by decide +kernel
theorem d_S_configure_9 : decode b_S_configure 9 = .ok (.iconst 4, 1) := by decide +kernel
theorem d_S_configure_10 : decode b_S_configure 10 = .ok (.idiv, 1) := by decide +kernel
theorem d_S_configure_11 : decode b_S_configure 11 = .ok (.putfield 15, 3) := by decide +kernel
theorem d_S_configure_14 : decode b_S_configure 14 = .ok (.aload_n 0, 1) := by decide +kernel
theorem d_S_configure_15 : decode b_S_configure 15 = .ok (.iconst 0, 1) := by decide +kernel
theorem d_S_configure_16 : decode b_S_configure 16 = .ok (.aload_n 0, 1) := by decide +kernel
theorem d_S_configure_17 : decode b_S_configure 17 = .ok (.invokevirtual 18, 3) := by decide +kernel
theorem d_S_configure_20 : decode b_S_configure 20 = .ok (.iload_n 2, 1) := by decide +kernel
theorem d_S_configure_21 : decode b_S_configure 21 = .ok (.invokestatic 22, 3) := by decide +kernel
theorem d_S_configure_24 : decode b_S_configure 24 = .ok (.invokestatic 28, 3) := by decide +kernel
theorem d_S_configure_27 : decode b_S_configure 27 = .ok (.putfield 31, 3) := by decide +kernel
theorem d_S_configure_30 : decode b_S_configure 30 = .ok (.aload_n 0, 1) := by decide +kernel
theorem d_S_configure_31 : decode b_S_configure 31 = .ok (.iconst 0, 1) := by decide +kernel
theorem d_S_configure_32 : decode b_S_configure 32 = .ok (.putfield 34, 3) := by decide +kernel
theorem d_S_configure_35 : decode b_S_configure 35 = .ok (.return_, 1) := by decide +kernel
