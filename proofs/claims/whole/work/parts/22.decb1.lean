theorem d_Mo_addAll_17 : decode b_Mo_addAll 17 = .ok (.iload 5, 2) := by decide +kernel
theorem d_Mo_addAll_19 : decode b_Mo_addAll 19 = .ok (.bipush 48, 2) := by decide +kernel
theorem d_Mo_addAll_21 : decode b_Mo_addAll 21 = .ok (.if_icmp .ge 89, 3) := by decide +kernel
theorem d_Mo_addAll_24 : decode b_Mo_addAll 24 = .ok (.iload_n 2, 1) := by decide +kernel
theorem d_Mo_addAll_25 : decode b_Mo_addAll 25 = .ok (.ifCond .ne 85, 3) := by decide +kernel
theorem d_Mo_addAll_28 : decode b_Mo_addAll 28 = .ok (.aload_n 0, 1) := by decide +kernel
theorem d_Mo_addAll_29 : decode b_Mo_addAll 29 = .ok (.getfield 33, 3) := by decide +kernel
theorem d_Mo_addAll_32 : decode b_Mo_addAll 32 = .ok (.bipush 48, 2) := by decide +kernel
theorem d_Mo_addAll_34 : decode b_Mo_addAll 34 = .ok (.iload_n 1, 1) := by decide +kernel
theorem d_Mo_addAll_35 : decode b_Mo_addAll 35 = .ok (.imul, 1) := by decide +kernel
theorem d_Mo_addAll_36 : decode b_Mo_addAll 36 = .ok (.iload 5, 2) := by decide +kernel
theorem d_Mo_addAll_38 : decode b_Mo_addAll 38 = .ok (.iadd, 1) := by decide +kernel
theorem d_Mo_addAll_39 : decode b_Mo_addAll 39 = .ok (.iaload, 1) := by decide +kernel
theorem d_Mo_addAll_40 : decode b_Mo_addAll 40 = .ok (.istore 6, 2) := by decide +kernel
theorem d_Mo_addAll_42 : decode b_Mo_addAll 42 = .ok (.iload 6, 2) := by decide +kernel
theorem d_Mo_addAll_44 : decode b_Mo_addAll 44 = .ok (.ifCond .le 60, 3) := by decide +kernel
theorem d_Mo_addAll_47 : decode b_Mo_addAll 47 = .ok (.aload_n 0, 1) := by decide +kernel
theorem d_Mo_addAll_48 : decode b_Mo_addAll 48 = .ok (.getfield 36, 3) := by decide +kernel
theorem d_Mo_addAll_51 : decode b_Mo_addAll 51 = .ok (.bipush 48, 2) := by decide +kernel
theorem d_Mo_addAll_53 : decode b_Mo_addAll 53 = .ok (.iload_n 1, 1) := by decide +kernel
theorem d_Mo_addAll_54 : decode b_Mo_addAll 54 = .ok (.imul, 1) := by decide +kernel
theorem d_Mo_addAll_55 : decode b_Mo_addAll 55 = .ok (.iload 5, 2) := by decide +kernel
theorem d_Mo_addAll_57 : decode b_Mo_addAll 57 = .ok (.iadd, 1) := by decide +kernel
theorem d_Mo_addAll_58 : decode b_Mo_addAll 58 = .ok (.baload, 1) := by decide +kernel
theorem d_Mo_addAll_59 : decode b_Mo_addAll 59 = .ok (.ifCond .ne 45, 3) := by decide +kernel
theorem d_Mo_addAll_62 : decode b_Mo_addAll 62 = .ok (.aload_n 0, 1) := by decide +kernel
theorem d_Mo_addAll_63 : decode b_Mo_addAll 63 = .ok (.iload 6, 2) := by decide +kernel
theorem d_Mo_addAll_65 : decode b_Mo_addAll 65 = .ok (.invokevirtual 144, 3) := by decide +kernel
theorem d_Mo_addAll_68 : decode b_Mo_addAll 68 = .ok (.ifCond .eq 36, 3) := by decide +kernel
theorem d_Mo_addAll_71 : decode b_Mo_addAll 71 = .ok (.aload_n 0, 1) := by decide +kernel
theorem d_Mo_addAll_72 : decode b_Mo_addAll 72 = .ok (.iload 6, 2) := by decide +kernel
theorem d_Mo_addAll_74 : decode b_Mo_addAll 74 = .ok (.iconst 0, 1) := by decide +kernel
theorem d_Mo_addAll_75 : decode b_Mo_addAll 75 = .ok (.invokevirtual 147, 3) := by decide +kernel
theorem d_Mo_addAll_78 : decode b_Mo_addAll 78 = .ok (.lload_n 3, 1) := by decide +kernel
theorem d_Mo_addAll_79 : decode b_Mo_addAll 79 = .ok (.ldc2_w 138, 3) := by decide +kernel
theorem d_Mo_addAll_82 : decode b_Mo_addAll 82 = .ok (.lxor, 1) := by decide +kernel
theorem d_Mo_addAll_83 : decode b_Mo_addAll 83 = .ok (.land, 1) := by decide +kernel
theorem d_Mo_addAll_84 : decode b_Mo_addAll 84 = .ok (.lconst 0, 1) := by decide +kernel
theorem d_Mo_addAll_85 : decode b_Mo_addAll 85 = .ok (.lcmp, 1) := by decide +kernel
theorem d_Mo_addAll_86 : decode b_Mo_addAll 86 = .ok (.ifCond .ne 18, 3) := by decide +kernel
theorem d_Mo_addAll_89 : decode b_Mo_addAll 89 = .ok (.aload_n 0, 1) := by decide +kernel
theorem d_Mo_addAll_90 : decode b_Mo_addAll 90 = .ok (.getfield 36, 3) := by decide +kernel
theorem d_Mo_addAll_93 : decode b_Mo_addAll 93 = .ok (.bipush 48, 2) := by decide +kernel
theorem d_Mo_addAll_95 : decode b_Mo_addAll 95 = .ok (.iload_n 1, 1) := by decide +kernel
theorem d_Mo_addAll_96 : decode b_Mo_addAll 96 = .ok (.imul, 1) := by decide +kernel
theorem d_Mo_addAll_97 : decode b_Mo_addAll 97 = .ok (.iload 5, 2) := by decide +kernel
theorem d_Mo_addAll_99 : decode b_Mo_addAll 99 = .ok (.iadd, 1) := by decide +kernel
theorem d_Mo_addAll_100 : decode b_Mo_addAll 100 = .ok (.iconst 1, 1) := by decide +kernel
theorem d_Mo_addAll_101 : decode b_Mo_addAll 101 = .ok (.bastore, 1) := by decide +kernel
theorem d_Mo_addAll_102 : decode b_Mo_addAll 102 = .ok (.iconst 1, 1) := by decide +kernel
theorem d_Mo_addAll_103 : decode b_Mo_addAll 103 = .ok (.istore_n 2, 1) := by decide +kernel
theorem d_Mo_addAll_104 : decode b_Mo_addAll 104 = .ok (.iinc 5 1, 3) := by decide +kernel
theorem d_Mo_addAll_107 : decode b_Mo_addAll 107 = .ok (.goto (-90), 3) := by decide +kernel
theorem d_Mo_addAll_110 : decode b_Mo_addAll 110 = .ok (.goto (-108), 3) := by decide +kernel
theorem d_Mo_addAll_113 : decode b_Mo_addAll 113 = .ok (.return_, 1) := by decide +kernel
theorem d_Mo_below_0 : decode b_Mo_below 0 = .ok (.lload_n 2, 1) := by decide +kernel
theorem d_Mo_below_1 : decode b_Mo_below 1 = .ok (.lstore 5, 2) := by decide +kernel
theorem d_Mo_below_3 : decode b_Mo_below 3 = .ok (.bipush 47, 2) := by decide +kernel
theorem d_Mo_below_5 : decode b_Mo_below 5 = .ok (.istore 7, 2) := by decide +kernel
theorem d_Mo_below_7 : decode b_Mo_below 7 = .ok (.iload 7, 2) := by decide +kernel
theorem d_Mo_below_9 : decode b_Mo_below 9 = .ok (.ifCond .lt 53, 3) := by decide +kernel
theorem d_Mo_below_12 : decode b_Mo_below 12 = .ok (.aload_n 0, 1) := by decide +kernel
theorem d_Mo_below_13 : decode b_Mo_below 13 = .ok (.getfield 33, 3) := by decide +kernel
theorem d_Mo_below_16 : decode b_Mo_below 16 = .ok (.bipush 48, 2) := by decide +kernel
theorem d_Mo_below_18 : decode b_Mo_below 18 = .ok (.iload_n 1, 1) := by decide +kernel
theorem d_Mo_below_19 : decode b_Mo_below 19 = .ok (.imul, 1) := by decide +kernel
theorem d_Mo_below_20 : decode b_Mo_below 20 = .ok (.iload 7, 2) := by decide +kernel
theorem d_Mo_below_22 : decode b_Mo_below 22 = .ok (.iadd, 1) := by decide +kernel
theorem d_Mo_below_23 : decode b_Mo_below 23 = .ok (.iaload, 1) := by decide +kernel
theorem d_Mo_below_24 : decode b_Mo_below 24 = .ok (.istore 8, 2) := by decide +kernel
theorem d_Mo_below_26 : decode b_Mo_below 26 = .ok (.lload 5, 2) := by decide +kernel
theorem d_Mo_below_28 : decode b_Mo_below 28 = .ok (.iload 7, 2) := by decide +kernel
theorem d_Mo_below_30 : decode b_Mo_below 30 = .ok (.lshr, 1) := by decide +kernel
theorem d_Mo_below_31 : decode b_Mo_below 31 = .ok (.lconst 1, 1) := by decide +kernel
theorem d_Mo_below_32 : decode b_Mo_below 32 = .ok (.land, 1) := by decide +kernel
theorem d_Mo_below_33 : decode b_Mo_below 33 = .ok (.lconst 1, 1) := by decide +kernel
theorem d_Mo_below_34 : decode b_Mo_below 34 = .ok (.lcmp, 1) := by decide +kernel
theorem d_Mo_below_35 : decode b_Mo_below 35 = .ok (.ifCond .ne 21, 3) := by decide +kernel
theorem d_Mo_below_38 : decode b_Mo_below 38 = .ok (.iload 8, 2) := by decide +kernel
theorem d_Mo_below_40 : decode b_Mo_below 40 = .ok (.ifCond .le 16, 3) := by decide +kernel
theorem d_Mo_below_43 : decode b_Mo_below 43 = .ok (.lload 5, 2) := by decide +kernel
theorem d_Mo_below_45 : decode b_Mo_below 45 = .ok (.aload_n 0, 1) := by decide +kernel
theorem d_Mo_below_46 : decode b_Mo_below 46 = .ok (.iload 8, 2) := by decide +kernel
theorem d_Mo_below_48 : decode b_Mo_below 48 = .ok (.iload 4, 2) := by decide +kernel
theorem d_Mo_below_50 : decode b_Mo_below 50 = .ok (.invokevirtual 147, 3) := by decide +kernel
theorem d_Mo_below_53 : decode b_Mo_below 53 = .ok (.lor, 1) := by decide +kernel
theorem d_Mo_below_54 : decode b_Mo_below 54 = .ok (.lstore 5, 2) := by decide +kernel
theorem d_Mo_below_56 : decode b_Mo_below 56 = .ok (.iinc 7 (-1), 3) := by decide +kernel
theorem d_Mo_below_59 : decode b_Mo_below 59 = .ok (.goto (-52), 3) := by decide +kernel
theorem d_Mo_below_62 : decode b_Mo_below 62 = .ok (.lload 5, 2) := by decide +kernel
theorem d_Mo_below_64 : decode b_Mo_below 64 = .ok (.lreturn, 1) := by decide +kernel
theorem d_Mo_inRound_0 : decode b_Mo_inRound 0 = .ok (.iconst 0, 1) := by decide +kernel
theorem d_Mo_inRound_1 : decode b_Mo_inRound 1 = .ok (.istore_n 3, 1) := by decide +kernel
theorem d_Mo_inRound_2 : decode b_Mo_inRound 2 = .ok (.iconst 0, 1) := by decide +kernel
theorem d_Mo_inRound_3 : decode b_Mo_inRound 3 = .ok (.istore 4, 2) := by decide +kernel
theorem d_Mo_inRound_5 : decode b_Mo_inRound 5 = .ok (.iload 4, 2) := by decide +kernel
theorem d_Mo_inRound_7 : decode b_Mo_inRound 7 = .ok (.iconst 4, 1) := by decide +kernel
theorem d_Mo_inRound_8 : decode b_Mo_inRound 8 = .ok (.if_icmp .ge 41, 3) := by decide +kernel
theorem d_Mo_inRound_11 : decode b_Mo_inRound 11 = .ok (.iload_n 3, 1) := by decide +kernel
theorem d_Mo_inRound_12 : decode b_Mo_inRound 12 = .ok (.aload_n 0, 1) := by decide +kernel
theorem d_Mo_inRound_13 : decode b_Mo_inRound 13 = .ok (.getfield 36, 3) := by decide +kernel
theorem d_Mo_inRound_16 : decode b_Mo_inRound 16 = .ok (.bipush 48, 2) := by decide +kernel
theorem d_Mo_inRound_18 : decode b_Mo_inRound 18 = .ok (.iload_n 1, 1) := by decide +kernel
theorem d_Mo_inRound_19 : decode b_Mo_inRound 19 = .ok (.imul, 1) := by decide +kernel
theorem d_Mo_inRound_20 : decode b_Mo_inRound 20 = .ok (.iconst 4, 1) := by decide +kernel
theorem d_Mo_inRound_21 : decode b_Mo_inRound 21 = .ok (.iload_n 2, 1) := by decide +kernel
theorem d_Mo_inRound_22 : decode b_Mo_inRound 22 = .ok (.iconst 1, 1) := by decide +kernel
theorem d_Mo_inRound_23 : decode b_Mo_inRound 23 = .ok (.isub, 1) := by decide +kernel
theorem d_Mo_inRound_24 : decode b_Mo_inRound 24 = .ok (.imul, 1) := by decide +kernel
theorem d_Mo_inRound_25 : decode b_Mo_inRound 25 = .ok (.iadd, 1) := by decide +kernel
theorem d_Mo_inRound_26 : decode b_Mo_inRound 26 = .ok (.iload 4, 2) := by decide +kernel
theorem d_Mo_inRound_28 : decode b_Mo_inRound 28 = .ok (.iadd, 1) := by decide +kernel
theorem d_Mo_inRound_29 : decode b_Mo_inRound 29 = .ok (.baload, 1) := by decide +kernel
theorem d_Mo_inRound_30 : decode b_Mo_inRound 30 = .ok (.ifCond .eq 10, 3) := by decide +kernel
theorem d_Mo_inRound_33 : decode b_Mo_inRound 33 = .ok (.iconst 1, 1) := by decide +kernel
theorem d_Mo_inRound_34 : decode b_Mo_inRound 34 = .ok (.iload 4, 2) := by decide +kernel
theorem d_Mo_inRound_36 : decode b_Mo_inRound 36 = .ok (.ishl, 1) := by decide +kernel
theorem d_Mo_inRound_37 : decode b_Mo_inRound 37 = .ok (.goto 4, 3) := by decide +kernel
theorem d_Mo_inRound_40 : decode b_Mo_inRound 40 = .ok (.iconst 0, 1) := by decide +kernel
theorem d_Mo_inRound_41 : decode b_Mo_inRound 41 = .ok (.iadd, 1) := by decide +kernel
theorem d_Mo_inRound_42 : decode b_Mo_inRound 42 = .ok (.istore_n 3, 1) := by decide +kernel
theorem d_Mo_inRound_43 : decode b_Mo_inRound 43 = .ok (.iinc 4 1, 3) := by decide +kernel
theorem d_Mo_inRound_46 : decode b_Mo_inRound 46 = .ok (.goto (-41), 3) := by decide +kernel
theorem d_Mo_inRound_49 : decode b_Mo_inRound 49 = .ok (.iload_n 3, 1) := by decide +kernel
theorem d_Mo_inRound_50 : decode b_Mo_inRound 50 = .ok (.ireturn, 1) := by decide +kernel
theorem d_Mo_leader_0 : decode b_Mo_leader 0 = .ok (.bipush 16, 2) := by decide +kernel
theorem d_Mo_leader_2 : decode b_Mo_leader 2 = .ok (.iload_n 1, 1) := by decide +kernel
theorem d_Mo_leader_3 : decode b_Mo_leader 3 = .ok (.iconst 1, 1) := by decide +kernel
theorem d_Mo_leader_4 : decode b_Mo_leader 4 = .ok (.isub, 1) := by decide +kernel
theorem d_Mo_leader_5 : decode b_Mo_leader 5 = .ok (.imul, 1) := by decide +kernel
theorem d_Mo_leader_6 : decode b_Mo_leader 6 = .ok (.aload_n 0, 1) := by decide +kernel
theorem d_Mo_leader_7 : decode b_Mo_leader 7 = .ok (.getfield 79, 3) := by decide +kernel
theorem d_Mo_leader_10 : decode b_Mo_leader 10 = .ok (.iconst 2, 1) := by decide +kernel
theorem d_Mo_leader_11 : decode b_Mo_leader 11 = .ok (.iload_n 1, 1) := by decide +kernel
theorem d_Mo_leader_12 : decode b_Mo_leader 12 = .ok (.iconst 1, 1) := by decide +kernel
theorem d_Mo_leader_13 : decode b_Mo_leader 13 = .ok (.isub, 1) := by decide +kernel
theorem d_Mo_leader_14 : decode b_Mo_leader 14 = .ok (.imul, 1) := by decide +kernel
theorem d_Mo_leader_15 : decode b_Mo_leader 15 = .ok (.ishr, 1) := by decide +kernel
theorem d_Mo_leader_16 : decode b_Mo_leader 16 = .ok (.iconst 3, 1) := by decide +kernel
theorem d_Mo_leader_17 : decode b_Mo_leader 17 = .ok (.iand, 1) := by decide +kernel
theorem d_Mo_leader_18 : decode b_Mo_leader 18 = .ok (.iadd, 1) := by decide +kernel
theorem d_Mo_leader_19 : decode b_Mo_leader 19 = .ok (.ireturn, 1) := by decide +kernel
theorem d_Mo_done_0 : decode b_Mo_done 0 = .ok (.aload_n 0, 1) := by decide +kernel
theorem d_Mo_done_1 : decode b_Mo_done 1 = .ok (.iload_n 2, 1) := by decide +kernel
theorem d_Mo_done_2 : decode b_Mo_done 2 = .ok (.invokevirtual 151, 3) := by decide +kernel
theorem d_Mo_done_5 : decode b_Mo_done 5 = .ok (.istore_n 3, 1) := by decide +kernel
theorem d_Mo_done_6 : decode b_Mo_done 6 = .ok (.aload_n 0, 1) := by decide +kernel
theorem d_Mo_done_7 : decode b_Mo_done 7 = .ok (.getfield 36, 3) := by decide +kernel
theorem d_Mo_done_10 : decode b_Mo_done 10 = .ok (.bipush 48, 2) := by decide +kernel
theorem d_Mo_done_12 : decode b_Mo_done 12 = .ok (.iload_n 1, 1) := by decide +kernel
theorem d_Mo_done_13 : decode b_Mo_done 13 = .ok (.imul, 1) := by decide +kernel
theorem d_Mo_done_14 : decode b_Mo_done 14 = .ok (.iload_n 3, 1) := by decide +kernel
theorem d_Mo_done_15 : decode b_Mo_done 15 = .ok (.iadd, 1) := by decide +kernel
theorem d_Mo_done_16 : decode b_Mo_done 16 = .ok (.baload, 1) := by decide +kernel
theorem d_Mo_done_17 : decode b_Mo_done 17 = .ok (.ifCond .ne 4, 3) := by decide +kernel
theorem d_Mo_done_20 : decode b_Mo_done 20 = .ok (.return_, 1) := by decide +kernel
theorem d_Mo_done_21 : decode b_Mo_done 21 = .ok (.iconst 0, 1) := by decide +kernel
theorem d_Mo_done_22 : decode b_Mo_done 22 = .ok (.istore 4, 2) := by decide +kernel
theorem d_Mo_done_24 : decode b_Mo_done 24 = .ok (.iconst 0, 1) := by decide +kernel
theorem d_Mo_done_25 : decode b_Mo_done 25 = .ok (.istore 5, 2) := by decide +kernel
theorem d_Mo_done_27 : decode b_Mo_done 27 = .ok (.iload 5, 2) := by decide +kernel
theorem d_Mo_done_29 : decode b_Mo_done 29 = .ok (.iconst 4, 1) := by decide +kernel
theorem d_Mo_done_30 : decode b_Mo_done 30 = .ok (.if_icmp .ge 57, 3) := by decide +kernel
theorem d_Mo_done_33 : decode b_Mo_done 33 = .ok (.bipush 16, 2) := by decide +kernel
theorem d_Mo_done_35 : decode b_Mo_done 35 = .ok (.iload_n 2, 1) := by decide +kernel
theorem d_Mo_done_36 : decode b_Mo_done 36 = .ok (.imul, 1) := by decide +kernel
theorem d_Mo_done_37 : decode b_Mo_done 37 = .ok (.iconst 4, 1) := by decide +kernel
theorem d_Mo_done_38 : decode b_Mo_done 38 = .ok (.isub, 1) := by decide +kernel
theorem d_Mo_done_39 : decode b_Mo_done 39 = .ok (.iload 5, 2) := by decide +kernel
theorem d_Mo_done_41 : decode b_Mo_done 41 = .ok (.iadd, 1) := by decide +kernel
theorem d_Mo_done_42 : decode b_Mo_done 42 = .ok (.istore 6, 2) := by decide +kernel
theorem d_Mo_done_44 : decode b_Mo_done 44 = .ok (.aload_n 0, 1) := by decide +kernel
theorem d_Mo_done_45 : decode b_Mo_done 45 = .ok (.getfield 36, 3) := by decide +kernel
theorem d_Mo_done_48 : decode b_Mo_done 48 = .ok (.bipush 48, 2) := by decide +kernel
theorem d_Mo_done_50 : decode b_Mo_done 50 = .ok (.iload_n 1, 1) := by decide +kernel
theorem d_Mo_done_51 : decode b_Mo_done 51 = .ok (.imul, 1) := by decide +kernel
theorem d_Mo_done_52 : decode b_Mo_done 52 = .ok (.iload 6, 2) := by decide +kernel
theorem d_Mo_done_54 : decode b_Mo_done 54 = .ok (.iadd, 1) := by decide +kernel
theorem d_Mo_done_55 : decode b_Mo_done 55 = .ok (.baload, 1) := by decide +kernel
theorem d_Mo_done_56 : decode b_Mo_done 56 = .ok (.ifCond .eq 25, 3) := by decide +kernel
theorem d_Mo_done_59 : decode b_Mo_done 59 = .ok (.aload_n 0, 1) := by decide +kernel
theorem d_Mo_done_60 : decode b_Mo_done 60 = .ok (.iload_n 1, 1) := by decide +kernel
theorem d_Mo_done_61 : decode b_Mo_done 61 = .ok (.lconst 1, 1) := by decide +kernel
theorem d_Mo_done_62 : decode b_Mo_done 62 = .ok (.iload 6, 2) := by decide +kernel
theorem d_Mo_done_64 : decode b_Mo_done 64 = .ok (.lshl, 1) := by decide +kernel
theorem d_Mo_done_65 : decode b_Mo_done 65 = .ok (.iconst 1, 1) := by decide +kernel
theorem d_Mo_done_66 : decode b_Mo_done 66 = .ok (.invokevirtual 154, 3) := by decide +kernel
theorem d_Mo_done_69 : decode b_Mo_done 69 = .ok (.iload_n 3, 1) := by decide +kernel
theorem d_Mo_done_70 : decode b_Mo_done 70 = .ok (.lshr, 1) := by decide +kernel
theorem d_Mo_done_71 : decode b_Mo_done 71 = .ok (.lconst 1, 1) := by decide +kernel
theorem d_Mo_done_72 : decode b_Mo_done 72 = .ok (.land, 1) := by decide +kernel
theorem d_Mo_done_73 : decode b_Mo_done 73 = .ok (.lconst 1, 1) := by decide +kernel
theorem d_Mo_done_74 : decode b_Mo_done 74 = .ok (.lcmp, 1) := by decide +kernel
theorem d_Mo_done_75 : decode b_Mo_done 75 = .ok (.ifCond .ne 6, 3) := by decide +kernel
theorem d_Mo_done_78 : decode b_Mo_done 78 = .ok (.iinc 4 1, 3) := by decide +kernel
theorem d_Mo_done_81 : decode b_Mo_done 81 = .ok (.iinc 5 1, 3) := by decide +kernel
theorem d_Mo_done_84 : decode b_Mo_done 84 = .ok (.goto (-57), 3) := by decide +kernel
theorem d_Mo_done_87 : decode b_Mo_done 87 = .ok (.iload 4, 2) := by decide +kernel
theorem d_Mo_done_89 : decode b_Mo_done 89 = .ok (.iconst 3, 1) := by decide +kernel
theorem d_Mo_done_90 : decode b_Mo_done 90 = .ok (.if_icmp .ge 4, 3) := by decide +kernel
theorem d_Mo_done_93 : decode b_Mo_done 93 = .ok (.return_, 1) := by decide +kernel
theorem d_Mo_done_94 : decode b_Mo_done 94 = .ok (.iconst 1, 1) := by decide +kernel
theorem d_Mo_done_95 : decode b_Mo_done 95 = .ok (.istore 5, 2) := by decide +kernel
theorem d_Mo_done_97 : decode b_Mo_done 97 = .ok (.aload_n 0, 1) := by decide +kernel
theorem d_Mo_done_98 : decode b_Mo_done 98 = .ok (.getfield 72, 3) := by decide +kernel
theorem d_Mo_done_101 : decode b_Mo_done 101 = .ok (.iconst 0, 1) := by decide +kernel
theorem d_Mo_done_102 : decode b_Mo_done 102 = .ok (.iload_n 3, 1) := by decide +kernel
theorem d_Mo_done_103 : decode b_Mo_done 103 = .ok (.iastore, 1) := by decide +kernel
theorem d_Mo_done_104 : decode b_Mo_done 104 = .ok (.iload_n 2, 1) := by decide +kernel
theorem d_Mo_done_105 : decode b_Mo_done 105 = .ok (.iconst 1, 1) := by decide +kernel
theorem d_Mo_done_106 : decode b_Mo_done 106 = .ok (.isub, 1) := by decide +kernel
theorem d_Mo_done_107 : decode b_Mo_done 107 = .ok (.istore 6, 2) := by decide +kernel
theorem d_Mo_done_109 : decode b_Mo_done 109 = .ok (.iload 6, 2) := by decide +kernel
theorem d_Mo_done_111 : decode b_Mo_done 111 = .ok (.aload_n 0, 1) := by decide +kernel
theorem d_Mo_done_112 : decode b_Mo_done 112 = .ok (.getfield 57, 3) := by decide +kernel
theorem d_Mo_done_115 : decode b_Mo_done 115 = .ok (.iload_n 1, 1) := by decide +kernel
theorem d_Mo_done_116 : decode b_Mo_done 116 = .ok (.iaload, 1) := by decide +kernel
theorem d_Mo_done_117 : decode b_Mo_done 117 = .ok (.if_icmp .le 83, 3) := by decide +kernel
theorem d_Mo_done_120 : decode b_Mo_done 120 = .ok (.aload_n 0, 1) := by decide +kernel
theorem d_Mo_done_121 : decode b_Mo_done 121 = .ok (.iload 6, 2) := by decide +kernel
theorem d_Mo_done_123 : decode b_Mo_done 123 = .ok (.invokevirtual 151, 3) := by decide +kernel
theorem d_Mo_done_126 : decode b_Mo_done 126 = .ok (.istore 7, 2) := by decide +kernel
theorem d_Mo_done_128 : decode b_Mo_done 128 = .ok (.aload_n 0, 1) := by decide +kernel
theorem d_Mo_done_129 : decode b_Mo_done 129 = .ok (.getfield 36, 3) := by decide +kernel
theorem d_Mo_done_132 : decode b_Mo_done 132 = .ok (.bipush 48, 2) := by decide +kernel
theorem d_Mo_done_134 : decode b_Mo_done 134 = .ok (.iload_n 1, 1) := by decide +kernel
theorem d_Mo_done_135 : decode b_Mo_done 135 = .ok (.imul, 1) := by decide +kernel
theorem d_Mo_done_136 : decode b_Mo_done 136 = .ok (.iload 7, 2) := by decide +kernel
theorem d_Mo_done_138 : decode b_Mo_done 138 = .ok (.iadd, 1) := by decide +kernel
theorem d_Mo_done_139 : decode b_Mo_done 139 = .ok (.baload, 1) := by decide +kernel
theorem d_Mo_done_140 : decode b_Mo_done 140 = .ok (.ifCond .eq 34, 3) := by decide +kernel
theorem d_Mo_done_143 : decode b_Mo_done 143 = .ok (.aload_n 0, 1) := by decide +kernel
theorem d_Mo_done_144 : decode b_Mo_done 144 = .ok (.iload_n 1, 1) := by decide +kernel
theorem d_Mo_done_145 : decode b_Mo_done 145 = .ok (.lconst 1, 1) := by decide +kernel
theorem d_Mo_done_146 : decode b_Mo_done 146 = .ok (.aload_n 0, 1) := by decide +kernel
theorem d_Mo_done_147 : decode b_Mo_done 147 = .ok (.getfield 72, 3) := by decide +kernel
theorem d_Mo_done_150 : decode b_Mo_done 150 = .ok (.iload 5, 2) := by decide +kernel
theorem d_Mo_done_152 : decode b_Mo_done 152 = .ok (.iconst 1, 1) := by decide +kernel
theorem d_Mo_done_153 : decode b_Mo_done 153 = .ok (.isub, 1) := by decide +kernel
theorem d_Mo_done_154 : decode b_Mo_done 154 = .ok (.iaload, 1) := by decide +kernel
theorem d_Mo_done_155 : decode b_Mo_done 155 = .ok (.lshl, 1) := by decide +kernel
theorem d_Mo_done_156 : decode b_Mo_done 156 = .ok (.iconst 1, 1) := by decide +kernel
theorem d_Mo_done_157 : decode b_Mo_done 157 = .ok (.invokevirtual 154, 3) := by decide +kernel
theorem d_Mo_done_160 : decode b_Mo_done 160 = .ok (.iload 7, 2) := by decide +kernel
theorem d_Mo_done_162 : decode b_Mo_done 162 = .ok (.lshr, 1) := by decide +kernel
theorem d_Mo_done_163 : decode b_Mo_done 163 = .ok (.lconst 1, 1) := by decide +kernel
theorem d_Mo_done_164 : decode b_Mo_done 164 = .ok (.land, 1) := by decide +kernel
theorem d_Mo_done_165 : decode b_Mo_done 165 = .ok (.lconst 1, 1) := by decide +kernel
theorem d_Mo_done_166 : decode b_Mo_done 166 = .ok (.lcmp, 1) := by decide +kernel
theorem d_Mo_done_167 : decode b_Mo_done 167 = .ok (.ifCond .ne 7, 3) := by decide +kernel
theorem d_Mo_done_170 : decode b_Mo_done 170 = .ok (.iconst 1, 1) := by decide +kernel
theorem d_Mo_done_171 : decode b_Mo_done 171 = .ok (.goto 4, 3) := by decide +kernel
theorem d_Mo_done_174 : decode b_Mo_done 174 = .ok (.iconst 0, 1) := by decide +kernel
theorem d_Mo_done_175 : decode b_Mo_done 175 = .ok (.istore 8, 2) := by decide +kernel
theorem d_Mo_done_177 : decode b_Mo_done 177 = .ok (.iload 8, 2) := by decide +kernel
theorem d_Mo_done_179 : decode b_Mo_done 179 = .ok (.ifCond .eq 15, 3) := by decide +kernel
theorem d_Mo_done_182 : decode b_Mo_done 182 = .ok (.aload_n 0, 1) := by decide +kernel
theorem d_Mo_done_183 : decode b_Mo_done 183 = .ok (.getfield 72, 3) := by decide +kernel
theorem d_Mo_done_186 : decode b_Mo_done 186 = .ok (.iload 5, 2) := by decide +kernel
theorem d_Mo_done_188 : decode b_Mo_done 188 = .ok (.iload 7, 2) := by decide +kernel
theorem d_Mo_done_190 : decode b_Mo_done 190 = .ok (.iastore, 1) := by decide +kernel
theorem d_Mo_done_191 : decode b_Mo_done 191 = .ok (.iinc 5 1, 3) := by decide +kernel
theorem d_Mo_done_194 : decode b_Mo_done 194 = .ok (.iinc 6 (-1), 3) := by decide +kernel
theorem d_Mo_done_197 : decode b_Mo_done 197 = .ok (.goto (-88), 3) := by decide +kernel
theorem d_Mo_done_200 : decode b_Mo_done 200 = .ok (.aload_n 0, 1) := by decide +kernel
theorem d_Mo_done_201 : decode b_Mo_done 201 = .ok (.getfield 57, 3) := by decide +kernel
theorem d_Mo_done_204 : decode b_Mo_done 204 = .ok (.iload_n 1, 1) := by decide +kernel
theorem d_Mo_done_205 : decode b_Mo_done 205 = .ok (.iload_n 2, 1) := by decide +kernel
theorem d_Mo_done_206 : decode b_Mo_done 206 = .ok (.iastore, 1) := by decide +kernel
theorem d_Mo_done_207 : decode b_Mo_done 207 = .ok (.iload 5, 2) := by decide +kernel
theorem d_Mo_done_209 : decode b_Mo_done 209 = .ok (.iconst 1, 1) := by decide +kernel
theorem d_Mo_done_210 : decode b_Mo_done 210 = .ok (.isub, 1) := by decide +kernel
theorem d_Mo_done_211 : decode b_Mo_done 211 = .ok (.istore 6, 2) := by decide +kernel
theorem d_Mo_done_213 : decode b_Mo_done 213 = .ok (.iload 6, 2) := by decide +kernel
theorem d_Mo_done_215 : decode b_Mo_done 215 = .ok (.ifCond .lt 21, 3) := by decide +kernel
theorem d_Mo_done_218 : decode b_Mo_done 218 = .ok (.aload_n 0, 1) := by decide +kernel
theorem d_Mo_done_219 : decode b_Mo_done 219 = .ok (.iload_n 1, 1) := by decide +kernel
theorem d_Mo_done_220 : decode b_Mo_done 220 = .ok (.aload_n 0, 1) := by decide +kernel
theorem d_Mo_done_221 : decode b_Mo_done 221 = .ok (.getfield 72, 3) := by decide +kernel
theorem d_Mo_done_224 : decode b_Mo_done 224 = .ok (.iload 6, 2) := by decide +kernel
theorem d_Mo_done_226 : decode b_Mo_done 226 = .ok (.iaload, 1) := by decide +kernel
theorem d_Mo_done_227 : decode b_Mo_done 227 = .ok (.invokevirtual 158, 3) := by decide +kernel
theorem d_Mo_done_230 : decode b_Mo_done 230 = .ok (.iinc 6 (-1), 3) := by decide +kernel
theorem d_Mo_done_233 : decode b_Mo_done 233 = .ok (.goto (-20), 3) := by decide +kernel
theorem d_Mo_done_236 : decode b_Mo_done 236 = .ok (.return_, 1) := by decide +kernel
theorem d_Mo_orderBelow_0 : decode b_Mo_orderBelow 0 = .ok (.aload_n 0, 1) := by decide +kernel
theorem d_Mo_orderBelow_1 : decode b_Mo_orderBelow 1 = .ok (.iload_n 1, 1) := by decide +kernel
theorem d_Mo_orderBelow_2 : decode b_Mo_orderBelow 2 = .ok (.lconst 1, 1) := by decide +kernel
theorem d_Mo_orderBelow_3 : decode b_Mo_orderBelow 3 = .ok (.iload_n 2, 1) := by decide +kernel
theorem d_Mo_orderBelow_4 : decode b_Mo_orderBelow 4 = .ok (.lshl, 1) := by decide +kernel
theorem d_Mo_orderBelow_5 : decode b_Mo_orderBelow 5 = .ok (.iconst 0, 1) := by decide +kernel
theorem d_Mo_orderBelow_6 : decode b_Mo_orderBelow 6 = .ok (.invokevirtual 154, 3) := by decide +kernel
theorem d_Mo_orderBelow_9 : decode b_Mo_orderBelow 9 = .ok (.lstore_n 3, 1) := by decide +kernel
theorem d_Mo_orderBelow_10 : decode b_Mo_orderBelow 10 = .ok (.iconst 0, 1) := by decide +kernel
theorem d_Mo_orderBelow_11 : decode b_Mo_orderBelow 11 = .ok (.istore 5, 2) := by decide +kernel
theorem d_Mo_orderBelow_13 : decode b_Mo_orderBelow 13 = .ok (.iload 5, 2) := by decide +kernel
theorem d_Mo_orderBelow_15 : decode b_Mo_orderBelow 15 = .ok (.bipush 48, 2) := by decide +kernel
theorem d_Mo_orderBelow_17 : decode b_Mo_orderBelow 17 = .ok (.if_icmp .ge 92, 3) := by decide +kernel
theorem d_Mo_orderBelow_20 : decode b_Mo_orderBelow 20 = .ok (.bipush 48, 2) := by decide +kernel
theorem d_Mo_orderBelow_22 : decode b_Mo_orderBelow 22 = .ok (.iload_n 1, 1) := by decide +kernel
theorem d_Mo_orderBelow_23 : decode b_Mo_orderBelow 23 = .ok (.imul, 1) := by decide +kernel
theorem d_Mo_orderBelow_24 : decode b_Mo_orderBelow 24 = .ok (.iload 5, 2) := by decide +kernel
theorem d_Mo_orderBelow_26 : decode b_Mo_orderBelow 26 = .ok (.iadd, 1) := by decide +kernel
theorem d_Mo_orderBelow_27 : decode b_Mo_orderBelow 27 = .ok (.istore 6, 2) := by decide +kernel
theorem d_Mo_orderBelow_29 : decode b_Mo_orderBelow 29 = .ok (.lload_n 3, 1) := by decide +kernel
theorem d_Mo_orderBelow_30 : decode b_Mo_orderBelow 30 = .ok (.iload 5, 2) := by decide +kernel
theorem d_Mo_orderBelow_32 : decode b_Mo_orderBelow 32 = .ok (.lshr, 1) := by decide +kernel
theorem d_Mo_orderBelow_33 : decode b_Mo_orderBelow 33 = .ok (.lconst 1, 1) := by decide +kernel
theorem d_Mo_orderBelow_34 : decode b_Mo_orderBelow 34 = .ok (.land, 1) := by decide +kernel
theorem d_Mo_orderBelow_35 : decode b_Mo_orderBelow 35 = .ok (.lconst 1, 1) := by decide +kernel
theorem d_Mo_orderBelow_36 : decode b_Mo_orderBelow 36 = .ok (.lcmp, 1) := by decide +kernel
theorem d_Mo_orderBelow_37 : decode b_Mo_orderBelow 37 = .ok (.ifCond .ne 66, 3) := by decide +kernel
theorem d_Mo_orderBelow_40 : decode b_Mo_orderBelow 40 = .ok (.aload_n 0, 1) := by decide +kernel
theorem d_Mo_orderBelow_41 : decode b_Mo_orderBelow 41 = .ok (.getfield 39, 3) := by decide +kernel
theorem d_Mo_orderBelow_44 : decode b_Mo_orderBelow 44 = .ok (.iload 6, 2) := by decide +kernel
theorem d_Mo_orderBelow_46 : decode b_Mo_orderBelow 46 = .ok (.baload, 1) := by decide +kernel
theorem d_Mo_orderBelow_47 : decode b_Mo_orderBelow 47 = .ok (.ifCond .ne 56, 3) := by decide +kernel
theorem d_Mo_orderBelow_50 : decode b_Mo_orderBelow 50 = .ok (.aload_n 0, 1) := by decide +kernel
theorem d_Mo_orderBelow_51 : decode b_Mo_orderBelow 51 = .ok (.getfield 39, 3) := by decide +kernel
theorem d_Mo_orderBelow_54 : decode b_Mo_orderBelow 54 = .ok (.iload 6, 2) := by decide +kernel
theorem d_Mo_orderBelow_56 : decode b_Mo_orderBelow 56 = .ok (.iconst 1, 1) := by decide +kernel
theorem d_Mo_orderBelow_57 : decode b_Mo_orderBelow 57 = .ok (.bastore, 1) := by decide +kernel
theorem d_Mo_orderBelow_58 : decode b_Mo_orderBelow 58 = .ok (.aload_n 0, 1) := by decide +kernel
theorem d_Mo_orderBelow_59 : decode b_Mo_orderBelow 59 = .ok (.getfield 42, 3) := by decide +kernel
theorem d_Mo_orderBelow_62 : decode b_Mo_orderBelow 62 = .ok (.bipush 48, 2) := by decide +kernel
theorem d_Mo_orderBelow_64 : decode b_Mo_orderBelow 64 = .ok (.iload_n 1, 1) := by decide +kernel
theorem d_Mo_orderBelow_65 : decode b_Mo_orderBelow 65 = .ok (.imul, 1) := by decide +kernel
theorem d_Mo_orderBelow_66 : decode b_Mo_orderBelow 66 = .ok (.aload_n 0, 1) := by decide +kernel
theorem d_Mo_orderBelow_67 : decode b_Mo_orderBelow 67 = .ok (.getfield 60, 3) := by decide +kernel
theorem d_Mo_orderBelow_70 : decode b_Mo_orderBelow 70 = .ok (.iload_n 1, 1) := by decide +kernel
theorem d_Mo_orderBelow_71 : decode b_Mo_orderBelow 71 = .ok (.iaload, 1) := by decide +kernel
theorem d_Mo_orderBelow_72 : decode b_Mo_orderBelow 72 = .ok (.iadd, 1) := by decide +kernel
theorem d_Mo_orderBelow_73 : decode b_Mo_orderBelow 73 = .ok (.iload 5, 2) := by decide +kernel
theorem d_Mo_orderBelow_75 : decode b_Mo_orderBelow 75 = .ok (.iastore, 1) := by decide +kernel
theorem d_Mo_orderBelow_76 : decode b_Mo_orderBelow 76 = .ok (.aload_n 0, 1) := by decide +kernel
theorem d_Mo_orderBelow_77 : decode b_Mo_orderBelow 77 = .ok (.getfield 60, 3) := by decide +kernel
theorem d_Mo_orderBelow_80 : decode b_Mo_orderBelow 80 = .ok (.iload_n 1, 1) := by decide +kernel
theorem d_Mo_orderBelow_81 : decode b_Mo_orderBelow 81 = .ok (.dup2, 1) := by decide +kernel
theorem d_Mo_orderBelow_82 : decode b_Mo_orderBelow 82 = .ok (.iaload, 1) := by decide +kernel
theorem d_Mo_orderBelow_83 : decode b_Mo_orderBelow 83 = .ok (.iconst 1, 1) := by decide +kernel
theorem d_Mo_orderBelow_84 : decode b_Mo_orderBelow 84 = .ok (.iadd, 1) := by decide +kernel
theorem d_Mo_orderBelow_85 : decode b_Mo_orderBelow 85 = .ok (.iastore, 1) := by decide +kernel
theorem d_Mo_orderBelow_86 : decode b_Mo_orderBelow 86 = .ok (.aload_n 0, 1) := by decide +kernel
theorem d_Mo_orderBelow_87 : decode b_Mo_orderBelow 87 = .ok (.iload_n 1, 1) := by decide +kernel
theorem d_Mo_orderBelow_88 : decode b_Mo_orderBelow 88 = .ok (.aload_n 0, 1) := by decide +kernel
theorem d_Mo_orderBelow_89 : decode b_Mo_orderBelow 89 = .ok (.getfield 20, 3) := by decide +kernel
theorem d_Mo_orderBelow_92 : decode b_Mo_orderBelow 92 = .ok (.aload_n 0, 1) := by decide +kernel
theorem d_Mo_orderBelow_93 : decode b_Mo_orderBelow 93 = .ok (.getfield 33, 3) := by decide +kernel
theorem d_Mo_orderBelow_96 : decode b_Mo_orderBelow 96 = .ok (.iload 6, 2) := by decide +kernel
theorem d_Mo_orderBelow_98 : decode b_Mo_orderBelow 98 = .ok (.iaload, 1) := by decide +kernel
theorem d_Mo_orderBelow_99 : decode b_Mo_orderBelow 99 = .ok (.iaload, 1) := by decide +kernel
theorem d_Mo_orderBelow_100 : decode b_Mo_orderBelow 100 = .ok (.invokevirtual 162, 3) := by decide +kernel
theorem d_Mo_orderBelow_103 : decode b_Mo_orderBelow 103 = .ok (.iinc 5 1, 3) := by decide +kernel
theorem d_Mo_orderBelow_106 : decode b_Mo_orderBelow 106 = .ok (.goto (-93), 3) := by decide +kernel
theorem d_Mo_orderBelow_109 : decode b_Mo_orderBelow 109 = .ok (.return_, 1) := by decide +kernel
theorem d_Mo_make_0 : decode b_Mo_make 0 = .ok (.iload_n 2, 1) := by decide +kernel
theorem d_Mo_make_1 : decode b_Mo_make 1 = .ok (.sipush 1000, 3) := by decide +kernel
theorem d_Mo_make_4 : decode b_Mo_make 4 = .ok (.idiv, 1) := by decide +kernel
theorem d_Mo_make_5 : decode b_Mo_make 5 = .ok (.istore_n 3, 1) := by decide +kernel
theorem d_Mo_make_6 : decode b_Mo_make 6 = .ok (.iconst 4, 1) := by decide +kernel
theorem d_Mo_make_7 : decode b_Mo_make 7 = .ok (.iload_n 1, 1) := by decide +kernel
theorem d_Mo_make_8 : decode b_Mo_make 8 = .ok (.imul, 1) := by decide +kernel
theorem d_Mo_make_9 : decode b_Mo_make 9 = .ok (.iload_n 2, 1) := by decide +kernel
theorem d_Mo_make_10 : decode b_Mo_make 10 = .ok (.bipush 10, 2) := by decide +kernel
theorem d_Mo_make_12 : decode b_Mo_make 12 = .ok (.idiv, 1) := by decide +kernel
theorem d_Mo_make_13 : decode b_Mo_make 13 = .ok (.bipush 10, 2) := by decide +kernel
theorem d_Mo_make_15 : decode b_Mo_make 15 = .ok (.irem, 1) := by decide +kernel
theorem d_Mo_make_16 : decode b_Mo_make 16 = .ok (.iadd, 1) := by decide +kernel
theorem d_Mo_make_17 : decode b_Mo_make 17 = .ok (.istore 4, 2) := by decide +kernel
theorem d_Mo_make_19 : decode b_Mo_make 19 = .ok (.iconst 4, 1) := by decide +kernel
theorem d_Mo_make_20 : decode b_Mo_make 20 = .ok (.iload_n 1, 1) := by decide +kernel
theorem d_Mo_make_21 : decode b_Mo_make 21 = .ok (.imul, 1) := by decide +kernel
theorem d_Mo_make_22 : decode b_Mo_make 22 = .ok (.iload_n 2, 1) := by decide +kernel
theorem d_Mo_make_23 : decode b_Mo_make 23 = .ok (.bipush 10, 2) := by decide +kernel
theorem d_Mo_make_25 : decode b_Mo_make 25 = .ok (.irem, 1) := by decide +kernel
theorem d_Mo_make_26 : decode b_Mo_make 26 = .ok (.iadd, 1) := by decide +kernel
theorem d_Mo_make_27 : decode b_Mo_make 27 = .ok (.istore 5, 2) := by decide +kernel
theorem d_Mo_make_29 : decode b_Mo_make 29 = .ok (.iload_n 2, 1) := by decide +kernel
theorem d_Mo_make_30 : decode b_Mo_make 30 = .ok (.ifCond .eq 14, 3) := by decide +kernel
theorem d_Mo_make_33 : decode b_Mo_make 33 = .ok (.aload_n 0, 1) := by decide +kernel
theorem d_Mo_make_34 : decode b_Mo_make 34 = .ok (.getfield 63, 3) := by decide +kernel
theorem d_Mo_make_37 : decode b_Mo_make 37 = .ok (.iload 4, 2) := by decide +kernel
theorem d_Mo_make_39 : decode b_Mo_make 39 = .ok (.iaload, 1) := by decide +kernel
theorem d_Mo_make_40 : decode b_Mo_make 40 = .ok (.iload_n 3, 1) := by decide +kernel
theorem d_Mo_make_41 : decode b_Mo_make 41 = .ok (.if_icmp .ge 4, 3) := by decide +kernel
theorem d_Mo_make_44 : decode b_Mo_make 44 = .ok (.return_, 1) := by decide +kernel
theorem d_Mo_make_45 : decode b_Mo_make 45 = .ok (.aload_n 0, 1) := by decide +kernel
theorem d_Mo_make_46 : decode b_Mo_make 46 = .ok (.getfield 63, 3) := by decide +kernel
theorem d_Mo_make_49 : decode b_Mo_make 49 = .ok (.iload 4, 2) := by decide +kernel
theorem d_Mo_make_51 : decode b_Mo_make 51 = .ok (.dup2, 1) := by decide +kernel
theorem d_Mo_make_52 : decode b_Mo_make 52 = .ok (.iaload, 1) := by decide +kernel
theorem d_Mo_make_53 : decode b_Mo_make 53 = .ok (.iload_n 3, 1) := by decide +kernel
theorem d_Mo_make_54 : decode b_Mo_make 54 = .ok (.isub, 1) := by decide +kernel
theorem d_Mo_make_55 : decode b_Mo_make 55 = .ok (.iastore, 1) := by decide +kernel
theorem d_Mo_make_56 : decode b_Mo_make 56 = .ok (.aload_n 0, 1) := by decide +kernel
theorem d_Mo_make_57 : decode b_Mo_make 57 = .ok (.getfield 63, 3) := by decide +kernel
theorem d_Mo_make_60 : decode b_Mo_make 60 = .ok (.iload 5, 2) := by decide +kernel
theorem d_Mo_make_62 : decode b_Mo_make 62 = .ok (.dup2, 1) := by decide +kernel
theorem d_Mo_make_63 : decode b_Mo_make 63 = .ok (.iaload, 1) := by decide +kernel
theorem d_Mo_make_64 : decode b_Mo_make 64 = .ok (.iload_n 3, 1) := by decide +kernel
theorem d_Mo_make_65 : decode b_Mo_make 65 = .ok (.iadd, 1) := by decide +kernel
theorem d_Mo_make_66 : decode b_Mo_make 66 = .ok (.iastore, 1) := by decide +kernel
theorem d_Mo_make_67 : decode b_Mo_make 67 = .ok (.return_, 1) := by decide +kernel
theorem d_Mo_newVertex_0 : decode b_Mo_newVertex 0 = .ok (.aload_n 0, 1) := by decide +kernel
theorem d_Mo_newVertex_1 : decode b_Mo_newVertex 1 = .ok (.dup, 1) := by decide +kernel
theorem d_Mo_newVertex_2 : decode b_Mo_newVertex 2 = .ok (.getfield 165, 3) := by decide +kernel
theorem d_Mo_newVertex_5 : decode b_Mo_newVertex 5 = .ok (.iconst 1, 1) := by decide +kernel
theorem d_Mo_newVertex_6 : decode b_Mo_newVertex 6 = .ok (.iadd, 1) := by decide +kernel
theorem d_Mo_newVertex_7 : decode b_Mo_newVertex 7 = .ok (.putfield 165, 3) := by decide +kernel
theorem d_Mo_newVertex_10 : decode b_Mo_newVertex 10 = .ok (.aload_n 0, 1) := by decide +kernel
theorem d_Mo_newVertex_11 : decode b_Mo_newVertex 11 = .ok (.getfield 7, 3) := by decide +kernel
theorem d_Mo_newVertex_14 : decode b_Mo_newVertex 14 = .ok (.aload_n 0, 1) := by decide +kernel
theorem d_Mo_newVertex_15 : decode b_Mo_newVertex 15 = .ok (.getfield 165, 3) := by decide +kernel
theorem d_Mo_newVertex_18 : decode b_Mo_newVertex 18 = .ok (.iload_n 1, 1) := by decide +kernel
theorem d_Mo_newVertex_19 : decode b_Mo_newVertex 19 = .ok (.iastore, 1) := by decide +kernel
theorem d_Mo_newVertex_20 : decode b_Mo_newVertex 20 = .ok (.aload_n 0, 1) := by decide +kernel
theorem d_Mo_newVertex_21 : decode b_Mo_newVertex 21 = .ok (.getfield 13, 3) := by decide +kernel
theorem d_Mo_newVertex_24 : decode b_Mo_newVertex 24 = .ok (.aload_n 0, 1) := by decide +kernel
theorem d_Mo_newVertex_25 : decode b_Mo_newVertex 25 = .ok (.getfield 165, 3) := by decide +kernel
theorem d_Mo_newVertex_28 : decode b_Mo_newVertex 28 = .ok (.iload_n 2, 1) := by decide +kernel
theorem d_Mo_newVertex_29 : decode b_Mo_newVertex 29 = .ok (.iastore, 1) := by decide +kernel
theorem d_Mo_newVertex_30 : decode b_Mo_newVertex 30 = .ok (.aload_n 0, 1) := by decide +kernel
theorem d_Mo_newVertex_31 : decode b_Mo_newVertex 31 = .ok (.getfield 16, 3) := by decide +kernel
theorem d_Mo_newVertex_34 : decode b_Mo_newVertex 34 = .ok (.aload_n 0, 1) := by decide +kernel
theorem d_Mo_newVertex_35 : decode b_Mo_newVertex 35 = .ok (.getfield 165, 3) := by decide +kernel
theorem d_Mo_newVertex_38 : decode b_Mo_newVertex 38 = .ok (.lload_n 3, 1) := by decide +kernel
theorem d_Mo_newVertex_39 : decode b_Mo_newVertex 39 = .ok (.lastore, 1) := by decide +kernel
theorem d_Mo_newVertex_40 : decode b_Mo_newVertex 40 = .ok (.aload_n 0, 1) := by decide +kernel
theorem d_Mo_newVertex_41 : decode b_Mo_newVertex 41 = .ok (.getfield 20, 3) := by decide +kernel
theorem d_Mo_newVertex_44 : decode b_Mo_newVertex 44 = .ok (.aload_n 0, 1) := by decide +kernel
theorem d_Mo_newVertex_45 : decode b_Mo_newVertex 45 = .ok (.getfield 165, 3) := by decide +kernel
theorem d_Mo_newVertex_48 : decode b_Mo_newVertex 48 = .ok (.iload 5, 2) := by decide +kernel
theorem d_Mo_newVertex_50 : decode b_Mo_newVertex 50 = .ok (.iastore, 1) := by decide +kernel
theorem d_Mo_newVertex_51 : decode b_Mo_newVertex 51 = .ok (.aload_n 0, 1) := by decide +kernel
theorem d_Mo_newVertex_52 : decode b_Mo_newVertex 52 = .ok (.getfield 165, 3) := by decide +kernel
theorem d_Mo_newVertex_55 : decode b_Mo_newVertex 55 = .ok (.ireturn, 1) := by decide +kernel
theorem d_Mo_firstTransfer_0 : decode b_Mo_firstTransfer 0 = .ok (.aload_n 0, 1) := by decide +kernel
theorem d_Mo_firstTransfer_1 : decode b_Mo_firstTransfer 1 = .ok (.getfield 69, 3) := by decide +kernel
theorem d_Mo_firstTransfer_4 : decode b_Mo_firstTransfer 4 = .ok (.iload_n 1, 1) := by decide +kernel
theorem d_Mo_firstTransfer_5 : decode b_Mo_firstTransfer 5 = .ok (.iaload, 1) := by decide +kernel
theorem d_Mo_firstTransfer_6 : decode b_Mo_firstTransfer 6 = .ok (.ifCond .ne 5, 3) := by decide +kernel
theorem d_Mo_firstTransfer_9 : decode b_Mo_firstTransfer 9 = .ok (.iconst 0, 1) := by decide +kernel
theorem d_Mo_firstTransfer_10 : decode b_Mo_firstTransfer 10 = .ok (.ireturn, 1) := by decide +kernel
theorem d_Mo_firstTransfer_11 : decode b_Mo_firstTransfer 11 = .ok (.aload_n 0, 1) := by decide +kernel
theorem d_Mo_firstTransfer_12 : decode b_Mo_firstTransfer 12 = .ok (.getfield 66, 3) := by decide +kernel
theorem d_Mo_firstTransfer_15 : decode b_Mo_firstTransfer 15 = .ok (.bipush 12, 2) := by decide +kernel
theorem d_Mo_firstTransfer_17 : decode b_Mo_firstTransfer 17 = .ok (.iload_n 1, 1) := by decide +kernel
theorem d_Mo_firstTransfer_18 : decode b_Mo_firstTransfer 18 = .ok (.imul, 1) := by decide +kernel
theorem d_Mo_firstTransfer_19 : decode b_Mo_firstTransfer 19 = .ok (.iaload, 1) := by decide +kernel
theorem d_Mo_firstTransfer_20 : decode b_Mo_firstTransfer 20 = .ok (.istore_n 2, 1) := by decide +kernel
theorem d_Mo_firstTransfer_21 : decode b_Mo_firstTransfer 21 = .ok (.aload_n 0, 1) := by decide +kernel
theorem d_Mo_firstTransfer_22 : decode b_Mo_firstTransfer 22 = .ok (.getfield 69, 3) := by decide +kernel
theorem d_Mo_firstTransfer_25 : decode b_Mo_firstTransfer 25 = .ok (.iload_n 1, 1) := by decide +kernel
theorem d_Mo_firstTransfer_26 : decode b_Mo_firstTransfer 26 = .ok (.dup2, 1) := by decide +kernel
theorem d_Mo_firstTransfer_27 : decode b_Mo_firstTransfer 27 = .ok (.iaload, 1) := by decide +kernel
theorem d_Mo_firstTransfer_28 : decode b_Mo_firstTransfer 28 = .ok (.iconst 1, 1) := by decide +kernel
theorem d_Mo_firstTransfer_29 : decode b_Mo_firstTransfer 29 = .ok (.isub, 1) := by decide +kernel
theorem d_Mo_firstTransfer_30 : decode b_Mo_firstTransfer 30 = .ok (.iastore, 1) := by decide +kernel
theorem d_Mo_firstTransfer_31 : decode b_Mo_firstTransfer 31 = .ok (.iconst 0, 1) := by decide +kernel
theorem d_Mo_firstTransfer_32 : decode b_Mo_firstTransfer 32 = .ok (.istore_n 3, 1) := by decide +kernel
theorem d_Mo_firstTransfer_33 : decode b_Mo_firstTransfer 33 = .ok (.iload_n 3, 1) := by decide +kernel
theorem d_Mo_firstTransfer_34 : decode b_Mo_firstTransfer 34 = .ok (.aload_n 0, 1) := by decide +kernel
theorem d_Mo_firstTransfer_35 : decode b_Mo_firstTransfer 35 = .ok (.getfield 69, 3) := by decide +kernel
theorem d_Mo_firstTransfer_38 : decode b_Mo_firstTransfer 38 = .ok (.iload_n 1, 1) := by decide +kernel
theorem d_Mo_firstTransfer_39 : decode b_Mo_firstTransfer 39 = .ok (.iaload, 1) := by decide +kernel
theorem d_Mo_firstTransfer_40 : decode b_Mo_firstTransfer 40 = .ok (.if_icmp .ge 33, 3) := by decide +kernel
theorem d_Mo_firstTransfer_43 : decode b_Mo_firstTransfer 43 = .ok (.aload_n 0, 1) := by decide +kernel
theorem d_Mo_firstTransfer_44 : decode b_Mo_firstTransfer 44 = .ok (.getfield 66, 3) := by decide +kernel
theorem d_Mo_firstTransfer_47 : decode b_Mo_firstTransfer 47 = .ok (.bipush 12, 2) := by decide +kernel
theorem d_Mo_firstTransfer_49 : decode b_Mo_firstTransfer 49 = .ok (.iload_n 1, 1) := by decide +kernel
theorem d_Mo_firstTransfer_50 : decode b_Mo_firstTransfer 50 = .ok (.imul, 1) := by decide +kernel
theorem d_Mo_firstTransfer_51 : decode b_Mo_firstTransfer 51 = .ok (.iload_n 3, 1) := by decide +kernel
theorem d_Mo_firstTransfer_52 : decode b_Mo_firstTransfer 52 = .ok (.iadd, 1) := by decide +kernel
theorem d_Mo_firstTransfer_53 : decode b_Mo_firstTransfer 53 = .ok (.aload_n 0, 1) := by decide +kernel
theorem d_Mo_firstTransfer_54 : decode b_Mo_firstTransfer 54 = .ok (.getfield 66, 3) := by decide +kernel
theorem d_Mo_firstTransfer_57 : decode b_Mo_firstTransfer 57 = .ok (.bipush 12, 2) := by decide +kernel
theorem d_Mo_firstTransfer_59 : decode b_Mo_firstTransfer 59 = .ok (.iload_n 1, 1) := by decide +kernel
theorem d_Mo_firstTransfer_60 : decode b_Mo_firstTransfer 60 = .ok (.imul, 1) := by decide +kernel
theorem d_Mo_firstTransfer_61 : decode b_Mo_firstTransfer 61 = .ok (.iload_n 3, 1) := by decide +kernel
theorem d_Mo_firstTransfer_62 : decode b_Mo_firstTransfer 62 = .ok (.iadd, 1) := by decide +kernel
theorem d_Mo_firstTransfer_63 : decode b_Mo_firstTransfer 63 = .ok (.iconst 1, 1) := by decide +kernel
theorem d_Mo_firstTransfer_64 : decode b_Mo_firstTransfer 64 = .ok (.iadd, 1) := by decide +kernel
theorem d_Mo_firstTransfer_65 : decode b_Mo_firstTransfer 65 = .ok (.iaload, 1) := by decide +kernel
theorem d_Mo_firstTransfer_66 : decode b_Mo_firstTransfer 66 = .ok (.iastore, 1) := by decide +kernel
theorem d_Mo_firstTransfer_67 : decode b_Mo_firstTransfer 67 = .ok (.iinc 3 1, 3) := by decide +kernel
theorem d_Mo_firstTransfer_70 : decode b_Mo_firstTransfer 70 = .ok (.goto (-37), 3) := by decide +kernel
theorem d_Mo_firstTransfer_73 : decode b_Mo_firstTransfer 73 = .ok (.iload_n 2, 1) := by decide +kernel
theorem d_Mo_firstTransfer_74 : decode b_Mo_firstTransfer 74 = .ok (.ireturn, 1) := by decide +kernel
theorem d_Mo_makeVertex_0 : decode b_Mo_makeVertex 0 = .ok (.iload_n 2, 1) := by decide +kernel
theorem d_Mo_makeVertex_1 : decode b_Mo_makeVertex 1 = .ok (.iconst 1, 1) := by decide +kernel
theorem d_Mo_makeVertex_2 : decode b_Mo_makeVertex 2 = .ok (.if_icmp .ne 7, 3) := by decide +kernel
theorem d_Mo_makeVertex_5 : decode b_Mo_makeVertex 5 = .ok (.iconst 0, 1) := by decide +kernel
theorem d_Mo_makeVertex_6 : decode b_Mo_makeVertex 6 = .ok (.goto 11, 3) := by decide +kernel
theorem d_Mo_makeVertex_9 : decode b_Mo_makeVertex 9 = .ok (.aload_n 0, 1) := by decide +kernel
theorem d_Mo_makeVertex_10 : decode b_Mo_makeVertex 10 = .ok (.iload_n 1, 1) := by decide +kernel
theorem d_Mo_makeVertex_11 : decode b_Mo_makeVertex 11 = .ok (.iload_n 2, 1) := by decide +kernel
theorem d_Mo_makeVertex_12 : decode b_Mo_makeVertex 12 = .ok (.iconst 1, 1) := by decide +kernel
theorem d_Mo_makeVertex_13 : decode b_Mo_makeVertex 13 = .ok (.isub, 1) := by decide +kernel
theorem d_Mo_makeVertex_14 : decode b_Mo_makeVertex 14 = .ok (.invokevirtual 168, 3) := by decide +kernel
theorem d_Mo_makeVertex_17 : decode b_Mo_makeVertex 17 = .ok (.istore_n 3, 1) := by decide +kernel
theorem d_Mo_makeVertex_18 : decode b_Mo_makeVertex 18 = .ok (.lconst 0, 1) := by decide +kernel
theorem d_Mo_makeVertex_19 : decode b_Mo_makeVertex 19 = .ok (.lstore 4, 2) := by decide +kernel
theorem d_Mo_makeVertex_21 : decode b_Mo_makeVertex 21 = .ok (.iload_n 2, 1) := by decide +kernel
theorem d_Mo_makeVertex_22 : decode b_Mo_makeVertex 22 = .ok (.iconst 1, 1) := by decide +kernel
theorem d_Mo_makeVertex_23 : decode b_Mo_makeVertex 23 = .ok (.if_icmp .ne 7, 3) := by decide +kernel
theorem d_Mo_makeVertex_26 : decode b_Mo_makeVertex 26 = .ok (.lconst 0, 1) := by decide +kernel
theorem d_Mo_makeVertex_27 : decode b_Mo_makeVertex 27 = .ok (.goto 17, 3) := by decide +kernel
theorem d_Mo_makeVertex_30 : decode b_Mo_makeVertex 30 = .ok (.aload_n 0, 1) := by decide +kernel
theorem d_Mo_makeVertex_31 : decode b_Mo_makeVertex 31 = .ok (.iload_n 1, 1) := by decide +kernel
theorem d_Mo_makeVertex_32 : decode b_Mo_makeVertex 32 = .ok (.iload_n 3, 1) := by decide +kernel
theorem d_Mo_makeVertex_33 : decode b_Mo_makeVertex 33 = .ok (.i2l, 1) := by decide +kernel
theorem d_Mo_makeVertex_34 : decode b_Mo_makeVertex 34 = .ok (.iconst 4, 1) := by decide +kernel
theorem d_Mo_makeVertex_35 : decode b_Mo_makeVertex 35 = .ok (.iload_n 2, 1) := by decide +kernel
theorem d_Mo_makeVertex_36 : decode b_Mo_makeVertex 36 = .ok (.iconst 2, 1) := by decide +kernel
theorem d_Mo_makeVertex_37 : decode b_Mo_makeVertex 37 = .ok (.isub, 1) := by decide +kernel
theorem d_Mo_makeVertex_38 : decode b_Mo_makeVertex 38 = .ok (.imul, 1) := by decide +kernel
theorem d_Mo_makeVertex_39 : decode b_Mo_makeVertex 39 = .ok (.lshl, 1) := by decide +kernel
theorem d_Mo_makeVertex_40 : decode b_Mo_makeVertex 40 = .ok (.iconst 0, 1) := by decide +kernel
theorem d_Mo_makeVertex_41 : decode b_Mo_makeVertex 41 = .ok (.invokevirtual 154, 3) := by decide +kernel
theorem d_Mo_makeVertex_44 : decode b_Mo_makeVertex 44 = .ok (.lstore 6, 2) := by decide +kernel
theorem d_Mo_makeVertex_46 : decode b_Mo_makeVertex 46 = .ok (.iload_n 2, 1) := by decide +kernel
theorem d_Mo_makeVertex_47 : decode b_Mo_makeVertex 47 = .ok (.iconst 2, 1) := by decide +kernel
theorem d_Mo_makeVertex_48 : decode b_Mo_makeVertex 48 = .ok (.isub, 1) := by decide +kernel
theorem d_Mo_makeVertex_49 : decode b_Mo_makeVertex 49 = .ok (.istore 8, 2) := by decide +kernel
theorem d_Mo_makeVertex_51 : decode b_Mo_makeVertex 51 = .ok (.iload 8, 2) := by decide +kernel
theorem d_Mo_makeVertex_53 : decode b_Mo_makeVertex 53 = .ok (.iconst 1, 1) := by decide +kernel
theorem d_Mo_makeVertex_54 : decode b_Mo_makeVertex 54 = .ok (.if_icmp .lt 86, 3) := by decide +kernel
theorem d_Mo_makeVertex_57 : decode b_Mo_makeVertex 57 = .ok (.iconst 0, 1) := by decide +kernel
theorem d_Mo_makeVertex_58 : decode b_Mo_makeVertex 58 = .ok (.istore 9, 2) := by decide +kernel
theorem d_Mo_makeVertex_60 : decode b_Mo_makeVertex 60 = .ok (.iload 9, 2) := by decide +kernel
theorem d_Mo_makeVertex_62 : decode b_Mo_makeVertex 62 = .ok (.iconst 4, 1) := by decide +kernel
theorem d_Mo_makeVertex_63 : decode b_Mo_makeVertex 63 = .ok (.if_icmp .ge 71, 3) := by decide +kernel
theorem d_Mo_makeVertex_66 : decode b_Mo_makeVertex 66 = .ok (.iconst 4, 1) := by decide +kernel
theorem d_Mo_makeVertex_67 : decode b_Mo_makeVertex 67 = .ok (.iload 8, 2) := by decide +kernel
theorem d_Mo_makeVertex_69 : decode b_Mo_makeVertex 69 = .ok (.iconst 1, 1) := by decide +kernel
theorem d_Mo_makeVertex_70 : decode b_Mo_makeVertex 70 = .ok (.isub, 1) := by decide +kernel
theorem d_Mo_makeVertex_71 : decode b_Mo_makeVertex 71 = .ok (.imul, 1) := by decide +kernel
theorem d_Mo_makeVertex_72 : decode b_Mo_makeVertex 72 = .ok (.iload 9, 2) := by decide +kernel
theorem d_Mo_makeVertex_74 : decode b_Mo_makeVertex 74 = .ok (.iadd, 1) := by decide +kernel
theorem d_Mo_makeVertex_75 : decode b_Mo_makeVertex 75 = .ok (.istore 10, 2) := by decide +kernel
theorem d_Mo_makeVertex_77 : decode b_Mo_makeVertex 77 = .ok (.aload_n 0, 1) := by decide +kernel
theorem d_Mo_makeVertex_78 : decode b_Mo_makeVertex 78 = .ok (.getfield 36, 3) := by decide +kernel
theorem d_Mo_makeVertex_81 : decode b_Mo_makeVertex 81 = .ok (.bipush 48, 2) := by decide +kernel
theorem d_Mo_makeVertex_83 : decode b_Mo_makeVertex 83 = .ok (.iload_n 1, 1) := by decide +kernel
theorem d_Mo_makeVertex_84 : decode b_Mo_makeVertex 84 = .ok (.imul, 1) := by decide +kernel
theorem d_Mo_makeVertex_85 : decode b_Mo_makeVertex 85 = .ok (.iload 10, 2) := by decide +kernel
theorem d_Mo_makeVertex_87 : decode b_Mo_makeVertex 87 = .ok (.iadd, 1) := by decide +kernel
theorem d_Mo_makeVertex_88 : decode b_Mo_makeVertex 88 = .ok (.baload, 1) := by decide +kernel
theorem d_Mo_makeVertex_89 : decode b_Mo_makeVertex 89 = .ok (.ifCond .eq 39, 3) := by decide +kernel
theorem d_Mo_makeVertex_92 : decode b_Mo_makeVertex 92 = .ok (.lload 6, 2) := by decide +kernel
theorem d_Mo_makeVertex_94 : decode b_Mo_makeVertex 94 = .ok (.iload 10, 2) := by decide +kernel
theorem d_Mo_makeVertex_96 : decode b_Mo_makeVertex 96 = .ok (.lshr, 1) := by decide +kernel
theorem d_Mo_makeVertex_97 : decode b_Mo_makeVertex 97 = .ok (.lconst 1, 1) := by decide +kernel
theorem d_Mo_makeVertex_98 : decode b_Mo_makeVertex 98 = .ok (.land, 1) := by decide +kernel
theorem d_Mo_makeVertex_99 : decode b_Mo_makeVertex 99 = .ok (.lconst 0, 1) := by decide +kernel
theorem d_Mo_makeVertex_100 : decode b_Mo_makeVertex 100 = .ok (.lcmp, 1) := by decide +kernel
theorem d_Mo_makeVertex_101 : decode b_Mo_makeVertex 101 = .ok (.ifCond .ne 27, 3) := by decide +kernel
theorem d_Mo_makeVertex_104 : decode b_Mo_makeVertex 104 = .ok (.lload 4, 2) := by decide +kernel
theorem d_Mo_makeVertex_106 : decode b_Mo_makeVertex 106 = .ok (.lconst 1, 1) := by decide +kernel
theorem d_Mo_makeVertex_107 : decode b_Mo_makeVertex 107 = .ok (.iload 10, 2) := by decide +kernel
theorem d_Mo_makeVertex_109 : decode b_Mo_makeVertex 109 = .ok (.lshl, 1) := by decide +kernel
theorem d_Mo_makeVertex_110 : decode b_Mo_makeVertex 110 = .ok (.lor, 1) := by decide +kernel
theorem d_Mo_makeVertex_111 : decode b_Mo_makeVertex 111 = .ok (.lstore 4, 2) := by decide +kernel
theorem d_Mo_makeVertex_113 : decode b_Mo_makeVertex 113 = .ok (.aload_n 0, 1) := by decide +kernel
theorem d_Mo_makeVertex_114 : decode b_Mo_makeVertex 114 = .ok (.iload_n 1, 1) := by decide +kernel
theorem d_Mo_makeVertex_115 : decode b_Mo_makeVertex 115 = .ok (.lload 6, 2) := by decide +kernel
theorem d_Mo_makeVertex_117 : decode b_Mo_makeVertex 117 = .ok (.lconst 1, 1) := by decide +kernel
theorem d_Mo_makeVertex_118 : decode b_Mo_makeVertex 118 = .ok (.iload 10, 2) := by decide +kernel
theorem d_Mo_makeVertex_120 : decode b_Mo_makeVertex 120 = .ok (.lshl, 1) := by decide +kernel
theorem d_Mo_makeVertex_121 : decode b_Mo_makeVertex 121 = .ok (.lor, 1) := by decide +kernel
theorem d_Mo_makeVertex_122 : decode b_Mo_makeVertex 122 = .ok (.iconst 0, 1) := by decide +kernel
theorem d_Mo_makeVertex_123 : decode b_Mo_makeVertex 123 = .ok (.invokevirtual 154, 3) := by decide +kernel
theorem d_Mo_makeVertex_126 : decode b_Mo_makeVertex 126 = .ok (.lstore 6, 2) := by decide +kernel
theorem d_Mo_makeVertex_128 : decode b_Mo_makeVertex 128 = .ok (.iinc 9 1, 3) := by decide +kernel
theorem d_Mo_makeVertex_131 : decode b_Mo_makeVertex 131 = .ok (.goto (-71), 3) := by decide +kernel
theorem d_Mo_makeVertex_134 : decode b_Mo_makeVertex 134 = .ok (.iinc 8 (-1), 3) := by decide +kernel
theorem d_Mo_makeVertex_137 : decode b_Mo_makeVertex 137 = .ok (.goto (-86), 3) := by decide +kernel
theorem d_Mo_makeVertex_140 : decode b_Mo_makeVertex 140 = .ok (.aload_n 0, 1) := by decide +kernel
theorem d_Mo_makeVertex_141 : decode b_Mo_makeVertex 141 = .ok (.iload_n 1, 1) := by decide +kernel
theorem d_Mo_makeVertex_142 : decode b_Mo_makeVertex 142 = .ok (.invokevirtual 172, 3) := by decide +kernel
theorem d_Mo_makeVertex_145 : decode b_Mo_makeVertex 145 = .ok (.istore 8, 2) := by decide +kernel
theorem d_Mo_makeVertex_147 : decode b_Mo_makeVertex 147 = .ok (.aload_n 0, 1) := by decide +kernel
theorem d_Mo_makeVertex_148 : decode b_Mo_makeVertex 148 = .ok (.iconst 4, 1) := by decide +kernel
theorem d_Mo_makeVertex_149 : decode b_Mo_makeVertex 149 = .ok (.iload_n 2, 1) := by decide +kernel
theorem d_Mo_makeVertex_150 : decode b_Mo_makeVertex 150 = .ok (.iconst 1, 1) := by decide +kernel
theorem d_Mo_makeVertex_151 : decode b_Mo_makeVertex 151 = .ok (.isub, 1) := by decide +kernel
theorem d_Mo_makeVertex_152 : decode b_Mo_makeVertex 152 = .ok (.imul, 1) := by decide +kernel
theorem d_Mo_makeVertex_153 : decode b_Mo_makeVertex 153 = .ok (.iload_n 1, 1) := by decide +kernel
theorem d_Mo_makeVertex_154 : decode b_Mo_makeVertex 154 = .ok (.iadd, 1) := by decide +kernel
theorem d_Mo_makeVertex_155 : decode b_Mo_makeVertex 155 = .ok (.iload_n 3, 1) := by decide +kernel
theorem d_Mo_makeVertex_156 : decode b_Mo_makeVertex 156 = .ok (.lload 4, 2) := by decide +kernel
theorem d_Mo_makeVertex_158 : decode b_Mo_makeVertex 158 = .ok (.iload 8, 2) := by decide +kernel
theorem d_Mo_makeVertex_160 : decode b_Mo_makeVertex 160 = .ok (.invokevirtual 175, 3) := by decide +kernel
theorem d_Mo_makeVertex_163 : decode b_Mo_makeVertex 163 = .ok (.istore 9, 2) := by decide +kernel
theorem d_Mo_makeVertex_165 : decode b_Mo_makeVertex 165 = .ok (.aload_n 0, 1) := by decide +kernel
theorem d_Mo_makeVertex_166 : decode b_Mo_makeVertex 166 = .ok (.iconst 0, 1) := by decide +kernel
theorem d_Mo_makeVertex_167 : decode b_Mo_makeVertex 167 = .ok (.iload_n 1, 1) := by decide +kernel
theorem d_Mo_makeVertex_168 : decode b_Mo_makeVertex 168 = .ok (.iload 9, 2) := by decide +kernel
theorem d_Mo_makeVertex_170 : decode b_Mo_makeVertex 170 = .ok (.invokevirtual 120, 3) := by decide +kernel
theorem d_Mo_makeVertex_173 : decode b_Mo_makeVertex 173 = .ok (.return_, 1) := by decide +kernel
