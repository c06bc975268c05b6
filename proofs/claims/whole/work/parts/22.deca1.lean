theorem d_No_goOn_47 : decode b_No_goOn 47 = .ok (.imul, 1) := by decide +kernel
theorem d_No_goOn_48 : decode b_No_goOn 48 = .ok (.if_icmp .ne 16, 3) := by decide +kernel
theorem d_No_goOn_51 : decode b_No_goOn 51 = .ok (.aload_n 0, 1) := by decide +kernel
theorem d_No_goOn_52 : decode b_No_goOn 52 = .ok (.iload_n 1, 1) := by decide +kernel
theorem d_No_goOn_53 : decode b_No_goOn 53 = .ok (.invokevirtual 115, 3) := by decide +kernel
theorem d_No_goOn_56 : decode b_No_goOn 56 = .ok (.ifCond .eq 8, 3) := by decide +kernel
theorem d_No_goOn_59 : decode b_No_goOn 59 = .ok (.aload_n 0, 1) := by decide +kernel
theorem d_No_goOn_60 : decode b_No_goOn 60 = .ok (.iload_n 1, 1) := by decide +kernel
theorem d_No_goOn_61 : decode b_No_goOn 61 = .ok (.invokevirtual 118, 3) := by decide +kernel
theorem d_No_goOn_64 : decode b_No_goOn 64 = .ok (.aload_n 0, 1) := by decide +kernel
theorem d_No_goOn_65 : decode b_No_goOn 65 = .ok (.dup, 1) := by decide +kernel
theorem d_No_goOn_66 : decode b_No_goOn 66 = .ok (.getfield 108, 3) := by decide +kernel
theorem d_No_goOn_69 : decode b_No_goOn 69 = .ok (.iconst 1, 1) := by decide +kernel
theorem d_No_goOn_70 : decode b_No_goOn 70 = .ok (.iadd, 1) := by decide +kernel
theorem d_No_goOn_71 : decode b_No_goOn 71 = .ok (.putfield 108, 3) := by decide +kernel
theorem d_No_goOn_74 : decode b_No_goOn 74 = .ok (.aload_n 0, 1) := by decide +kernel
theorem d_No_goOn_75 : decode b_No_goOn 75 = .ok (.invokevirtual 121, 3) := by decide +kernel
theorem d_No_goOn_78 : decode b_No_goOn 78 = .ok (.goto (-78), 3) := by decide +kernel
theorem d_No_goOn_81 : decode b_No_goOn 81 = .ok (.aload_n 0, 1) := by decide +kernel
theorem d_No_goOn_82 : decode b_No_goOn 82 = .ok (.getfield 124, 3) := by decide +kernel
theorem d_No_goOn_85 : decode b_No_goOn 85 = .ok (.ifCond .ne 33, 3) := by decide +kernel
theorem d_No_goOn_88 : decode b_No_goOn 88 = .ok (.aload_n 0, 1) := by decide +kernel
theorem d_No_goOn_89 : decode b_No_goOn 89 = .ok (.getfield 59, 3) := by decide +kernel
theorem d_No_goOn_92 : decode b_No_goOn 92 = .ok (.bipush 12, 2) := by decide +kernel
theorem d_No_goOn_94 : decode b_No_goOn 94 = .ok (.invokevirtual 111, 3) := by decide +kernel
theorem d_No_goOn_97 : decode b_No_goOn 97 = .ok (.ifCond .eq 21, 3) := by decide +kernel
theorem d_No_goOn_100 : decode b_No_goOn 100 = .ok (.aload_n 0, 1) := by decide +kernel
theorem d_No_goOn_101 : decode b_No_goOn 101 = .ok (.iconst 1, 1) := by decide +kernel
theorem d_No_goOn_102 : decode b_No_goOn 102 = .ok (.putfield 124, 3) := by decide +kernel
theorem d_No_goOn_105 : decode b_No_goOn 105 = .ok (.aload_n 0, 1) := by decide +kernel
theorem d_No_goOn_106 : decode b_No_goOn 106 = .ok (.iconst 3, 1) := by decide +kernel
theorem d_No_goOn_107 : decode b_No_goOn 107 = .ok (.invokevirtual 115, 3) := by decide +kernel
theorem d_No_goOn_110 : decode b_No_goOn 110 = .ok (.ifCond .eq 8, 3) := by decide +kernel
theorem d_No_goOn_113 : decode b_No_goOn 113 = .ok (.aload_n 0, 1) := by decide +kernel
theorem d_No_goOn_114 : decode b_No_goOn 114 = .ok (.iconst 3, 1) := by decide +kernel
theorem d_No_goOn_115 : decode b_No_goOn 115 = .ok (.invokevirtual 118, 3) := by decide +kernel
theorem d_No_goOn_118 : decode b_No_goOn 118 = .ok (.return_, 1) := by decide +kernel
theorem d_No_broadcastOwnVertex_0 : decode b_No_broadcastOwnVertex 0 = .ok (.aload_n 0, 1) := by decide +kernel
theorem d_No_broadcastOwnVertex_1 : decode b_No_broadcastOwnVertex 1 = .ok (.getfield 108, 3) := by decide +kernel
theorem d_No_broadcastOwnVertex_4 : decode b_No_broadcastOwnVertex 4 = .ok (.iconst 1, 1) := by decide +kernel
theorem d_No_broadcastOwnVertex_5 : decode b_No_broadcastOwnVertex 5 = .ok (.if_icmp .ne 7, 3) := by decide +kernel
theorem d_No_broadcastOwnVertex_8 : decode b_No_broadcastOwnVertex 8 = .ok (.iconst 0, 1) := by decide +kernel
theorem d_No_broadcastOwnVertex_9 : decode b_No_broadcastOwnVertex 9 = .ok (.goto 16, 3) := by decide +kernel
theorem d_No_broadcastOwnVertex_12 : decode b_No_broadcastOwnVertex 12 = .ok (.aload_n 0, 1) := by decide +kernel
theorem d_No_broadcastOwnVertex_13 : decode b_No_broadcastOwnVertex 13 = .ok (.getfield 59, 3) := by decide +kernel
theorem d_No_broadcastOwnVertex_16 : decode b_No_broadcastOwnVertex 16 = .ok (.aload_n 0, 1) := by decide +kernel
theorem d_No_broadcastOwnVertex_17 : decode b_No_broadcastOwnVertex 17 = .ok (.getfield 108, 3) := by decide +kernel
theorem d_No_broadcastOwnVertex_20 : decode b_No_broadcastOwnVertex 20 = .ok (.iconst 1, 1) := by decide +kernel
theorem d_No_broadcastOwnVertex_21 : decode b_No_broadcastOwnVertex 21 = .ok (.isub, 1) := by decide +kernel
theorem d_No_broadcastOwnVertex_22 : decode b_No_broadcastOwnVertex 22 = .ok (.invokevirtual 128, 3) := by decide +kernel
theorem d_No_broadcastOwnVertex_25 : decode b_No_broadcastOwnVertex 25 = .ok (.istore_n 1, 1) := by decide +kernel
theorem d_No_broadcastOwnVertex_26 : decode b_No_broadcastOwnVertex 26 = .ok (.aload_n 0, 1) := by decide +kernel
theorem d_No_broadcastOwnVertex_27 : decode b_No_broadcastOwnVertex 27 = .ok (.getfield 108, 3) := by decide +kernel
theorem d_No_broadcastOwnVertex_30 : decode b_No_broadcastOwnVertex 30 = .ok (.iconst 1, 1) := by decide +kernel
theorem d_No_broadcastOwnVertex_31 : decode b_No_broadcastOwnVertex 31 = .ok (.if_icmp .ne 7, 3) := by decide +kernel
theorem d_No_broadcastOwnVertex_34 : decode b_No_broadcastOwnVertex 34 = .ok (.lconst 0, 1) := by decide +kernel
theorem d_No_broadcastOwnVertex_35 : decode b_No_broadcastOwnVertex 35 = .ok (.goto 14, 3) := by decide +kernel
theorem d_No_broadcastOwnVertex_38 : decode b_No_broadcastOwnVertex 38 = .ok (.aload_n 0, 1) := by decide +kernel
theorem d_No_broadcastOwnVertex_39 : decode b_No_broadcastOwnVertex 39 = .ok (.getfield 59, 3) := by decide +kernel
theorem d_No_broadcastOwnVertex_42 : decode b_No_broadcastOwnVertex 42 = .ok (.aload_n 0, 1) := by decide +kernel
theorem d_No_broadcastOwnVertex_43 : decode b_No_broadcastOwnVertex 43 = .ok (.getfield 108, 3) := by decide +kernel
theorem d_No_broadcastOwnVertex_46 : decode b_No_broadcastOwnVertex 46 = .ok (.invokevirtual 131, 3) := by decide +kernel
theorem d_No_broadcastOwnVertex_49 : decode b_No_broadcastOwnVertex 49 = .ok (.lstore_n 2, 1) := by decide +kernel
theorem d_No_broadcastOwnVertex_50 : decode b_No_broadcastOwnVertex 50 = .ok (.aload_n 0, 1) := by decide +kernel
theorem d_No_broadcastOwnVertex_51 : decode b_No_broadcastOwnVertex 51 = .ok (.getfield 108, 3) := by decide +kernel
theorem d_No_broadcastOwnVertex_54 : decode b_No_broadcastOwnVertex 54 = .ok (.aload_n 0, 1) := by decide +kernel
theorem d_No_broadcastOwnVertex_55 : decode b_No_broadcastOwnVertex 55 = .ok (.getfield 39, 3) := by decide +kernel
theorem d_No_broadcastOwnVertex_58 : decode b_No_broadcastOwnVertex 58 = .ok (.invokestatic 134, 3) := by decide +kernel
theorem d_No_broadcastOwnVertex_61 : decode b_No_broadcastOwnVertex 61 = .ok (.istore 4, 2) := by decide +kernel
theorem d_No_broadcastOwnVertex_63 : decode b_No_broadcastOwnVertex 63 = .ok (.aload_n 0, 1) := by decide +kernel
theorem d_No_broadcastOwnVertex_64 : decode b_No_broadcastOwnVertex 64 = .ok (.getfield 46, 3) := by decide +kernel
theorem d_No_broadcastOwnVertex_67 : decode b_No_broadcastOwnVertex 67 = .ok (.iload 4, 2) := by decide +kernel
theorem d_No_broadcastOwnVertex_69 : decode b_No_broadcastOwnVertex 69 = .ok (.iload_n 1, 1) := by decide +kernel
theorem d_No_broadcastOwnVertex_70 : decode b_No_broadcastOwnVertex 70 = .ok (.lload_n 2, 1) := by decide +kernel
theorem d_No_broadcastOwnVertex_71 : decode b_No_broadcastOwnVertex 71 = .ok (.aload_n 0, 1) := by decide +kernel
theorem d_No_broadcastOwnVertex_72 : decode b_No_broadcastOwnVertex 72 = .ok (.getfield 21, 3) := by decide +kernel
theorem d_No_broadcastOwnVertex_75 : decode b_No_broadcastOwnVertex 75 = .ok (.invokevirtual 138, 3) := by decide +kernel
theorem d_No_broadcastOwnVertex_78 : decode b_No_broadcastOwnVertex 78 = .ok (.invokevirtual 142, 3) := by decide +kernel
theorem d_No_broadcastOwnVertex_81 : decode b_No_broadcastOwnVertex 81 = .ok (.istore 5, 2) := by decide +kernel
theorem d_No_broadcastOwnVertex_83 : decode b_No_broadcastOwnVertex 83 = .ok (.aload_n 0, 1) := by decide +kernel
theorem d_No_broadcastOwnVertex_84 : decode b_No_broadcastOwnVertex 84 = .ok (.getfield 50, 3) := by decide +kernel
theorem d_No_broadcastOwnVertex_87 : decode b_No_broadcastOwnVertex 87 = .ok (.iconst 0, 1) := by decide +kernel
theorem d_No_broadcastOwnVertex_88 : decode b_No_broadcastOwnVertex 88 = .ok (.aload_n 0, 1) := by decide +kernel
theorem d_No_broadcastOwnVertex_89 : decode b_No_broadcastOwnVertex 89 = .ok (.getfield 39, 3) := by decide +kernel
theorem d_No_broadcastOwnVertex_92 : decode b_No_broadcastOwnVertex 92 = .ok (.iload 5, 2) := by decide +kernel
theorem d_No_broadcastOwnVertex_94 : decode b_No_broadcastOwnVertex 94 = .ok (.invokevirtual 84, 3) := by decide +kernel
theorem d_No_broadcastOwnVertex_97 : decode b_No_broadcastOwnVertex 97 = .ok (.return_, 1) := by decide +kernel
theorem d_No_mayCommit_0 : decode b_No_mayCommit 0 = .ok (.aload_n 0, 1) := by decide +kernel
theorem d_No_mayCommit_1 : decode b_No_mayCommit 1 = .ok (.iload_n 1, 1) := by decide +kernel
theorem d_No_mayCommit_2 : decode b_No_mayCommit 2 = .ok (.invokevirtual 146, 3) := by decide +kernel
theorem d_No_mayCommit_5 : decode b_No_mayCommit 5 = .ok (.istore_n 2, 1) := by decide +kernel
theorem d_No_mayCommit_6 : decode b_No_mayCommit 6 = .ok (.aload_n 0, 1) := by decide +kernel
theorem d_No_mayCommit_7 : decode b_No_mayCommit 7 = .ok (.getfield 59, 3) := by decide +kernel
theorem d_No_mayCommit_10 : decode b_No_mayCommit 10 = .ok (.iload_n 2, 1) := by decide +kernel
theorem d_No_mayCommit_11 : decode b_No_mayCommit 11 = .ok (.invokevirtual 149, 3) := by decide +kernel
theorem d_No_mayCommit_14 : decode b_No_mayCommit 14 = .ok (.ifCond .eq 22, 3) := by decide +kernel
theorem d_No_mayCommit_17 : decode b_No_mayCommit 17 = .ok (.aload_n 0, 1) := by decide +kernel
theorem d_No_mayCommit_18 : decode b_No_mayCommit 18 = .ok (.getfield 59, 3) := by decide +kernel
theorem d_No_mayCommit_21 : decode b_No_mayCommit 21 = .ok (.iconst 4, 1) := by decide +kernel
theorem d_No_mayCommit_22 : decode b_No_mayCommit 22 = .ok (.iload_n 1, 1) := by decide +kernel
theorem d_No_mayCommit_23 : decode b_No_mayCommit 23 = .ok (.imul, 1) := by decide +kernel
theorem d_No_mayCommit_24 : decode b_No_mayCommit 24 = .ok (.iload_n 2, 1) := by decide +kernel
theorem d_No_mayCommit_25 : decode b_No_mayCommit 25 = .ok (.invokevirtual 152, 3) := by decide +kernel
theorem d_No_mayCommit_28 : decode b_No_mayCommit 28 = .ok (.iconst 3, 1) := by decide +kernel
theorem d_No_mayCommit_29 : decode b_No_mayCommit 29 = .ok (.if_icmp .lt 7, 3) := by decide +kernel
theorem d_No_mayCommit_32 : decode b_No_mayCommit 32 = .ok (.iconst 1, 1) := by decide +kernel
theorem d_No_mayCommit_33 : decode b_No_mayCommit 33 = .ok (.goto 4, 3) := by decide +kernel
theorem d_No_mayCommit_36 : decode b_No_mayCommit 36 = .ok (.iconst 0, 1) := by decide +kernel
theorem d_No_mayCommit_37 : decode b_No_mayCommit 37 = .ok (.ireturn, 1) := by decide +kernel
theorem d_No_leaderOf_0 : decode b_No_leaderOf 0 = .ok (.aload_n 0, 1) := by decide +kernel
theorem d_No_leaderOf_1 : decode b_No_leaderOf 1 = .ok (.getfield 43, 3) := by decide +kernel
theorem d_No_leaderOf_4 : decode b_No_leaderOf 4 = .ok (.iconst 2, 1) := by decide +kernel
theorem d_No_leaderOf_5 : decode b_No_leaderOf 5 = .ok (.iload_n 1, 1) := by decide +kernel
theorem d_No_leaderOf_6 : decode b_No_leaderOf 6 = .ok (.iconst 1, 1) := by decide +kernel
theorem d_No_leaderOf_7 : decode b_No_leaderOf 7 = .ok (.isub, 1) := by decide +kernel
theorem d_No_leaderOf_8 : decode b_No_leaderOf 8 = .ok (.imul, 1) := by decide +kernel
theorem d_No_leaderOf_9 : decode b_No_leaderOf 9 = .ok (.iushr, 1) := by decide +kernel
theorem d_No_leaderOf_10 : decode b_No_leaderOf 10 = .ok (.iconst 3, 1) := by decide +kernel
theorem d_No_leaderOf_11 : decode b_No_leaderOf 11 = .ok (.iand, 1) := by decide +kernel
theorem d_No_leaderOf_12 : decode b_No_leaderOf 12 = .ok (.istore_n 2, 1) := by decide +kernel
theorem d_No_leaderOf_13 : decode b_No_leaderOf 13 = .ok (.iconst 4, 1) := by decide +kernel
theorem d_No_leaderOf_14 : decode b_No_leaderOf 14 = .ok (.iload_n 1, 1) := by decide +kernel
theorem d_No_leaderOf_15 : decode b_No_leaderOf 15 = .ok (.iconst 1, 1) := by decide +kernel
theorem d_No_leaderOf_16 : decode b_No_leaderOf 16 = .ok (.isub, 1) := by decide +kernel
theorem d_No_leaderOf_17 : decode b_No_leaderOf 17 = .ok (.imul, 1) := by decide +kernel
theorem d_No_leaderOf_18 : decode b_No_leaderOf 18 = .ok (.iconst 1, 1) := by decide +kernel
theorem d_No_leaderOf_19 : decode b_No_leaderOf 19 = .ok (.iadd, 1) := by decide +kernel
theorem d_No_leaderOf_20 : decode b_No_leaderOf 20 = .ok (.iload_n 2, 1) := by decide +kernel
theorem d_No_leaderOf_21 : decode b_No_leaderOf 21 = .ok (.invokestatic 134, 3) := by decide +kernel
theorem d_No_leaderOf_24 : decode b_No_leaderOf 24 = .ok (.ireturn, 1) := by decide +kernel
theorem d_No_commit_0 : decode b_No_commit 0 = .ok (.aload_n 0, 1) := by decide +kernel
theorem d_No_commit_1 : decode b_No_commit 1 = .ok (.getfield 35, 3) := by decide +kernel
theorem d_No_commit_4 : decode b_No_commit 4 = .ok (.iconst 0, 1) := by decide +kernel
theorem d_No_commit_5 : decode b_No_commit 5 = .ok (.aload_n 0, 1) := by decide +kernel
theorem d_No_commit_6 : decode b_No_commit 6 = .ok (.iload_n 1, 1) := by decide +kernel
theorem d_No_commit_7 : decode b_No_commit 7 = .ok (.invokevirtual 146, 3) := by decide +kernel
theorem d_No_commit_10 : decode b_No_commit 10 = .ok (.iastore, 1) := by decide +kernel
theorem d_No_commit_11 : decode b_No_commit 11 = .ok (.iconst 1, 1) := by decide +kernel
theorem d_No_commit_12 : decode b_No_commit 12 = .ok (.istore_n 2, 1) := by decide +kernel
theorem d_No_commit_13 : decode b_No_commit 13 = .ok (.iload_n 1, 1) := by decide +kernel
theorem d_No_commit_14 : decode b_No_commit 14 = .ok (.iconst 1, 1) := by decide +kernel
theorem d_No_commit_15 : decode b_No_commit 15 = .ok (.isub, 1) := by decide +kernel
theorem d_No_commit_16 : decode b_No_commit 16 = .ok (.istore_n 3, 1) := by decide +kernel
theorem d_No_commit_17 : decode b_No_commit 17 = .ok (.iload_n 3, 1) := by decide +kernel
theorem d_No_commit_18 : decode b_No_commit 18 = .ok (.aload_n 0, 1) := by decide +kernel
theorem d_No_commit_19 : decode b_No_commit 19 = .ok (.getfield 155, 3) := by decide +kernel
theorem d_No_commit_22 : decode b_No_commit 22 = .ok (.if_icmp .le 47, 3) := by decide +kernel
theorem d_No_commit_25 : decode b_No_commit 25 = .ok (.aload_n 0, 1) := by decide +kernel
theorem d_No_commit_26 : decode b_No_commit 26 = .ok (.iload_n 3, 1) := by decide +kernel
theorem d_No_commit_27 : decode b_No_commit 27 = .ok (.invokevirtual 146, 3) := by decide +kernel
theorem d_No_commit_30 : decode b_No_commit 30 = .ok (.istore 4, 2) := by decide +kernel
theorem d_No_commit_32 : decode b_No_commit 32 = .ok (.aload_n 0, 1) := by decide +kernel
theorem d_No_commit_33 : decode b_No_commit 33 = .ok (.getfield 59, 3) := by decide +kernel
theorem d_No_commit_36 : decode b_No_commit 36 = .ok (.aload_n 0, 1) := by decide +kernel
theorem d_No_commit_37 : decode b_No_commit 37 = .ok (.getfield 35, 3) := by decide +kernel
theorem d_No_commit_40 : decode b_No_commit 40 = .ok (.iload_n 2, 1) := by decide +kernel
theorem d_No_commit_41 : decode b_No_commit 41 = .ok (.iconst 1, 1) := by decide +kernel
theorem d_No_commit_42 : decode b_No_commit 42 = .ok (.isub, 1) := by decide +kernel
theorem d_No_commit_43 : decode b_No_commit 43 = .ok (.iaload, 1) := by decide +kernel
theorem d_No_commit_44 : decode b_No_commit 44 = .ok (.iload 4, 2) := by decide +kernel
theorem d_No_commit_46 : decode b_No_commit 46 = .ok (.invokevirtual 158, 3) := by decide +kernel
theorem d_No_commit_49 : decode b_No_commit 49 = .ok (.ifCond .eq 14, 3) := by decide +kernel
theorem d_No_commit_52 : decode b_No_commit 52 = .ok (.aload_n 0, 1) := by decide +kernel
theorem d_No_commit_53 : decode b_No_commit 53 = .ok (.getfield 35, 3) := by decide +kernel
theorem d_No_commit_56 : decode b_No_commit 56 = .ok (.iload_n 2, 1) := by decide +kernel
theorem d_No_commit_57 : decode b_No_commit 57 = .ok (.iload 4, 2) := by decide +kernel
theorem d_No_commit_59 : decode b_No_commit 59 = .ok (.iastore, 1) := by decide +kernel
theorem d_No_commit_60 : decode b_No_commit 60 = .ok (.iinc 2 1, 3) := by decide +kernel
theorem d_No_commit_63 : decode b_No_commit 63 = .ok (.iinc 3 (-1), 3) := by decide +kernel
theorem d_No_commit_66 : decode b_No_commit 66 = .ok (.goto (-49), 3) := by decide +kernel
theorem d_No_commit_69 : decode b_No_commit 69 = .ok (.aload_n 0, 1) := by decide +kernel
theorem d_No_commit_70 : decode b_No_commit 70 = .ok (.iload_n 1, 1) := by decide +kernel
theorem d_No_commit_71 : decode b_No_commit 71 = .ok (.putfield 155, 3) := by decide +kernel
theorem d_No_commit_74 : decode b_No_commit 74 = .ok (.iload_n 2, 1) := by decide +kernel
theorem d_No_commit_75 : decode b_No_commit 75 = .ok (.iconst 1, 1) := by decide +kernel
theorem d_No_commit_76 : decode b_No_commit 76 = .ok (.isub, 1) := by decide +kernel
theorem d_No_commit_77 : decode b_No_commit 77 = .ok (.istore_n 3, 1) := by decide +kernel
theorem d_No_commit_78 : decode b_No_commit 78 = .ok (.iload_n 3, 1) := by decide +kernel
theorem d_No_commit_79 : decode b_No_commit 79 = .ok (.ifCond .lt 19, 3) := by decide +kernel
theorem d_No_commit_82 : decode b_No_commit 82 = .ok (.aload_n 0, 1) := by decide +kernel
theorem d_No_commit_83 : decode b_No_commit 83 = .ok (.aload_n 0, 1) := by decide +kernel
theorem d_No_commit_84 : decode b_No_commit 84 = .ok (.getfield 35, 3) := by decide +kernel
theorem d_No_commit_87 : decode b_No_commit 87 = .ok (.iload_n 3, 1) := by decide +kernel
theorem d_No_commit_88 : decode b_No_commit 88 = .ok (.iaload, 1) := by decide +kernel
theorem d_No_commit_89 : decode b_No_commit 89 = .ok (.invokevirtual 162, 3) := by decide +kernel
theorem d_No_commit_92 : decode b_No_commit 92 = .ok (.iinc 3 (-1), 3) := by decide +kernel
theorem d_No_commit_95 : decode b_No_commit 95 = .ok (.goto (-17), 3) := by decide +kernel
theorem d_No_commit_98 : decode b_No_commit 98 = .ok (.return_, 1) := by decide +kernel
theorem d_No_orderFrom_0 : decode b_No_orderFrom 0 = .ok (.aload_n 0, 1) := by decide +kernel
theorem d_No_orderFrom_1 : decode b_No_orderFrom 1 = .ok (.getfield 59, 3) := by decide +kernel
theorem d_No_orderFrom_4 : decode b_No_orderFrom 4 = .ok (.getfield 165, 3) := by decide +kernel
theorem d_No_orderFrom_7 : decode b_No_orderFrom 7 = .ok (.iload_n 1, 1) := by decide +kernel
theorem d_No_orderFrom_8 : decode b_No_orderFrom 8 = .ok (.laload, 1) := by decide +kernel
theorem d_No_orderFrom_9 : decode b_No_orderFrom 9 = .ok (.iload_n 1, 1) := by decide +kernel
theorem d_No_orderFrom_10 : decode b_No_orderFrom 10 = .ok (.invokestatic 80, 3) := by decide +kernel
theorem d_No_orderFrom_13 : decode b_No_orderFrom 13 = .ok (.lor, 1) := by decide +kernel
theorem d_No_orderFrom_14 : decode b_No_orderFrom 14 = .ok (.aload_n 0, 1) := by decide +kernel
theorem d_No_orderFrom_15 : decode b_No_orderFrom 15 = .ok (.getfield 12, 3) := by decide +kernel
theorem d_No_orderFrom_18 : decode b_No_orderFrom 18 = .ok (.getfield 169, 3) := by decide +kernel
theorem d_No_orderFrom_21 : decode b_No_orderFrom 21 = .ok (.ldc2_w 172, 3) := by decide +kernel
theorem d_No_orderFrom_24 : decode b_No_orderFrom 24 = .ok (.lxor, 1) := by decide +kernel
theorem d_No_orderFrom_25 : decode b_No_orderFrom 25 = .ok (.land, 1) := by decide +kernel
theorem d_No_orderFrom_26 : decode b_No_orderFrom 26 = .ok (.lstore_n 2, 1) := by decide +kernel
theorem d_No_orderFrom_27 : decode b_No_orderFrom 27 = .ok (.iconst 0, 1) := by decide +kernel
theorem d_No_orderFrom_28 : decode b_No_orderFrom 28 = .ok (.istore 4, 2) := by decide +kernel
theorem d_No_orderFrom_30 : decode b_No_orderFrom 30 = .ok (.iload 4, 2) := by decide +kernel
theorem d_No_orderFrom_32 : decode b_No_orderFrom 32 = .ok (.bipush 48, 2) := by decide +kernel
theorem d_No_orderFrom_34 : decode b_No_orderFrom 34 = .ok (.if_icmp .ge 45, 3) := by decide +kernel
theorem d_No_orderFrom_37 : decode b_No_orderFrom 37 = .ok (.lload_n 2, 1) := by decide +kernel
theorem d_No_orderFrom_38 : decode b_No_orderFrom 38 = .ok (.iload 4, 2) := by decide +kernel
theorem d_No_orderFrom_40 : decode b_No_orderFrom 40 = .ok (.invokestatic 76, 3) := by decide +kernel
theorem d_No_orderFrom_43 : decode b_No_orderFrom 43 = .ok (.ifCond .eq 30, 3) := by decide +kernel
theorem d_No_orderFrom_46 : decode b_No_orderFrom 46 = .ok (.aload_n 0, 1) := by decide +kernel
theorem d_No_orderFrom_47 : decode b_No_orderFrom 47 = .ok (.getfield 12, 3) := by decide +kernel
theorem d_No_orderFrom_50 : decode b_No_orderFrom 50 = .ok (.iload 4, 2) := by decide +kernel
theorem d_No_orderFrom_52 : decode b_No_orderFrom 52 = .ok (.aload_n 0, 1) := by decide +kernel
theorem d_No_orderFrom_53 : decode b_No_orderFrom 53 = .ok (.getfield 46, 3) := by decide +kernel
theorem d_No_orderFrom_56 : decode b_No_orderFrom 56 = .ok (.getfield 174, 3) := by decide +kernel
theorem d_No_orderFrom_59 : decode b_No_orderFrom 59 = .ok (.aload_n 0, 1) := by decide +kernel
theorem d_No_orderFrom_60 : decode b_No_orderFrom 60 = .ok (.getfield 59, 3) := by decide +kernel
theorem d_No_orderFrom_63 : decode b_No_orderFrom 63 = .ok (.getfield 98, 3) := by decide +kernel
theorem d_No_orderFrom_66 : decode b_No_orderFrom 66 = .ok (.iload 4, 2) := by decide +kernel
theorem d_No_orderFrom_68 : decode b_No_orderFrom 68 = .ok (.iaload, 1) := by decide +kernel
theorem d_No_orderFrom_69 : decode b_No_orderFrom 69 = .ok (.iaload, 1) := by decide +kernel
theorem d_No_orderFrom_70 : decode b_No_orderFrom 70 = .ok (.invokevirtual 177, 3) := by decide +kernel
theorem d_No_orderFrom_73 : decode b_No_orderFrom 73 = .ok (.iinc 4 1, 3) := by decide +kernel
theorem d_No_orderFrom_76 : decode b_No_orderFrom 76 = .ok (.goto (-46), 3) := by decide +kernel
theorem d_No_orderFrom_79 : decode b_No_orderFrom 79 = .ok (.return_, 1) := by decide +kernel
theorem d_Tq_init_0 : decode b_Tq_init 0 = .ok (.aload_n 0, 1) := by decide +kernel
theorem d_Tq_init_1 : decode b_Tq_init 1 = .ok (.invokespecial 3, 3) := by decide +kernel
theorem d_Tq_init_4 : decode b_Tq_init 4 = .ok (.aload_n 0, 1) := by decide +kernel
theorem d_Tq_init_5 : decode b_Tq_init 5 = .ok (.bipush 12, 2) := by decide +kernel
theorem d_Tq_init_7 : decode b_Tq_init 7 = .ok (.newarray .int, 2) := by decide +kernel
theorem d_Tq_init_9 : decode b_Tq_init 9 = .ok (.putfield 9, 3) := by decide +kernel
theorem d_Tq_init_12 : decode b_Tq_init 12 = .ok (.return_, 1) := by decide +kernel
theorem d_Tq_isFull_0 : decode b_Tq_isFull 0 = .ok (.aload_n 0, 1) := by decide +kernel
theorem d_Tq_isFull_1 : decode b_Tq_isFull 1 = .ok (.getfield 15, 3) := by decide +kernel
theorem d_Tq_isFull_4 : decode b_Tq_isFull 4 = .ok (.bipush 12, 2) := by decide +kernel
theorem d_Tq_isFull_6 : decode b_Tq_isFull 6 = .ok (.if_icmp .lt 7, 3) := by decide +kernel
theorem d_Tq_isFull_9 : decode b_Tq_isFull 9 = .ok (.iconst 1, 1) := by decide +kernel
theorem d_Tq_isFull_10 : decode b_Tq_isFull 10 = .ok (.goto 4, 3) := by decide +kernel
theorem d_Tq_isFull_13 : decode b_Tq_isFull 13 = .ok (.iconst 0, 1) := by decide +kernel
theorem d_Tq_isFull_14 : decode b_Tq_isFull 14 = .ok (.ireturn, 1) := by decide +kernel
theorem d_Tq_append_0 : decode b_Tq_append 0 = .ok (.aload_n 0, 1) := by decide +kernel
theorem d_Tq_append_1 : decode b_Tq_append 1 = .ok (.getfield 9, 3) := by decide +kernel
theorem d_Tq_append_4 : decode b_Tq_append 4 = .ok (.aload_n 0, 1) := by decide +kernel
theorem d_Tq_append_5 : decode b_Tq_append 5 = .ok (.getfield 15, 3) := by decide +kernel
theorem d_Tq_append_8 : decode b_Tq_append 8 = .ok (.iload_n 1, 1) := by decide +kernel
theorem d_Tq_append_9 : decode b_Tq_append 9 = .ok (.iastore, 1) := by decide +kernel
theorem d_Tq_append_10 : decode b_Tq_append 10 = .ok (.aload_n 0, 1) := by decide +kernel
theorem d_Tq_append_11 : decode b_Tq_append 11 = .ok (.dup, 1) := by decide +kernel
theorem d_Tq_append_12 : decode b_Tq_append 12 = .ok (.getfield 15, 3) := by decide +kernel
theorem d_Tq_append_15 : decode b_Tq_append 15 = .ok (.iconst 1, 1) := by decide +kernel
theorem d_Tq_append_16 : decode b_Tq_append 16 = .ok (.iadd, 1) := by decide +kernel
theorem d_Tq_append_17 : decode b_Tq_append 17 = .ok (.putfield 15, 3) := by decide +kernel
theorem d_Tq_append_20 : decode b_Tq_append 20 = .ok (.return_, 1) := by decide +kernel
theorem d_Tq_takeFirstOrNone_0 : decode b_Tq_takeFirstOrNone 0 = .ok (.aload_n 0, 1) := by decide +kernel
theorem d_Tq_takeFirstOrNone_1 : decode b_Tq_takeFirstOrNone 1 = .ok (.getfield 15, 3) := by decide +kernel
theorem d_Tq_takeFirstOrNone_4 : decode b_Tq_takeFirstOrNone 4 = .ok (.ifCond .ne 5, 3) := by decide +kernel
theorem d_Tq_takeFirstOrNone_7 : decode b_Tq_takeFirstOrNone 7 = .ok (.iconst 0, 1) := by decide +kernel
theorem d_Tq_takeFirstOrNone_8 : decode b_Tq_takeFirstOrNone 8 = .ok (.ireturn, 1) := by decide +kernel
theorem d_Tq_takeFirstOrNone_9 : decode b_Tq_takeFirstOrNone 9 = .ok (.aload_n 0, 1) := by decide +kernel
theorem d_Tq_takeFirstOrNone_10 : decode b_Tq_takeFirstOrNone 10 = .ok (.getfield 9, 3) := by decide +kernel
theorem d_Tq_takeFirstOrNone_13 : decode b_Tq_takeFirstOrNone 13 = .ok (.iconst 0, 1) := by decide +kernel
theorem d_Tq_takeFirstOrNone_14 : decode b_Tq_takeFirstOrNone 14 = .ok (.iaload, 1) := by decide +kernel
theorem d_Tq_takeFirstOrNone_15 : decode b_Tq_takeFirstOrNone 15 = .ok (.istore_n 1, 1) := by decide +kernel
theorem d_Tq_takeFirstOrNone_16 : decode b_Tq_takeFirstOrNone 16 = .ok (.aload_n 0, 1) := by decide +kernel
theorem d_Tq_takeFirstOrNone_17 : decode b_Tq_takeFirstOrNone 17 = .ok (.dup, 1) := by decide +kernel
theorem d_Tq_takeFirstOrNone_18 : decode b_Tq_takeFirstOrNone 18 = .ok (.getfield 15, 3) := by decide +kernel
theorem d_Tq_takeFirstOrNone_21 : decode b_Tq_takeFirstOrNone 21 = .ok (.iconst 1, 1) := by decide +kernel
theorem d_Tq_takeFirstOrNone_22 : decode b_Tq_takeFirstOrNone 22 = .ok (.isub, 1) := by decide +kernel
theorem d_Tq_takeFirstOrNone_23 : decode b_Tq_takeFirstOrNone 23 = .ok (.putfield 15, 3) := by decide +kernel
theorem d_Tq_takeFirstOrNone_26 : decode b_Tq_takeFirstOrNone 26 = .ok (.aload_n 0, 1) := by decide +kernel
theorem d_Tq_takeFirstOrNone_27 : decode b_Tq_takeFirstOrNone 27 = .ok (.getfield 9, 3) := by decide +kernel
theorem d_Tq_takeFirstOrNone_30 : decode b_Tq_takeFirstOrNone 30 = .ok (.iconst 1, 1) := by decide +kernel
theorem d_Tq_takeFirstOrNone_31 : decode b_Tq_takeFirstOrNone 31 = .ok (.aload_n 0, 1) := by decide +kernel
theorem d_Tq_takeFirstOrNone_32 : decode b_Tq_takeFirstOrNone 32 = .ok (.getfield 9, 3) := by decide +kernel
theorem d_Tq_takeFirstOrNone_35 : decode b_Tq_takeFirstOrNone 35 = .ok (.iconst 0, 1) := by decide +kernel
theorem d_Tq_takeFirstOrNone_36 : decode b_Tq_takeFirstOrNone 36 = .ok (.aload_n 0, 1) := by decide +kernel
theorem d_Tq_takeFirstOrNone_37 : decode b_Tq_takeFirstOrNone 37 = .ok (.getfield 15, 3) := by decide +kernel
theorem d_Tq_takeFirstOrNone_40 : decode b_Tq_takeFirstOrNone 40 = .ok (.invokestatic 19, 3) := by decide +kernel
theorem d_Tq_takeFirstOrNone_43 : decode b_Tq_takeFirstOrNone 43 = .ok (.iload_n 1, 1) := by decide +kernel
theorem d_Tq_takeFirstOrNone_44 : decode b_Tq_takeFirstOrNone 44 = .ok (.ireturn, 1) := by decide +kernel
theorem d_Ve_init_0 : decode b_Ve_init 0 = .ok (.aload_n 0, 1) := by decide +kernel
theorem d_Ve_init_1 : decode b_Ve_init 1 = .ok (.invokespecial 3, 3) := by decide +kernel
theorem d_Ve_init_4 : decode b_Ve_init 4 = .ok (.aload_n 0, 1) := by decide +kernel
theorem d_Ve_init_5 : decode b_Ve_init 5 = .ok (.bipush 73, 2) := by decide +kernel
theorem d_Ve_init_7 : decode b_Ve_init 7 = .ok (.newarray .int, 2) := by decide +kernel
theorem d_Ve_init_9 : decode b_Ve_init 9 = .ok (.putfield 9, 3) := by decide +kernel
theorem d_Ve_init_12 : decode b_Ve_init 12 = .ok (.aload_n 0, 1) := by decide +kernel
theorem d_Ve_init_13 : decode b_Ve_init 13 = .ok (.bipush 73, 2) := by decide +kernel
theorem d_Ve_init_15 : decode b_Ve_init 15 = .ok (.newarray .int, 2) := by decide +kernel
theorem d_Ve_init_17 : decode b_Ve_init 17 = .ok (.putfield 15, 3) := by decide +kernel
theorem d_Ve_init_20 : decode b_Ve_init 20 = .ok (.aload_n 0, 1) := by decide +kernel
theorem d_Ve_init_21 : decode b_Ve_init 21 = .ok (.bipush 73, 2) := by decide +kernel
theorem d_Ve_init_23 : decode b_Ve_init 23 = .ok (.newarray .long, 2) := by decide +kernel
theorem d_Ve_init_25 : decode b_Ve_init 25 = .ok (.putfield 18, 3) := by decide +kernel
theorem d_Ve_init_28 : decode b_Ve_init 28 = .ok (.aload_n 0, 1) := by decide +kernel
theorem d_Ve_init_29 : decode b_Ve_init 29 = .ok (.bipush 73, 2) := by decide +kernel
theorem d_Ve_init_31 : decode b_Ve_init 31 = .ok (.newarray .int, 2) := by decide +kernel
theorem d_Ve_init_33 : decode b_Ve_init 33 = .ok (.putfield 22, 3) := by decide +kernel
theorem d_Ve_init_36 : decode b_Ve_init 36 = .ok (.return_, 1) := by decide +kernel
theorem d_Ve_make_0 : decode b_Ve_make 0 = .ok (.aload_n 0, 1) := by decide +kernel
theorem d_Ve_make_1 : decode b_Ve_make 1 = .ok (.dup, 1) := by decide +kernel
theorem d_Ve_make_2 : decode b_Ve_make 2 = .ok (.getfield 25, 3) := by decide +kernel
theorem d_Ve_make_5 : decode b_Ve_make 5 = .ok (.iconst 1, 1) := by decide +kernel
theorem d_Ve_make_6 : decode b_Ve_make 6 = .ok (.iadd, 1) := by decide +kernel
theorem d_Ve_make_7 : decode b_Ve_make 7 = .ok (.putfield 25, 3) := by decide +kernel
theorem d_Ve_make_10 : decode b_Ve_make 10 = .ok (.aload_n 0, 1) := by decide +kernel
theorem d_Ve_make_11 : decode b_Ve_make 11 = .ok (.getfield 9, 3) := by decide +kernel
theorem d_Ve_make_14 : decode b_Ve_make 14 = .ok (.aload_n 0, 1) := by decide +kernel
theorem d_Ve_make_15 : decode b_Ve_make 15 = .ok (.getfield 25, 3) := by decide +kernel
theorem d_Ve_make_18 : decode b_Ve_make 18 = .ok (.iload_n 1, 1) := by decide +kernel
theorem d_Ve_make_19 : decode b_Ve_make 19 = .ok (.iastore, 1) := by decide +kernel
theorem d_Ve_make_20 : decode b_Ve_make 20 = .ok (.aload_n 0, 1) := by decide +kernel
theorem d_Ve_make_21 : decode b_Ve_make 21 = .ok (.getfield 15, 3) := by decide +kernel
theorem d_Ve_make_24 : decode b_Ve_make 24 = .ok (.aload_n 0, 1) := by decide +kernel
theorem d_Ve_make_25 : decode b_Ve_make 25 = .ok (.getfield 25, 3) := by decide +kernel
theorem d_Ve_make_28 : decode b_Ve_make 28 = .ok (.iload_n 2, 1) := by decide +kernel
theorem d_Ve_make_29 : decode b_Ve_make 29 = .ok (.iastore, 1) := by decide +kernel
theorem d_Ve_make_30 : decode b_Ve_make 30 = .ok (.aload_n 0, 1) := by decide +kernel
theorem d_Ve_make_31 : decode b_Ve_make 31 = .ok (.getfield 18, 3) := by decide +kernel
theorem d_Ve_make_34 : decode b_Ve_make 34 = .ok (.aload_n 0, 1) := by decide +kernel
theorem d_Ve_make_35 : decode b_Ve_make 35 = .ok (.getfield 25, 3) := by decide +kernel
theorem d_Ve_make_38 : decode b_Ve_make 38 = .ok (.lload_n 3, 1) := by decide +kernel
theorem d_Ve_make_39 : decode b_Ve_make 39 = .ok (.lastore, 1) := by decide +kernel
theorem d_Ve_make_40 : decode b_Ve_make 40 = .ok (.aload_n 0, 1) := by decide +kernel
theorem d_Ve_make_41 : decode b_Ve_make 41 = .ok (.getfield 22, 3) := by decide +kernel
theorem d_Ve_make_44 : decode b_Ve_make 44 = .ok (.aload_n 0, 1) := by decide +kernel
theorem d_Ve_make_45 : decode b_Ve_make 45 = .ok (.getfield 25, 3) := by decide +kernel
theorem d_Ve_make_48 : decode b_Ve_make 48 = .ok (.iload 5, 2) := by decide +kernel
theorem d_Ve_make_50 : decode b_Ve_make 50 = .ok (.iastore, 1) := by decide +kernel
theorem d_Ve_make_51 : decode b_Ve_make 51 = .ok (.aload_n 0, 1) := by decide +kernel
theorem d_Ve_make_52 : decode b_Ve_make 52 = .ok (.getfield 25, 3) := by decide +kernel
theorem d_Ve_make_55 : decode b_Ve_make 55 = .ok (.ireturn, 1) := by decide +kernel
theorem d_Ve_has_0 : decode b_Ve_has 0 = .ok (.iload_n 1, 1) := by decide +kernel
theorem d_Ve_has_1 : decode b_Ve_has 1 = .ok (.iconst 1, 1) := by decide +kernel
theorem d_Ve_has_2 : decode b_Ve_has 2 = .ok (.if_icmp .lt 15, 3) := by decide +kernel
theorem d_Ve_has_5 : decode b_Ve_has 5 = .ok (.iload_n 1, 1) := by decide +kernel
theorem d_Ve_has_6 : decode b_Ve_has 6 = .ok (.aload_n 0, 1) := by decide +kernel
theorem d_Ve_has_7 : decode b_Ve_has 7 = .ok (.getfield 25, 3) := by decide +kernel
theorem d_Ve_has_10 : decode b_Ve_has 10 = .ok (.if_icmp .gt 7, 3) := by decide +kernel
theorem d_Ve_has_13 : decode b_Ve_has 13 = .ok (.iconst 1, 1) := by decide +kernel
theorem d_Ve_has_14 : decode b_Ve_has 14 = .ok (.goto 4, 3) := by decide +kernel
theorem d_Ve_has_17 : decode b_Ve_has 17 = .ok (.iconst 0, 1) := by decide +kernel
theorem d_Ve_has_18 : decode b_Ve_has 18 = .ok (.ireturn, 1) := by decide +kernel
theorem d_Ve_sourceOf_0 : decode b_Ve_sourceOf 0 = .ok (.aload_n 0, 1) := by decide +kernel
theorem d_Ve_sourceOf_1 : decode b_Ve_sourceOf 1 = .ok (.getfield 9, 3) := by decide +kernel
theorem d_Ve_sourceOf_4 : decode b_Ve_sourceOf 4 = .ok (.iload_n 1, 1) := by decide +kernel
theorem d_Ve_sourceOf_5 : decode b_Ve_sourceOf 5 = .ok (.iaload, 1) := by decide +kernel
theorem d_Ve_sourceOf_6 : decode b_Ve_sourceOf 6 = .ok (.iconst 4, 1) := by decide +kernel
theorem d_Ve_sourceOf_7 : decode b_Ve_sourceOf 7 = .ok (.irem, 1) := by decide +kernel
theorem d_Ve_sourceOf_8 : decode b_Ve_sourceOf 8 = .ok (.ireturn, 1) := by decide +kernel
theorem d_Ve_isRight_0 : decode b_Ve_isRight 0 = .ok (.aload_n 0, 1) := by decide +kernel
theorem d_Ve_isRight_1 : decode b_Ve_isRight 1 = .ok (.getfield 9, 3) := by decide +kernel
theorem d_Ve_isRight_4 : decode b_Ve_isRight 4 = .ok (.iload_n 1, 1) := by decide +kernel
theorem d_Ve_isRight_5 : decode b_Ve_isRight 5 = .ok (.iaload, 1) := by decide +kernel
theorem d_Ve_isRight_6 : decode b_Ve_isRight 6 = .ok (.invokestatic 29, 3) := by decide +kernel
theorem d_Ve_isRight_9 : decode b_Ve_isRight 9 = .ok (.istore_n 2, 1) := by decide +kernel
theorem d_Ve_isRight_10 : decode b_Ve_isRight 10 = .ok (.iload_n 2, 1) := by decide +kernel
theorem d_Ve_isRight_11 : decode b_Ve_isRight 11 = .ok (.iconst 1, 1) := by decide +kernel
theorem d_Ve_isRight_12 : decode b_Ve_isRight 12 = .ok (.if_icmp .ne 29, 3) := by decide +kernel
theorem d_Ve_isRight_15 : decode b_Ve_isRight 15 = .ok (.aload_n 0, 1) := by decide +kernel
theorem d_Ve_isRight_16 : decode b_Ve_isRight 16 = .ok (.getfield 15, 3) := by decide +kernel
theorem d_Ve_isRight_19 : decode b_Ve_isRight 19 = .ok (.iload_n 1, 1) := by decide +kernel
theorem d_Ve_isRight_20 : decode b_Ve_isRight 20 = .ok (.iaload, 1) := by decide +kernel
theorem d_Ve_isRight_21 : decode b_Ve_isRight 21 = .ok (.ifCond .ne 18, 3) := by decide +kernel
theorem d_Ve_isRight_24 : decode b_Ve_isRight 24 = .ok (.aload_n 0, 1) := by decide +kernel
theorem d_Ve_isRight_25 : decode b_Ve_isRight 25 = .ok (.getfield 18, 3) := by decide +kernel
theorem d_Ve_isRight_28 : decode b_Ve_isRight 28 = .ok (.iload_n 1, 1) := by decide +kernel
theorem d_Ve_isRight_29 : decode b_Ve_isRight 29 = .ok (.laload, 1) := by decide +kernel
theorem d_Ve_isRight_30 : decode b_Ve_isRight 30 = .ok (.lconst 0, 1) := by decide +kernel
theorem d_Ve_isRight_31 : decode b_Ve_isRight 31 = .ok (.lcmp, 1) := by decide +kernel
theorem d_Ve_isRight_32 : decode b_Ve_isRight 32 = .ok (.ifCond .ne 7, 3) := by decide +kernel
theorem d_Ve_isRight_35 : decode b_Ve_isRight 35 = .ok (.iconst 1, 1) := by decide +kernel
theorem d_Ve_isRight_36 : decode b_Ve_isRight 36 = .ok (.goto 4, 3) := by decide +kernel
theorem d_Ve_isRight_39 : decode b_Ve_isRight 39 = .ok (.iconst 0, 1) := by decide +kernel
theorem d_Ve_isRight_40 : decode b_Ve_isRight 40 = .ok (.ireturn, 1) := by decide +kernel
theorem d_Ve_isRight_41 : decode b_Ve_isRight 41 = .ok (.iload_n 2, 1) := by decide +kernel
theorem d_Ve_isRight_42 : decode b_Ve_isRight 42 = .ok (.iconst 1, 1) := by decide +kernel
theorem d_Ve_isRight_43 : decode b_Ve_isRight 43 = .ok (.isub, 1) := by decide +kernel
theorem d_Ve_isRight_44 : decode b_Ve_isRight 44 = .ok (.iconst 0, 1) := by decide +kernel
theorem d_Ve_isRight_45 : decode b_Ve_isRight 45 = .ok (.invokestatic 33, 3) := by decide +kernel
theorem d_Ve_isRight_48 : decode b_Ve_isRight 48 = .ok (.invokestatic 37, 3) := by decide +kernel
theorem d_Ve_isRight_51 : decode b_Ve_isRight 51 = .ok (.lconst 1, 1) := by decide +kernel
theorem d_Ve_isRight_52 : decode b_Ve_isRight 52 = .ok (.lsub, 1) := by decide +kernel
theorem d_Ve_isRight_53 : decode b_Ve_isRight 53 = .ok (.lstore_n 3, 1) := by decide +kernel
theorem d_Ve_isRight_54 : decode b_Ve_isRight 54 = .ok (.aload_n 0, 1) := by decide +kernel
theorem d_Ve_isRight_55 : decode b_Ve_isRight 55 = .ok (.getfield 15, 3) := by decide +kernel
theorem d_Ve_isRight_58 : decode b_Ve_isRight 58 = .ok (.iload_n 1, 1) := by decide +kernel
theorem d_Ve_isRight_59 : decode b_Ve_isRight 59 = .ok (.iaload, 1) := by decide +kernel
theorem d_Ve_isRight_60 : decode b_Ve_isRight 60 = .ok (.invokestatic 41, 3) := by decide +kernel
theorem d_Ve_isRight_63 : decode b_Ve_isRight 63 = .ok (.iconst 3, 1) := by decide +kernel
theorem d_Ve_isRight_64 : decode b_Ve_isRight 64 = .ok (.if_icmp .lt 24, 3) := by decide +kernel
theorem d_Ve_isRight_67 : decode b_Ve_isRight 67 = .ok (.aload_n 0, 1) := by decide +kernel
theorem d_Ve_isRight_68 : decode b_Ve_isRight 68 = .ok (.getfield 18, 3) := by decide +kernel
theorem d_Ve_isRight_71 : decode b_Ve_isRight 71 = .ok (.iload_n 1, 1) := by decide +kernel
theorem d_Ve_isRight_72 : decode b_Ve_isRight 72 = .ok (.laload, 1) := by decide +kernel
theorem d_Ve_isRight_73 : decode b_Ve_isRight 73 = .ok (.lload_n 3, 1) := by decide +kernel
theorem d_Ve_isRight_74 : decode b_Ve_isRight 74 = .ok (.ldc2_w 46, 3) := by decide +kernel
theorem d_Ve_isRight_77 : decode b_Ve_isRight 77 = .ok (.lxor, 1) := by decide +kernel
theorem d_Ve_isRight_78 : decode b_Ve_isRight 78 = .ok (.land, 1) := by decide +kernel
theorem d_Ve_isRight_79 : decode b_Ve_isRight 79 = .ok (.lconst 0, 1) := by decide +kernel
theorem d_Ve_isRight_80 : decode b_Ve_isRight 80 = .ok (.lcmp, 1) := by decide +kernel
theorem d_Ve_isRight_81 : decode b_Ve_isRight 81 = .ok (.ifCond .ne 7, 3) := by decide +kernel
theorem d_Ve_isRight_84 : decode b_Ve_isRight 84 = .ok (.iconst 1, 1) := by decide +kernel
theorem d_Ve_isRight_85 : decode b_Ve_isRight 85 = .ok (.goto 4, 3) := by decide +kernel
theorem d_Ve_isRight_88 : decode b_Ve_isRight 88 = .ok (.iconst 0, 1) := by decide +kernel
theorem d_Ve_isRight_89 : decode b_Ve_isRight 89 = .ok (.ireturn, 1) := by decide +kernel
theorem d_Ve_strongPlacesOf_0 : decode b_Ve_strongPlacesOf 0 = .ok (.aload_n 0, 1) := by decide +kernel
theorem d_Ve_strongPlacesOf_1 : decode b_Ve_strongPlacesOf 1 = .ok (.getfield 9, 3) := by decide +kernel
theorem d_Ve_strongPlacesOf_4 : decode b_Ve_strongPlacesOf 4 = .ok (.iload_n 1, 1) := by decide +kernel
theorem d_Ve_strongPlacesOf_5 : decode b_Ve_strongPlacesOf 5 = .ok (.iaload, 1) := by decide +kernel
theorem d_Ve_strongPlacesOf_6 : decode b_Ve_strongPlacesOf 6 = .ok (.invokestatic 29, 3) := by decide +kernel
theorem d_Ve_strongPlacesOf_9 : decode b_Ve_strongPlacesOf 9 = .ok (.istore_n 2, 1) := by decide +kernel
theorem d_Ve_strongPlacesOf_10 : decode b_Ve_strongPlacesOf 10 = .ok (.iload_n 2, 1) := by decide +kernel
theorem d_Ve_strongPlacesOf_11 : decode b_Ve_strongPlacesOf 11 = .ok (.iconst 1, 1) := by decide +kernel
theorem d_Ve_strongPlacesOf_12 : decode b_Ve_strongPlacesOf 12 = .ok (.if_icmp .ne 7, 3) := by decide +kernel
theorem d_Ve_strongPlacesOf_15 : decode b_Ve_strongPlacesOf 15 = .ok (.lconst 0, 1) := by decide +kernel
theorem d_Ve_strongPlacesOf_16 : decode b_Ve_strongPlacesOf 16 = .ok (.goto 18, 3) := by decide +kernel
theorem d_Ve_strongPlacesOf_19 : decode b_Ve_strongPlacesOf 19 = .ok (.aload_n 0, 1) := by decide +kernel
theorem d_Ve_strongPlacesOf_20 : decode b_Ve_strongPlacesOf 20 = .ok (.getfield 15, 3) := by decide +kernel
theorem d_Ve_strongPlacesOf_23 : decode b_Ve_strongPlacesOf 23 = .ok (.iload_n 1, 1) := by decide +kernel
theorem d_Ve_strongPlacesOf_24 : decode b_Ve_strongPlacesOf 24 = .ok (.iaload, 1) := by decide +kernel
theorem d_Ve_strongPlacesOf_25 : decode b_Ve_strongPlacesOf 25 = .ok (.i2l, 1) := by decide +kernel
theorem d_Ve_strongPlacesOf_26 : decode b_Ve_strongPlacesOf 26 = .ok (.iload_n 2, 1) := by decide +kernel
theorem d_Ve_strongPlacesOf_27 : decode b_Ve_strongPlacesOf 27 = .ok (.iconst 1, 1) := by decide +kernel
theorem d_Ve_strongPlacesOf_28 : decode b_Ve_strongPlacesOf 28 = .ok (.isub, 1) := by decide +kernel
theorem d_Ve_strongPlacesOf_29 : decode b_Ve_strongPlacesOf 29 = .ok (.iconst 0, 1) := by decide +kernel
theorem d_Ve_strongPlacesOf_30 : decode b_Ve_strongPlacesOf 30 = .ok (.invokestatic 33, 3) := by decide +kernel
theorem d_Ve_strongPlacesOf_33 : decode b_Ve_strongPlacesOf 33 = .ok (.lshl, 1) := by decide +kernel
theorem d_Ve_strongPlacesOf_34 : decode b_Ve_strongPlacesOf 34 = .ok (.lreturn, 1) := by decide +kernel
theorem d_Vo_init_0 : decode b_Vo_init 0 = .ok (.aload_n 0, 1) := by decide +kernel
theorem d_Vo_init_1 : decode b_Vo_init 1 = .ok (.invokespecial 3, 3) := by decide +kernel
theorem d_Vo_init_4 : decode b_Vo_init 4 = .ok (.aload_n 0, 1) := by decide +kernel
theorem d_Vo_init_5 : decode b_Vo_init 5 = .ok (.sipush 192, 3) := by decide +kernel
theorem d_Vo_init_8 : decode b_Vo_init 8 = .ok (.newarray .int, 2) := by decide +kernel
theorem d_Vo_init_10 : decode b_Vo_init 10 = .ok (.putfield 9, 3) := by decide +kernel
theorem d_Vo_init_13 : decode b_Vo_init 13 = .ok (.return_, 1) := by decide +kernel
theorem d_Vo_note_0 : decode b_Vo_note 0 = .ok (.iconst 4, 1) := by decide +kernel
theorem d_Vo_note_1 : decode b_Vo_note 1 = .ok (.iload_n 2, 1) := by decide +kernel
theorem d_Vo_note_2 : decode b_Vo_note 2 = .ok (.imul, 1) := by decide +kernel
theorem d_Vo_note_3 : decode b_Vo_note 3 = .ok (.istore 4, 2) := by decide +kernel
theorem d_Vo_note_5 : decode b_Vo_note 5 = .ok (.aload_n 0, 1) := by decide +kernel
theorem d_Vo_note_6 : decode b_Vo_note 6 = .ok (.getfield 9, 3) := by decide +kernel
theorem d_Vo_note_9 : decode b_Vo_note 9 = .ok (.iload 4, 2) := by decide +kernel
theorem d_Vo_note_11 : decode b_Vo_note 11 = .ok (.iload_n 1, 1) := by decide +kernel
theorem d_Vo_note_12 : decode b_Vo_note 12 = .ok (.iadd, 1) := by decide +kernel
theorem d_Vo_note_13 : decode b_Vo_note 13 = .ok (.iaload, 1) := by decide +kernel
theorem d_Vo_note_14 : decode b_Vo_note 14 = .ok (.ifCond .ne 13, 3) := by decide +kernel
theorem d_Vo_note_17 : decode b_Vo_note 17 = .ok (.aload_n 0, 1) := by decide +kernel
theorem d_Vo_note_18 : decode b_Vo_note 18 = .ok (.getfield 9, 3) := by decide +kernel
theorem d_Vo_note_21 : decode b_Vo_note 21 = .ok (.iload 4, 2) := by decide +kernel
theorem d_Vo_note_23 : decode b_Vo_note 23 = .ok (.iload_n 1, 1) := by decide +kernel
theorem d_Vo_note_24 : decode b_Vo_note 24 = .ok (.iadd, 1) := by decide +kernel
theorem d_Vo_note_25 : decode b_Vo_note 25 = .ok (.iload_n 3, 1) := by decide +kernel
theorem d_Vo_note_26 : decode b_Vo_note 26 = .ok (.iastore, 1) := by decide +kernel
theorem d_Vo_note_27 : decode b_Vo_note 27 = .ok (.aload_n 0, 1) := by decide +kernel
theorem d_Vo_note_28 : decode b_Vo_note 28 = .ok (.getfield 9, 3) := by decide +kernel
theorem d_Vo_note_31 : decode b_Vo_note 31 = .ok (.iload 4, 2) := by decide +kernel
theorem d_Vo_note_33 : decode b_Vo_note 33 = .ok (.iload_n 1, 1) := by decide +kernel
theorem d_Vo_note_34 : decode b_Vo_note 34 = .ok (.iadd, 1) := by decide +kernel
theorem d_Vo_note_35 : decode b_Vo_note 35 = .ok (.iaload, 1) := by decide +kernel
theorem d_Vo_note_36 : decode b_Vo_note 36 = .ok (.iload_n 3, 1) := by decide +kernel
theorem d_Vo_note_37 : decode b_Vo_note 37 = .ok (.if_icmp .eq 5, 3) := by decide +kernel
theorem d_Vo_note_40 : decode b_Vo_note 40 = .ok (.iconst 0, 1) := by decide +kernel
theorem d_Vo_note_41 : decode b_Vo_note 41 = .ok (.ireturn, 1) := by decide +kernel
theorem d_Vo_note_42 : decode b_Vo_note 42 = .ok (.iconst 0, 1) := by decide +kernel
theorem d_Vo_note_43 : decode b_Vo_note 43 = .ok (.istore 5, 2) := by decide +kernel
theorem d_Vo_note_45 : decode b_Vo_note 45 = .ok (.iconst 0, 1) := by decide +kernel
theorem d_Vo_note_46 : decode b_Vo_note 46 = .ok (.istore 6, 2) := by decide +kernel
theorem d_Vo_note_48 : decode b_Vo_note 48 = .ok (.iload 6, 2) := by decide +kernel
theorem d_Vo_note_50 : decode b_Vo_note 50 = .ok (.iconst 4, 1) := by decide +kernel
theorem d_Vo_note_51 : decode b_Vo_note 51 = .ok (.if_icmp .ge 26, 3) := by decide +kernel
theorem d_Vo_note_54 : decode b_Vo_note 54 = .ok (.aload_n 0, 1) := by decide +kernel
theorem d_Vo_note_55 : decode b_Vo_note 55 = .ok (.getfield 9, 3) := by decide +kernel
theorem d_Vo_note_58 : decode b_Vo_note 58 = .ok (.iload 4, 2) := by decide +kernel
theorem d_Vo_note_60 : decode b_Vo_note 60 = .ok (.iload 6, 2) := by decide +kernel
theorem d_Vo_note_62 : decode b_Vo_note 62 = .ok (.iadd, 1) := by decide +kernel
theorem d_Vo_note_63 : decode b_Vo_note 63 = .ok (.iaload, 1) := by decide +kernel
theorem d_Vo_note_64 : decode b_Vo_note 64 = .ok (.iload_n 3, 1) := by decide +kernel
theorem d_Vo_note_65 : decode b_Vo_note 65 = .ok (.if_icmp .ne 6, 3) := by decide +kernel
theorem d_Vo_note_68 : decode b_Vo_note 68 = .ok (.iinc 5 1, 3) := by decide +kernel
theorem d_Vo_note_71 : decode b_Vo_note 71 = .ok (.iinc 6 1, 3) := by decide +kernel
theorem d_Vo_note_74 : decode b_Vo_note 74 = .ok (.goto (-26), 3) := by decide +kernel
theorem d_Vo_note_77 : decode b_Vo_note 77 = .ok (.iload 5, 2) := by decide +kernel
theorem d_Vo_note_79 : decode b_Vo_note 79 = .ok (.ireturn, 1) := by decide +kernel
theorem d_Wl_init_0 : decode b_Wl_init 0 = .ok (.aload_n 0, 1) := by decide +kernel
theorem d_Wl_init_1 : decode b_Wl_init 1 = .ok (.invokespecial 3, 3) := by decide +kernel
theorem d_Wl_init_4 : decode b_Wl_init 4 = .ok (.iload_n 3, 1) := by decide +kernel
theorem d_Wl_init_5 : decode b_Wl_init 5 = .ok (.invokestatic 9, 3) := by decide +kernel
theorem d_Wl_init_8 : decode b_Wl_init 8 = .ok (.ifCond .eq 7, 3) := by decide +kernel
theorem d_Wl_init_11 : decode b_Wl_init 11 = .ok (.iload_n 3, 1) := by decide +kernel
theorem d_Wl_init_12 : decode b_Wl_init 12 = .ok (.goto 4, 3) := by decide +kernel
theorem d_Wl_init_15 : decode b_Wl_init 15 = .ok (.iconst (-1), 1) := by decide +kernel
theorem d_Wl_init_16 : decode b_Wl_init 16 = .ok (.istore 4, 2) := by decide +kernel
theorem d_Wl_init_18 : decode b_Wl_init 18 = .ok (.new 13, 3) := by decide +kernel
theorem d_Wl_init_21 : decode b_Wl_init 21 = .ok (.dup, 1) := by decide +kernel
theorem d_Wl_init_22 : decode b_Wl_init 22 = .ok (.invokespecial 15, 3) := by decide +kernel
theorem d_Wl_init_25 : decode b_Wl_init 25 = .ok (.astore 5, 2) := by decide +kernel
theorem d_Wl_init_27 : decode b_Wl_init 27 = .ok (.new 16, 3) := by decide +kernel
theorem d_Wl_init_30 : decode b_Wl_init 30 = .ok (.dup, 1) := by decide +kernel
theorem d_Wl_init_31 : decode b_Wl_init 31 = .ok (.iload 4, 2) := by decide +kernel
theorem d_Wl_init_33 : decode b_Wl_init 33 = .ok (.invokespecial 18, 3) := by decide +kernel
theorem d_Wl_init_36 : decode b_Wl_init 36 = .ok (.astore 6, 2) := by decide +kernel
theorem d_Wl_init_38 : decode b_Wl_init 38 = .ok (.iconst 4, 1) := by decide +kernel
theorem d_Wl_init_39 : decode b_Wl_init 39 = .ok (.anewarray 21, 3) := by decide +kernel
theorem d_Wl_init_42 : decode b_Wl_init 42 = .ok (.astore 7, 2) := by decide +kernel
theorem d_Wl_init_44 : decode b_Wl_init 44 = .ok (.iconst 0, 1) := by decide +kernel
theorem d_Wl_init_45 : decode b_Wl_init 45 = .ok (.istore 8, 2) := by decide +kernel
theorem d_Wl_init_47 : decode b_Wl_init 47 = .ok (.iload 8, 2) := by decide +kernel
theorem d_Wl_init_49 : decode b_Wl_init 49 = .ok (.iconst 4, 1) := by decide +kernel
theorem d_Wl_init_50 : decode b_Wl_init 50 = .ok (.if_icmp .ge 28, 3) := by decide +kernel
theorem d_Wl_init_53 : decode b_Wl_init 53 = .ok (.aload 7, 2) := by decide +kernel
theorem d_Wl_init_55 : decode b_Wl_init 55 = .ok (.iload 8, 2) := by decide +kernel
theorem d_Wl_init_57 : decode b_Wl_init 57 = .ok (.new 21, 3) := by decide +kernel
theorem d_Wl_init_60 : decode b_Wl_init 60 = .ok (.dup, 1) := by decide +kernel
theorem d_Wl_init_61 : decode b_Wl_init 61 = .ok (.iload 8, 2) := by decide +kernel
theorem d_Wl_init_63 : decode b_Wl_init 63 = .ok (.iload_n 2, 1) := by decide +kernel
theorem d_Wl_init_64 : decode b_Wl_init 64 = .ok (.aload 5, 2) := by decide +kernel
theorem d_Wl_init_66 : decode b_Wl_init 66 = .ok (.aload 6, 2) := by decide +kernel
theorem d_Wl_init_68 : decode b_Wl_init 68 = .ok (.invokespecial 23, 3) := by decide +kernel
theorem d_Wl_init_71 : decode b_Wl_init 71 = .ok (.aastore, 1) := by decide +kernel
theorem d_Wl_init_72 : decode b_Wl_init 72 = .ok (.iinc 8 1, 3) := by decide +kernel
theorem d_Wl_init_75 : decode b_Wl_init 75 = .ok (.goto (-28), 3) := by decide +kernel
theorem d_Wl_init_78 : decode b_Wl_init 78 = .ok (.aload_n 0, 1) := by decide +kernel
theorem d_Wl_init_79 : decode b_Wl_init 79 = .ok (.iload 4, 2) := by decide +kernel
theorem d_Wl_init_81 : decode b_Wl_init 81 = .ok (.putfield 26, 3) := by decide +kernel
theorem d_Wl_init_84 : decode b_Wl_init 84 = .ok (.aload_n 0, 1) := by decide +kernel
theorem d_Wl_init_85 : decode b_Wl_init 85 = .ok (.aload 5, 2) := by decide +kernel
theorem d_Wl_init_87 : decode b_Wl_init 87 = .ok (.putfield 30, 3) := by decide +kernel
theorem d_Wl_init_90 : decode b_Wl_init 90 = .ok (.aload_n 0, 1) := by decide +kernel
theorem d_Wl_init_91 : decode b_Wl_init 91 = .ok (.aload 6, 2) := by decide +kernel
theorem d_Wl_init_93 : decode b_Wl_init 93 = .ok (.putfield 34, 3) := by decide +kernel
theorem d_Wl_init_96 : decode b_Wl_init 96 = .ok (.aload_n 0, 1) := by decide +kernel
theorem d_Wl_init_97 : decode b_Wl_init 97 = .ok (.aload 7, 2) := by decide +kernel
theorem d_Wl_init_99 : decode b_Wl_init 99 = .ok (.putfield 38, 3) := by decide +kernel
theorem d_Wl_init_102 : decode b_Wl_init 102 = .ok (.aload_n 0, 1) := by decide +kernel
theorem d_Wl_init_103 : decode b_Wl_init 103 = .ok (.iload_n 1, 1) := by decide +kernel
theorem d_Wl_init_104 : decode b_Wl_init 104 = .ok (.putfield 42, 3) := by decide +kernel
theorem d_Wl_init_107 : decode b_Wl_init 107 = .ok (.return_, 1) := by decide +kernel
theorem d_Wl_transfer_0 : decode b_Wl_transfer 0 = .ok (.aload_n 0, 1) := by decide +kernel
theorem d_Wl_transfer_1 : decode b_Wl_transfer 1 = .ok (.iload_n 1, 1) := by decide +kernel
theorem d_Wl_transfer_2 : decode b_Wl_transfer 2 = .ok (.invokevirtual 45, 3) := by decide +kernel
theorem d_Wl_transfer_5 : decode b_Wl_transfer 5 = .ok (.ifCond .eq 17, 3) := by decide +kernel
theorem d_Wl_transfer_8 : decode b_Wl_transfer 8 = .ok (.iload_n 2, 1) := by decide +kernel
theorem d_Wl_transfer_9 : decode b_Wl_transfer 9 = .ok (.invokestatic 48, 3) := by decide +kernel
theorem d_Wl_transfer_12 : decode b_Wl_transfer 12 = .ok (.ifCond .eq 10, 3) := by decide +kernel
theorem d_Wl_transfer_15 : decode b_Wl_transfer 15 = .ok (.iload_n 3, 1) := by decide +kernel
theorem d_Wl_transfer_16 : decode b_Wl_transfer 16 = .ok (.invokestatic 48, 3) := by decide +kernel
theorem d_Wl_transfer_19 : decode b_Wl_transfer 19 = .ok (.ifCond .ne 13, 3) := by decide +kernel
theorem d_Wl_transfer_22 : decode b_Wl_transfer 22 = .ok (.new 51, 3) := by decide +kernel
theorem d_Wl_transfer_25 : decode b_Wl_transfer 25 = .ok (.dup, 1) := by decide +kernel
theorem d_Wl_transfer_26 : decode b_Wl_transfer 26 = .ok (.ldc 53, 2) := by decide +kernel
theorem d_Wl_transfer_28 : decode b_Wl_transfer 28 = .ok (.invokespecial 55, 3) := by decide +kernel
theorem d_Wl_transfer_31 : decode b_Wl_transfer 31 = .ok (.athrow, 1) := by decide +kernel
theorem d_Wl_transfer_32 : decode b_Wl_transfer 32 = .ok (.iload 4, 2) := by decide +kernel
theorem d_Wl_transfer_34 : decode b_Wl_transfer 34 = .ok (.iconst 1, 1) := by decide +kernel
theorem d_Wl_transfer_35 : decode b_Wl_transfer 35 = .ok (.if_icmp .lt 10, 3) := by decide +kernel
theorem d_Wl_transfer_38 : decode b_Wl_transfer 38 = .ok (.iload 4, 2) := by decide +kernel
theorem d_Wl_transfer_40 : decode b_Wl_transfer 40 = .ok (.bipush 99, 2) := by decide +kernel
theorem d_Wl_transfer_42 : decode b_Wl_transfer 42 = .ok (.if_icmp .le 13, 3) := by decide +kernel
theorem d_Wl_transfer_45 : decode b_Wl_transfer 45 = .ok (.new 51, 3) := by decide +kernel
theorem d_Wl_transfer_48 : decode b_Wl_transfer 48 = .ok (.dup, 1) := by decide +kernel
theorem d_Wl_transfer_49 : decode b_Wl_transfer 49 = .ok (.ldc 58, 2) := by decide +kernel
theorem d_Wl_transfer_51 : decode b_Wl_transfer 51 = .ok (.invokespecial 55, 3) := by decide +kernel
theorem d_Wl_transfer_54 : decode b_Wl_transfer 54 = .ok (.athrow, 1) := by decide +kernel
theorem d_Wl_transfer_55 : decode b_Wl_transfer 55 = .ok (.aload_n 0, 1) := by decide +kernel
theorem d_Wl_transfer_56 : decode b_Wl_transfer 56 = .ok (.getfield 38, 3) := by decide +kernel
theorem d_Wl_transfer_59 : decode b_Wl_transfer 59 = .ok (.iload_n 1, 1) := by decide +kernel
theorem d_Wl_transfer_60 : decode b_Wl_transfer 60 = .ok (.aaload, 1) := by decide +kernel
theorem d_Wl_transfer_61 : decode b_Wl_transfer 61 = .ok (.getfield 60, 3) := by decide +kernel
theorem d_Wl_transfer_64 : decode b_Wl_transfer 64 = .ok (.astore 5, 2) := by decide +kernel
theorem d_Wl_transfer_66 : decode b_Wl_transfer 66 = .ok (.aload 5, 2) := by decide +kernel
theorem d_Wl_transfer_68 : decode b_Wl_transfer 68 = .ok (.invokevirtual 64, 3) := by decide +kernel
theorem d_Wl_transfer_71 : decode b_Wl_transfer 71 = .ok (.ifCond .eq 13, 3) := by decide +kernel
theorem d_Wl_transfer_74 : decode b_Wl_transfer 74 = .ok (.new 70, 3) := by decide +kernel
theorem d_Wl_transfer_77 : decode b_Wl_transfer 77 = .ok (.dup, 1) := by decide +kernel
theorem d_Wl_transfer_78 : decode b_Wl_transfer 78 = .ok (.ldc 72, 2) := by decide +kernel
theorem d_Wl_transfer_80 : decode b_Wl_transfer 80 = .ok (.invokespecial 74, 3) := by decide +kernel
theorem d_Wl_transfer_83 : decode b_Wl_transfer 83 = .ok (.athrow, 1) := by decide +kernel
theorem d_Wl_transfer_84 : decode b_Wl_transfer 84 = .ok (.aload 5, 2) := by decide +kernel
theorem d_Wl_transfer_86 : decode b_Wl_transfer 86 = .ok (.sipush 1000, 3) := by decide +kernel
theorem d_Wl_transfer_89 : decode b_Wl_transfer 89 = .ok (.iload 4, 2) := by decide +kernel
theorem d_Wl_transfer_91 : decode b_Wl_transfer 91 = .ok (.imul, 1) := by decide +kernel
theorem d_Wl_transfer_92 : decode b_Wl_transfer 92 = .ok (.bipush 10, 2) := by decide +kernel
theorem d_Wl_transfer_94 : decode b_Wl_transfer 94 = .ok (.iload_n 2, 1) := by decide +kernel
theorem d_Wl_transfer_95 : decode b_Wl_transfer 95 = .ok (.imul, 1) := by decide +kernel
theorem d_Wl_transfer_96 : decode b_Wl_transfer 96 = .ok (.iadd, 1) := by decide +kernel
theorem d_Wl_transfer_97 : decode b_Wl_transfer 97 = .ok (.iload_n 3, 1) := by decide +kernel
theorem d_Wl_transfer_98 : decode b_Wl_transfer 98 = .ok (.iadd, 1) := by decide +kernel
theorem d_Wl_transfer_99 : decode b_Wl_transfer 99 = .ok (.invokevirtual 75, 3) := by decide +kernel
theorem d_Wl_transfer_102 : decode b_Wl_transfer 102 = .ok (.aload 5, 2) := by decide +kernel
theorem d_Wl_transfer_104 : decode b_Wl_transfer 104 = .ok (.getfield 78, 3) := by decide +kernel
theorem d_Wl_transfer_107 : decode b_Wl_transfer 107 = .ok (.ireturn, 1) := by decide +kernel
theorem d_Wl_begin_0 : decode b_Wl_begin 0 = .ok (.aload_n 0, 1) := by decide +kernel
theorem d_Wl_begin_1 : decode b_Wl_begin 1 = .ok (.getfield 81, 3) := by decide +kernel
theorem d_Wl_begin_4 : decode b_Wl_begin 4 = .ok (.ifCond .eq 5, 3) := by decide +kernel
theorem d_Wl_begin_7 : decode b_Wl_begin 7 = .ok (.iconst 0, 1) := by decide +kernel
theorem d_Wl_begin_8 : decode b_Wl_begin 8 = .ok (.ireturn, 1) := by decide +kernel
