theorem d_Mo_isFull_0 : decode b_Mo_isFull 0 = .ok (.aload_n 0, 1) := by decide +kernel
theorem d_Mo_isFull_1 : decode b_Mo_isFull 1 = .ok (.getfield 51, 3) := by decide +kernel
theorem d_Mo_isFull_4 : decode b_Mo_isFull 4 = .ok (.iload_n 1, 1) := by decide +kernel
theorem d_Mo_isFull_5 : decode b_Mo_isFull 5 = .ok (.iaload, 1) := by decide +kernel
theorem d_Mo_isFull_6 : decode b_Mo_isFull 6 = .ok (.ifCond .eq 21, 3) := by decide +kernel
theorem d_Mo_isFull_9 : decode b_Mo_isFull 9 = .ok (.aload_n 0, 1) := by decide +kernel
theorem d_Mo_isFull_10 : decode b_Mo_isFull 10 = .ok (.iload_n 1, 1) := by decide +kernel
theorem d_Mo_isFull_11 : decode b_Mo_isFull 11 = .ok (.aload_n 0, 1) := by decide +kernel
theorem d_Mo_isFull_12 : decode b_Mo_isFull 12 = .ok (.getfield 51, 3) := by decide +kernel
theorem d_Mo_isFull_15 : decode b_Mo_isFull 15 = .ok (.iload_n 1, 1) := by decide +kernel
theorem d_Mo_isFull_16 : decode b_Mo_isFull 16 = .ok (.iaload, 1) := by decide +kernel
theorem d_Mo_isFull_17 : decode b_Mo_isFull 17 = .ok (.invokevirtual 168, 3) := by decide +kernel
theorem d_Mo_isFull_20 : decode b_Mo_isFull 20 = .ok (.invokestatic 134, 3) := by decide +kernel
theorem d_Mo_isFull_23 : decode b_Mo_isFull 23 = .ok (.iconst 3, 1) := by decide +kernel
theorem d_Mo_isFull_24 : decode b_Mo_isFull 24 = .ok (.if_icmp .lt 7, 3) := by decide +kernel
theorem d_Mo_isFull_27 : decode b_Mo_isFull 27 = .ok (.iconst 1, 1) := by decide +kernel
theorem d_Mo_isFull_28 : decode b_Mo_isFull 28 = .ok (.goto 4, 3) := by decide +kernel
theorem d_Mo_isFull_31 : decode b_Mo_isFull 31 = .ok (.iconst 0, 1) := by decide +kernel
theorem d_Mo_isFull_32 : decode b_Mo_isFull 32 = .ok (.ireturn, 1) := by decide +kernel
theorem d_Mo_goesOn_0 : decode b_Mo_goesOn 0 = .ok (.aload_n 0, 1) := by decide +kernel
theorem d_Mo_goesOn_1 : decode b_Mo_goesOn 1 = .ok (.getfield 51, 3) := by decide +kernel
theorem d_Mo_goesOn_4 : decode b_Mo_goesOn 4 = .ok (.iload_n 1, 1) := by decide +kernel
theorem d_Mo_goesOn_5 : decode b_Mo_goesOn 5 = .ok (.iaload, 1) := by decide +kernel
theorem d_Mo_goesOn_6 : decode b_Mo_goesOn 6 = .ok (.bipush 12, 2) := by decide +kernel
theorem d_Mo_goesOn_8 : decode b_Mo_goesOn 8 = .ok (.if_icmp .ge 60, 3) := by decide +kernel
theorem d_Mo_goesOn_11 : decode b_Mo_goesOn 11 = .ok (.aload_n 0, 1) := by decide +kernel
theorem d_Mo_goesOn_12 : decode b_Mo_goesOn 12 = .ok (.iload_n 1, 1) := by decide +kernel
theorem d_Mo_goesOn_13 : decode b_Mo_goesOn 13 = .ok (.invokevirtual 179, 3) := by decide +kernel
theorem d_Mo_goesOn_16 : decode b_Mo_goesOn 16 = .ok (.ifCond .eq 52, 3) := by decide +kernel
theorem d_Mo_goesOn_19 : decode b_Mo_goesOn 19 = .ok (.aload_n 0, 1) := by decide +kernel
theorem d_Mo_goesOn_20 : decode b_Mo_goesOn 20 = .ok (.getfield 51, 3) := by decide +kernel
theorem d_Mo_goesOn_23 : decode b_Mo_goesOn 23 = .ok (.iload_n 1, 1) := by decide +kernel
theorem d_Mo_goesOn_24 : decode b_Mo_goesOn 24 = .ok (.iaload, 1) := by decide +kernel
theorem d_Mo_goesOn_25 : decode b_Mo_goesOn 25 = .ok (.istore_n 2, 1) := by decide +kernel
theorem d_Mo_goesOn_26 : decode b_Mo_goesOn 26 = .ok (.iload_n 2, 1) := by decide +kernel
theorem d_Mo_goesOn_27 : decode b_Mo_goesOn 27 = .ok (.ifCond .le 17, 3) := by decide +kernel
theorem d_Mo_goesOn_30 : decode b_Mo_goesOn 30 = .ok (.iload_n 2, 1) := by decide +kernel
theorem d_Mo_goesOn_31 : decode b_Mo_goesOn 31 = .ok (.iconst 4, 1) := by decide +kernel
theorem d_Mo_goesOn_32 : decode b_Mo_goesOn 32 = .ok (.irem, 1) := by decide +kernel
theorem d_Mo_goesOn_33 : decode b_Mo_goesOn 33 = .ok (.ifCond .ne 11, 3) := by decide +kernel
theorem d_Mo_goesOn_36 : decode b_Mo_goesOn 36 = .ok (.aload_n 0, 1) := by decide +kernel
theorem d_Mo_goesOn_37 : decode b_Mo_goesOn 37 = .ok (.iload_n 1, 1) := by decide +kernel
theorem d_Mo_goesOn_38 : decode b_Mo_goesOn 38 = .ok (.iload_n 2, 1) := by decide +kernel
theorem d_Mo_goesOn_39 : decode b_Mo_goesOn 39 = .ok (.iconst 4, 1) := by decide +kernel
theorem d_Mo_goesOn_40 : decode b_Mo_goesOn 40 = .ok (.idiv, 1) := by decide +kernel
theorem d_Mo_goesOn_41 : decode b_Mo_goesOn 41 = .ok (.invokevirtual 182, 3) := by decide +kernel
theorem d_Mo_goesOn_44 : decode b_Mo_goesOn 44 = .ok (.aload_n 0, 1) := by decide +kernel
theorem d_Mo_goesOn_45 : decode b_Mo_goesOn 45 = .ok (.getfield 51, 3) := by decide +kernel
theorem d_Mo_goesOn_48 : decode b_Mo_goesOn 48 = .ok (.iload_n 1, 1) := by decide +kernel
theorem d_Mo_goesOn_49 : decode b_Mo_goesOn 49 = .ok (.dup2, 1) := by decide +kernel
theorem d_Mo_goesOn_50 : decode b_Mo_goesOn 50 = .ok (.iaload, 1) := by decide +kernel
theorem d_Mo_goesOn_51 : decode b_Mo_goesOn 51 = .ok (.iconst 1, 1) := by decide +kernel
theorem d_Mo_goesOn_52 : decode b_Mo_goesOn 52 = .ok (.iadd, 1) := by decide +kernel
theorem d_Mo_goesOn_53 : decode b_Mo_goesOn 53 = .ok (.iastore, 1) := by decide +kernel
theorem d_Mo_goesOn_54 : decode b_Mo_goesOn 54 = .ok (.aload_n 0, 1) := by decide +kernel
theorem d_Mo_goesOn_55 : decode b_Mo_goesOn 55 = .ok (.iload_n 1, 1) := by decide +kernel
theorem d_Mo_goesOn_56 : decode b_Mo_goesOn 56 = .ok (.aload_n 0, 1) := by decide +kernel
theorem d_Mo_goesOn_57 : decode b_Mo_goesOn 57 = .ok (.getfield 51, 3) := by decide +kernel
theorem d_Mo_goesOn_60 : decode b_Mo_goesOn 60 = .ok (.iload_n 1, 1) := by decide +kernel
theorem d_Mo_goesOn_61 : decode b_Mo_goesOn 61 = .ok (.iaload, 1) := by decide +kernel
theorem d_Mo_goesOn_62 : decode b_Mo_goesOn 62 = .ok (.invokevirtual 185, 3) := by decide +kernel
theorem d_Mo_goesOn_65 : decode b_Mo_goesOn 65 = .ok (.goto (-65), 3) := by decide +kernel
theorem d_Mo_goesOn_68 : decode b_Mo_goesOn 68 = .ok (.aload_n 0, 1) := by decide +kernel
theorem d_Mo_goesOn_69 : decode b_Mo_goesOn 69 = .ok (.getfield 51, 3) := by decide +kernel
theorem d_Mo_goesOn_72 : decode b_Mo_goesOn 72 = .ok (.iload_n 1, 1) := by decide +kernel
theorem d_Mo_goesOn_73 : decode b_Mo_goesOn 73 = .ok (.iaload, 1) := by decide +kernel
theorem d_Mo_goesOn_74 : decode b_Mo_goesOn 74 = .ok (.bipush 12, 2) := by decide +kernel
theorem d_Mo_goesOn_76 : decode b_Mo_goesOn 76 = .ok (.if_icmp .ne 33, 3) := by decide +kernel
theorem d_Mo_goesOn_79 : decode b_Mo_goesOn 79 = .ok (.aload_n 0, 1) := by decide +kernel
theorem d_Mo_goesOn_80 : decode b_Mo_goesOn 80 = .ok (.getfield 54, 3) := by decide +kernel
theorem d_Mo_goesOn_83 : decode b_Mo_goesOn 83 = .ok (.iload_n 1, 1) := by decide +kernel
theorem d_Mo_goesOn_84 : decode b_Mo_goesOn 84 = .ok (.baload, 1) := by decide +kernel
theorem d_Mo_goesOn_85 : decode b_Mo_goesOn 85 = .ok (.ifCond .ne 24, 3) := by decide +kernel
theorem d_Mo_goesOn_88 : decode b_Mo_goesOn 88 = .ok (.aload_n 0, 1) := by decide +kernel
theorem d_Mo_goesOn_89 : decode b_Mo_goesOn 89 = .ok (.iload_n 1, 1) := by decide +kernel
theorem d_Mo_goesOn_90 : decode b_Mo_goesOn 90 = .ok (.invokevirtual 179, 3) := by decide +kernel
theorem d_Mo_goesOn_93 : decode b_Mo_goesOn 93 = .ok (.ifCond .eq 16, 3) := by decide +kernel
theorem d_Mo_goesOn_96 : decode b_Mo_goesOn 96 = .ok (.aload_n 0, 1) := by decide +kernel
theorem d_Mo_goesOn_97 : decode b_Mo_goesOn 97 = .ok (.getfield 54, 3) := by decide +kernel
theorem d_Mo_goesOn_100 : decode b_Mo_goesOn 100 = .ok (.iload_n 1, 1) := by decide +kernel
theorem d_Mo_goesOn_101 : decode b_Mo_goesOn 101 = .ok (.iconst 1, 1) := by decide +kernel
theorem d_Mo_goesOn_102 : decode b_Mo_goesOn 102 = .ok (.bastore, 1) := by decide +kernel
theorem d_Mo_goesOn_103 : decode b_Mo_goesOn 103 = .ok (.aload_n 0, 1) := by decide +kernel
theorem d_Mo_goesOn_104 : decode b_Mo_goesOn 104 = .ok (.iload_n 1, 1) := by decide +kernel
theorem d_Mo_goesOn_105 : decode b_Mo_goesOn 105 = .ok (.iconst 3, 1) := by decide +kernel
theorem d_Mo_goesOn_106 : decode b_Mo_goesOn 106 = .ok (.invokevirtual 182, 3) := by decide +kernel
theorem d_Mo_goesOn_109 : decode b_Mo_goesOn 109 = .ok (.return_, 1) := by decide +kernel
theorem d_Mo_isTransfer_0 : decode b_Mo_isTransfer 0 = .ok (.iload_n 1, 1) := by decide +kernel
theorem d_Mo_isTransfer_1 : decode b_Mo_isTransfer 1 = .ok (.invokestatic 88, 3) := by decide +kernel
theorem d_Mo_isTransfer_4 : decode b_Mo_isTransfer 4 = .ok (.ifCond .eq 25, 3) := by decide +kernel
theorem d_Mo_isTransfer_7 : decode b_Mo_isTransfer 7 = .ok (.iload_n 2, 1) := by decide +kernel
theorem d_Mo_isTransfer_8 : decode b_Mo_isTransfer 8 = .ok (.invokestatic 88, 3) := by decide +kernel
theorem d_Mo_isTransfer_11 : decode b_Mo_isTransfer 11 = .ok (.ifCond .eq 18, 3) := by decide +kernel
theorem d_Mo_isTransfer_14 : decode b_Mo_isTransfer 14 = .ok (.iload_n 0, 1) := by decide +kernel
theorem d_Mo_isTransfer_15 : decode b_Mo_isTransfer 15 = .ok (.iconst 1, 1) := by decide +kernel
theorem d_Mo_isTransfer_16 : decode b_Mo_isTransfer 16 = .ok (.if_icmp .lt 13, 3) := by decide +kernel
theorem d_Mo_isTransfer_19 : decode b_Mo_isTransfer 19 = .ok (.iload_n 0, 1) := by decide +kernel
theorem d_Mo_isTransfer_20 : decode b_Mo_isTransfer 20 = .ok (.bipush 99, 2) := by decide +kernel
theorem d_Mo_isTransfer_22 : decode b_Mo_isTransfer 22 = .ok (.if_icmp .gt 7, 3) := by decide +kernel
theorem d_Mo_isTransfer_25 : decode b_Mo_isTransfer 25 = .ok (.iconst 1, 1) := by decide +kernel
theorem d_Mo_isTransfer_26 : decode b_Mo_isTransfer 26 = .ok (.goto 4, 3) := by decide +kernel
theorem d_Mo_isTransfer_29 : decode b_Mo_isTransfer 29 = .ok (.iconst 0, 1) := by decide +kernel
theorem d_Mo_isTransfer_30 : decode b_Mo_isTransfer 30 = .ok (.ireturn, 1) := by decide +kernel
theorem d_Mo_transfer_0 : decode b_Mo_transfer 0 = .ok (.aload_n 0, 1) := by decide +kernel
theorem d_Mo_transfer_1 : decode b_Mo_transfer 1 = .ok (.iconst 0, 1) := by decide +kernel
theorem d_Mo_transfer_2 : decode b_Mo_transfer 2 = .ok (.putfield 85, 3) := by decide +kernel
theorem d_Mo_transfer_5 : decode b_Mo_transfer 5 = .ok (.iload_n 1, 1) := by decide +kernel
theorem d_Mo_transfer_6 : decode b_Mo_transfer 6 = .ok (.invokestatic 88, 3) := by decide +kernel
theorem d_Mo_transfer_9 : decode b_Mo_transfer 9 = .ok (.ifCond .eq 21, 3) := by decide +kernel
theorem d_Mo_transfer_12 : decode b_Mo_transfer 12 = .ok (.aload_n 0, 1) := by decide +kernel
theorem d_Mo_transfer_13 : decode b_Mo_transfer 13 = .ok (.iload_n 1, 1) := by decide +kernel
theorem d_Mo_transfer_14 : decode b_Mo_transfer 14 = .ok (.invokevirtual 93, 3) := by decide +kernel
theorem d_Mo_transfer_17 : decode b_Mo_transfer 17 = .ok (.ifCond .ne 13, 3) := by decide +kernel
theorem d_Mo_transfer_20 : decode b_Mo_transfer 20 = .ok (.iload 4, 2) := by decide +kernel
theorem d_Mo_transfer_22 : decode b_Mo_transfer 22 = .ok (.iload_n 2, 1) := by decide +kernel
theorem d_Mo_transfer_23 : decode b_Mo_transfer 23 = .ok (.iload_n 3, 1) := by decide +kernel
theorem d_Mo_transfer_24 : decode b_Mo_transfer 24 = .ok (.invokestatic 188, 3) := by decide +kernel
theorem d_Mo_transfer_27 : decode b_Mo_transfer 27 = .ok (.ifCond .ne 9, 3) := by decide +kernel
theorem d_Mo_transfer_30 : decode b_Mo_transfer 30 = .ok (.aload_n 0, 1) := by decide +kernel
theorem d_Mo_transfer_31 : decode b_Mo_transfer 31 = .ok (.iconst 1, 1) := by decide +kernel
theorem d_Mo_transfer_32 : decode b_Mo_transfer 32 = .ok (.invokevirtual 192, 3) := by decide +kernel
theorem d_Mo_transfer_35 : decode b_Mo_transfer 35 = .ok (.ireturn, 1) := by decide +kernel
theorem d_Mo_transfer_36 : decode b_Mo_transfer 36 = .ok (.aload_n 0, 1) := by decide +kernel
theorem d_Mo_transfer_37 : decode b_Mo_transfer 37 = .ok (.getfield 69, 3) := by decide +kernel
theorem d_Mo_transfer_40 : decode b_Mo_transfer 40 = .ok (.iload_n 1, 1) := by decide +kernel
theorem d_Mo_transfer_41 : decode b_Mo_transfer 41 = .ok (.iaload, 1) := by decide +kernel
theorem d_Mo_transfer_42 : decode b_Mo_transfer 42 = .ok (.bipush 12, 2) := by decide +kernel
theorem d_Mo_transfer_44 : decode b_Mo_transfer 44 = .ok (.if_icmp .ne 9, 3) := by decide +kernel
theorem d_Mo_transfer_47 : decode b_Mo_transfer 47 = .ok (.aload_n 0, 1) := by decide +kernel
theorem d_Mo_transfer_48 : decode b_Mo_transfer 48 = .ok (.iconst 2, 1) := by decide +kernel
theorem d_Mo_transfer_49 : decode b_Mo_transfer 49 = .ok (.invokevirtual 192, 3) := by decide +kernel
theorem d_Mo_transfer_52 : decode b_Mo_transfer 52 = .ok (.ireturn, 1) := by decide +kernel
theorem d_Mo_transfer_53 : decode b_Mo_transfer 53 = .ok (.aload_n 0, 1) := by decide +kernel
theorem d_Mo_transfer_54 : decode b_Mo_transfer 54 = .ok (.getfield 66, 3) := by decide +kernel
theorem d_Mo_transfer_57 : decode b_Mo_transfer 57 = .ok (.bipush 12, 2) := by decide +kernel
theorem d_Mo_transfer_59 : decode b_Mo_transfer 59 = .ok (.iload_n 1, 1) := by decide +kernel
theorem d_Mo_transfer_60 : decode b_Mo_transfer 60 = .ok (.imul, 1) := by decide +kernel
theorem d_Mo_transfer_61 : decode b_Mo_transfer 61 = .ok (.aload_n 0, 1) := by decide +kernel
theorem d_Mo_transfer_62 : decode b_Mo_transfer 62 = .ok (.getfield 69, 3) := by decide +kernel
theorem d_Mo_transfer_65 : decode b_Mo_transfer 65 = .ok (.iload_n 1, 1) := by decide +kernel
theorem d_Mo_transfer_66 : decode b_Mo_transfer 66 = .ok (.iaload, 1) := by decide +kernel
theorem d_Mo_transfer_67 : decode b_Mo_transfer 67 = .ok (.iadd, 1) := by decide +kernel
theorem d_Mo_transfer_68 : decode b_Mo_transfer 68 = .ok (.sipush 1000, 3) := by decide +kernel
theorem d_Mo_transfer_71 : decode b_Mo_transfer 71 = .ok (.iload 4, 2) := by decide +kernel
theorem d_Mo_transfer_73 : decode b_Mo_transfer 73 = .ok (.imul, 1) := by decide +kernel
theorem d_Mo_transfer_74 : decode b_Mo_transfer 74 = .ok (.bipush 10, 2) := by decide +kernel
theorem d_Mo_transfer_76 : decode b_Mo_transfer 76 = .ok (.iload_n 2, 1) := by decide +kernel
theorem d_Mo_transfer_77 : decode b_Mo_transfer 77 = .ok (.imul, 1) := by decide +kernel
theorem d_Mo_transfer_78 : decode b_Mo_transfer 78 = .ok (.iadd, 1) := by decide +kernel
theorem d_Mo_transfer_79 : decode b_Mo_transfer 79 = .ok (.iload_n 3, 1) := by decide +kernel
theorem d_Mo_transfer_80 : decode b_Mo_transfer 80 = .ok (.iadd, 1) := by decide +kernel
theorem d_Mo_transfer_81 : decode b_Mo_transfer 81 = .ok (.iastore, 1) := by decide +kernel
theorem d_Mo_transfer_82 : decode b_Mo_transfer 82 = .ok (.aload_n 0, 1) := by decide +kernel
theorem d_Mo_transfer_83 : decode b_Mo_transfer 83 = .ok (.getfield 69, 3) := by decide +kernel
theorem d_Mo_transfer_86 : decode b_Mo_transfer 86 = .ok (.iload_n 1, 1) := by decide +kernel
theorem d_Mo_transfer_87 : decode b_Mo_transfer 87 = .ok (.dup2, 1) := by decide +kernel
theorem d_Mo_transfer_88 : decode b_Mo_transfer 88 = .ok (.iaload, 1) := by decide +kernel
theorem d_Mo_transfer_89 : decode b_Mo_transfer 89 = .ok (.iconst 1, 1) := by decide +kernel
theorem d_Mo_transfer_90 : decode b_Mo_transfer 90 = .ok (.iadd, 1) := by decide +kernel
theorem d_Mo_transfer_91 : decode b_Mo_transfer 91 = .ok (.iastore, 1) := by decide +kernel
theorem d_Mo_transfer_92 : decode b_Mo_transfer 92 = .ok (.aload_n 0, 1) := by decide +kernel
theorem d_Mo_transfer_93 : decode b_Mo_transfer 93 = .ok (.getfield 69, 3) := by decide +kernel
theorem d_Mo_transfer_96 : decode b_Mo_transfer 96 = .ok (.iload_n 1, 1) := by decide +kernel
theorem d_Mo_transfer_97 : decode b_Mo_transfer 97 = .ok (.iaload, 1) := by decide +kernel
theorem d_Mo_transfer_98 : decode b_Mo_transfer 98 = .ok (.ireturn, 1) := by decide +kernel
theorem d_Mo_begin_0 : decode b_Mo_begin 0 = .ok (.aload_n 0, 1) := by decide +kernel
theorem d_Mo_begin_1 : decode b_Mo_begin 1 = .ok (.iconst 0, 1) := by decide +kernel
theorem d_Mo_begin_2 : decode b_Mo_begin 2 = .ok (.putfield 85, 3) := by decide +kernel
theorem d_Mo_begin_5 : decode b_Mo_begin 5 = .ok (.aload_n 0, 1) := by decide +kernel
theorem d_Mo_begin_6 : decode b_Mo_begin 6 = .ok (.getfield 112, 3) := by decide +kernel
theorem d_Mo_begin_9 : decode b_Mo_begin 9 = .ok (.ifCond .eq 5, 3) := by decide +kernel
theorem d_Mo_begin_12 : decode b_Mo_begin 12 = .ok (.iconst 0, 1) := by decide +kernel
theorem d_Mo_begin_13 : decode b_Mo_begin 13 = .ok (.ireturn, 1) := by decide +kernel
theorem d_Mo_begin_14 : decode b_Mo_begin 14 = .ok (.aload_n 0, 1) := by decide +kernel
theorem d_Mo_begin_15 : decode b_Mo_begin 15 = .ok (.iconst 1, 1) := by decide +kernel
theorem d_Mo_begin_16 : decode b_Mo_begin 16 = .ok (.putfield 112, 3) := by decide +kernel
theorem d_Mo_begin_19 : decode b_Mo_begin 19 = .ok (.iconst 0, 1) := by decide +kernel
theorem d_Mo_begin_20 : decode b_Mo_begin 20 = .ok (.istore_n 1, 1) := by decide +kernel
theorem d_Mo_begin_21 : decode b_Mo_begin 21 = .ok (.iload_n 1, 1) := by decide +kernel
theorem d_Mo_begin_22 : decode b_Mo_begin 22 = .ok (.iconst 4, 1) := by decide +kernel
theorem d_Mo_begin_23 : decode b_Mo_begin 23 = .ok (.if_icmp .ge 22, 3) := by decide +kernel
theorem d_Mo_begin_26 : decode b_Mo_begin 26 = .ok (.aload_n 0, 1) := by decide +kernel
theorem d_Mo_begin_27 : decode b_Mo_begin 27 = .ok (.iload_n 1, 1) := by decide +kernel
theorem d_Mo_begin_28 : decode b_Mo_begin 28 = .ok (.invokevirtual 93, 3) := by decide +kernel
theorem d_Mo_begin_31 : decode b_Mo_begin 31 = .ok (.ifCond .ne 8, 3) := by decide +kernel
theorem d_Mo_begin_34 : decode b_Mo_begin 34 = .ok (.aload_n 0, 1) := by decide +kernel
theorem d_Mo_begin_35 : decode b_Mo_begin 35 = .ok (.iload_n 1, 1) := by decide +kernel
theorem d_Mo_begin_36 : decode b_Mo_begin 36 = .ok (.invokevirtual 116, 3) := by decide +kernel
theorem d_Mo_begin_39 : decode b_Mo_begin 39 = .ok (.iinc 1 1, 3) := by decide +kernel
theorem d_Mo_begin_42 : decode b_Mo_begin 42 = .ok (.goto (-21), 3) := by decide +kernel
theorem d_Mo_begin_45 : decode b_Mo_begin 45 = .ok (.iconst 1, 1) := by decide +kernel
theorem d_Mo_begin_46 : decode b_Mo_begin 46 = .ok (.ireturn, 1) := by decide +kernel
theorem d_Mo_run_0 : decode b_Mo_run 0 = .ok (.aload_n 0, 1) := by decide +kernel
theorem d_Mo_run_1 : decode b_Mo_run 1 = .ok (.iconst 0, 1) := by decide +kernel
theorem d_Mo_run_2 : decode b_Mo_run 2 = .ok (.putfield 85, 3) := by decide +kernel
theorem d_Mo_run_5 : decode b_Mo_run 5 = .ok (.iload_n 1, 1) := by decide +kernel
theorem d_Mo_run_6 : decode b_Mo_run 6 = .ok (.ifCond .lt 9, 3) := by decide +kernel
theorem d_Mo_run_9 : decode b_Mo_run 9 = .ok (.iload_n 1, 1) := by decide +kernel
theorem d_Mo_run_10 : decode b_Mo_run 10 = .ok (.bipush 100, 2) := by decide +kernel
theorem d_Mo_run_12 : decode b_Mo_run 12 = .ok (.if_icmp .le 9, 3) := by decide +kernel
theorem d_Mo_run_15 : decode b_Mo_run 15 = .ok (.aload_n 0, 1) := by decide +kernel
theorem d_Mo_run_16 : decode b_Mo_run 16 = .ok (.iconst 1, 1) := by decide +kernel
theorem d_Mo_run_17 : decode b_Mo_run 17 = .ok (.invokevirtual 192, 3) := by decide +kernel
theorem d_Mo_run_20 : decode b_Mo_run 20 = .ok (.ireturn, 1) := by decide +kernel
theorem d_Mo_run_21 : decode b_Mo_run 21 = .ok (.iconst 0, 1) := by decide +kernel
theorem d_Mo_run_22 : decode b_Mo_run 22 = .ok (.istore_n 2, 1) := by decide +kernel
theorem d_Mo_run_23 : decode b_Mo_run 23 = .ok (.iload_n 2, 1) := by decide +kernel
theorem d_Mo_run_24 : decode b_Mo_run 24 = .ok (.iload_n 1, 1) := by decide +kernel
theorem d_Mo_run_25 : decode b_Mo_run 25 = .ok (.if_icmp .ge 30, 3) := by decide +kernel
theorem d_Mo_run_28 : decode b_Mo_run 28 = .ok (.aload_n 0, 1) := by decide +kernel
theorem d_Mo_run_29 : decode b_Mo_run 29 = .ok (.getfield 96, 3) := by decide +kernel
theorem d_Mo_run_32 : decode b_Mo_run 32 = .ok (.ifCond .le 23, 3) := by decide +kernel
theorem d_Mo_run_35 : decode b_Mo_run 35 = .ok (.aload_n 0, 1) := by decide +kernel
theorem d_Mo_run_36 : decode b_Mo_run 36 = .ok (.aload_n 0, 1) := by decide +kernel
theorem d_Mo_run_37 : decode b_Mo_run 37 = .ok (.getfield 96, 3) := by decide +kernel
theorem d_Mo_run_40 : decode b_Mo_run 40 = .ok (.invokevirtual 195, 3) := by decide +kernel
theorem d_Mo_run_43 : decode b_Mo_run 43 = .ok (.istore_n 3, 1) := by decide +kernel
theorem d_Mo_run_44 : decode b_Mo_run 44 = .ok (.aload_n 0, 1) := by decide +kernel
theorem d_Mo_run_45 : decode b_Mo_run 45 = .ok (.iload_n 3, 1) := by decide +kernel
theorem d_Mo_run_46 : decode b_Mo_run 46 = .ok (.invokevirtual 198, 3) := by decide +kernel
theorem d_Mo_run_49 : decode b_Mo_run 49 = .ok (.iinc 2 1, 3) := by decide +kernel
theorem d_Mo_run_52 : decode b_Mo_run 52 = .ok (.goto (-29), 3) := by decide +kernel
theorem d_Mo_run_55 : decode b_Mo_run 55 = .ok (.aload_n 0, 1) := by decide +kernel
theorem d_Mo_run_56 : decode b_Mo_run 56 = .ok (.getfield 96, 3) := by decide +kernel
theorem d_Mo_run_59 : decode b_Mo_run 59 = .ok (.ireturn, 1) := by decide +kernel
theorem d_Mo_deliver_0 : decode b_Mo_deliver 0 = .ok (.aload_n 0, 1) := by decide +kernel
theorem d_Mo_deliver_1 : decode b_Mo_deliver 1 = .ok (.iconst 0, 1) := by decide +kernel
theorem d_Mo_deliver_2 : decode b_Mo_deliver 2 = .ok (.putfield 85, 3) := by decide +kernel
theorem d_Mo_deliver_5 : decode b_Mo_deliver 5 = .ok (.iload_n 1, 1) := by decide +kernel
theorem d_Mo_deliver_6 : decode b_Mo_deliver 6 = .ok (.ifCond .lt 11, 3) := by decide +kernel
theorem d_Mo_deliver_9 : decode b_Mo_deliver 9 = .ok (.iload_n 1, 1) := by decide +kernel
theorem d_Mo_deliver_10 : decode b_Mo_deliver 10 = .ok (.aload_n 0, 1) := by decide +kernel
theorem d_Mo_deliver_11 : decode b_Mo_deliver 11 = .ok (.getfield 96, 3) := by decide +kernel
theorem d_Mo_deliver_14 : decode b_Mo_deliver 14 = .ok (.if_icmp .lt 5, 3) := by decide +kernel
theorem d_Mo_deliver_17 : decode b_Mo_deliver 17 = .ok (.iconst 0, 1) := by decide +kernel
theorem d_Mo_deliver_18 : decode b_Mo_deliver 18 = .ok (.ireturn, 1) := by decide +kernel
theorem d_Mo_deliver_19 : decode b_Mo_deliver 19 = .ok (.aload_n 0, 1) := by decide +kernel
theorem d_Mo_deliver_20 : decode b_Mo_deliver 20 = .ok (.iload_n 1, 1) := by decide +kernel
theorem d_Mo_deliver_21 : decode b_Mo_deliver 21 = .ok (.invokevirtual 198, 3) := by decide +kernel
theorem d_Mo_deliver_24 : decode b_Mo_deliver 24 = .ok (.iconst 1, 1) := by decide +kernel
theorem d_Mo_deliver_25 : decode b_Mo_deliver 25 = .ok (.ireturn, 1) := by decide +kernel
theorem d_Mo_forge_0 : decode b_Mo_forge 0 = .ok (.aload_n 0, 1) := by decide +kernel
theorem d_Mo_forge_1 : decode b_Mo_forge 1 = .ok (.iconst 0, 1) := by decide +kernel
theorem d_Mo_forge_2 : decode b_Mo_forge 2 = .ok (.putfield 85, 3) := by decide +kernel
theorem d_Mo_forge_5 : decode b_Mo_forge 5 = .ok (.iload 5, 2) := by decide +kernel
theorem d_Mo_forge_7 : decode b_Mo_forge 7 = .ok (.ifCond .eq 33, 3) := by decide +kernel
theorem d_Mo_forge_10 : decode b_Mo_forge 10 = .ok (.iload 5, 2) := by decide +kernel
theorem d_Mo_forge_12 : decode b_Mo_forge 12 = .ok (.ifCond .le 32, 3) := by decide +kernel
theorem d_Mo_forge_15 : decode b_Mo_forge 15 = .ok (.iload 5, 2) := by decide +kernel
theorem d_Mo_forge_17 : decode b_Mo_forge 17 = .ok (.sipush 1000, 3) := by decide +kernel
theorem d_Mo_forge_20 : decode b_Mo_forge 20 = .ok (.idiv, 1) := by decide +kernel
theorem d_Mo_forge_21 : decode b_Mo_forge 21 = .ok (.iload 5, 2) := by decide +kernel
theorem d_Mo_forge_23 : decode b_Mo_forge 23 = .ok (.bipush 10, 2) := by decide +kernel
theorem d_Mo_forge_25 : decode b_Mo_forge 25 = .ok (.idiv, 1) := by decide +kernel
theorem d_Mo_forge_26 : decode b_Mo_forge 26 = .ok (.bipush 100, 2) := by decide +kernel
theorem d_Mo_forge_28 : decode b_Mo_forge 28 = .ok (.irem, 1) := by decide +kernel
theorem d_Mo_forge_29 : decode b_Mo_forge 29 = .ok (.iload 5, 2) := by decide +kernel
theorem d_Mo_forge_31 : decode b_Mo_forge 31 = .ok (.bipush 10, 2) := by decide +kernel
theorem d_Mo_forge_33 : decode b_Mo_forge 33 = .ok (.irem, 1) := by decide +kernel
theorem d_Mo_forge_34 : decode b_Mo_forge 34 = .ok (.invokestatic 188, 3) := by decide +kernel
theorem d_Mo_forge_37 : decode b_Mo_forge 37 = .ok (.ifCond .eq 7, 3) := by decide +kernel
theorem d_Mo_forge_40 : decode b_Mo_forge 40 = .ok (.iconst 1, 1) := by decide +kernel
theorem d_Mo_forge_41 : decode b_Mo_forge 41 = .ok (.goto 4, 3) := by decide +kernel
theorem d_Mo_forge_44 : decode b_Mo_forge 44 = .ok (.iconst 0, 1) := by decide +kernel
theorem d_Mo_forge_45 : decode b_Mo_forge 45 = .ok (.istore 6, 2) := by decide +kernel
theorem d_Mo_forge_47 : decode b_Mo_forge 47 = .ok (.iload_n 1, 1) := by decide +kernel
theorem d_Mo_forge_48 : decode b_Mo_forge 48 = .ok (.iconst 1, 1) := by decide +kernel
theorem d_Mo_forge_49 : decode b_Mo_forge 49 = .ok (.if_icmp .lt 33, 3) := by decide +kernel
theorem d_Mo_forge_52 : decode b_Mo_forge 52 = .ok (.iload_n 1, 1) := by decide +kernel
theorem d_Mo_forge_53 : decode b_Mo_forge 53 = .ok (.bipush 12, 2) := by decide +kernel
theorem d_Mo_forge_55 : decode b_Mo_forge 55 = .ok (.if_icmp .gt 27, 3) := by decide +kernel
theorem d_Mo_forge_58 : decode b_Mo_forge 58 = .ok (.iload_n 2, 1) := by decide +kernel
theorem d_Mo_forge_59 : decode b_Mo_forge 59 = .ok (.ifCond .lt 23, 3) := by decide +kernel
theorem d_Mo_forge_62 : decode b_Mo_forge 62 = .ok (.iload_n 2, 1) := by decide +kernel
theorem d_Mo_forge_63 : decode b_Mo_forge 63 = .ok (.bipush 15, 2) := by decide +kernel
theorem d_Mo_forge_65 : decode b_Mo_forge 65 = .ok (.if_icmp .gt 17, 3) := by decide +kernel
theorem d_Mo_forge_68 : decode b_Mo_forge 68 = .ok (.lload_n 3, 1) := by decide +kernel
theorem d_Mo_forge_69 : decode b_Mo_forge 69 = .ok (.bipush 48, 2) := by decide +kernel
theorem d_Mo_forge_71 : decode b_Mo_forge 71 = .ok (.lushr, 1) := by decide +kernel
theorem d_Mo_forge_72 : decode b_Mo_forge 72 = .ok (.lconst 0, 1) := by decide +kernel
theorem d_Mo_forge_73 : decode b_Mo_forge 73 = .ok (.lcmp, 1) := by decide +kernel
theorem d_Mo_forge_74 : decode b_Mo_forge 74 = .ok (.ifCond .ne 8, 3) := by decide +kernel
theorem d_Mo_forge_77 : decode b_Mo_forge 77 = .ok (.iload 6, 2) := by decide +kernel
theorem d_Mo_forge_79 : decode b_Mo_forge 79 = .ok (.ifCond .ne 9, 3) := by decide +kernel
theorem d_Mo_forge_82 : decode b_Mo_forge 82 = .ok (.aload_n 0, 1) := by decide +kernel
theorem d_Mo_forge_83 : decode b_Mo_forge 83 = .ok (.iconst 1, 1) := by decide +kernel
theorem d_Mo_forge_84 : decode b_Mo_forge 84 = .ok (.invokevirtual 192, 3) := by decide +kernel
theorem d_Mo_forge_87 : decode b_Mo_forge 87 = .ok (.ireturn, 1) := by decide +kernel
theorem d_Mo_forge_88 : decode b_Mo_forge 88 = .ok (.aload_n 0, 1) := by decide +kernel
theorem d_Mo_forge_89 : decode b_Mo_forge 89 = .ok (.getfield 82, 3) := by decide +kernel
theorem d_Mo_forge_92 : decode b_Mo_forge 92 = .ok (.invokestatic 88, 3) := by decide +kernel
theorem d_Mo_forge_95 : decode b_Mo_forge 95 = .ok (.ifCond .eq 12, 3) := by decide +kernel
theorem d_Mo_forge_98 : decode b_Mo_forge 98 = .ok (.aload_n 0, 1) := by decide +kernel
theorem d_Mo_forge_99 : decode b_Mo_forge 99 = .ok (.getfield 201, 3) := by decide +kernel
theorem d_Mo_forge_102 : decode b_Mo_forge 102 = .ok (.bipush 24, 2) := by decide +kernel
theorem d_Mo_forge_104 : decode b_Mo_forge 104 = .ok (.if_icmp .ne 9, 3) := by decide +kernel
theorem d_Mo_forge_107 : decode b_Mo_forge 107 = .ok (.aload_n 0, 1) := by decide +kernel
theorem d_Mo_forge_108 : decode b_Mo_forge 108 = .ok (.iconst 2, 1) := by decide +kernel
theorem d_Mo_forge_109 : decode b_Mo_forge 109 = .ok (.invokevirtual 192, 3) := by decide +kernel
theorem d_Mo_forge_112 : decode b_Mo_forge 112 = .ok (.ireturn, 1) := by decide +kernel
theorem d_Mo_forge_113 : decode b_Mo_forge 113 = .ok (.aload_n 0, 1) := by decide +kernel
theorem d_Mo_forge_114 : decode b_Mo_forge 114 = .ok (.dup, 1) := by decide +kernel
theorem d_Mo_forge_115 : decode b_Mo_forge 115 = .ok (.getfield 201, 3) := by decide +kernel
theorem d_Mo_forge_118 : decode b_Mo_forge 118 = .ok (.iconst 1, 1) := by decide +kernel
theorem d_Mo_forge_119 : decode b_Mo_forge 119 = .ok (.iadd, 1) := by decide +kernel
theorem d_Mo_forge_120 : decode b_Mo_forge 120 = .ok (.putfield 201, 3) := by decide +kernel
theorem d_Mo_forge_123 : decode b_Mo_forge 123 = .ok (.aload_n 0, 1) := by decide +kernel
theorem d_Mo_forge_124 : decode b_Mo_forge 124 = .ok (.iconst 4, 1) := by decide +kernel
theorem d_Mo_forge_125 : decode b_Mo_forge 125 = .ok (.iload_n 1, 1) := by decide +kernel
theorem d_Mo_forge_126 : decode b_Mo_forge 126 = .ok (.iconst 1, 1) := by decide +kernel
theorem d_Mo_forge_127 : decode b_Mo_forge 127 = .ok (.isub, 1) := by decide +kernel
theorem d_Mo_forge_128 : decode b_Mo_forge 128 = .ok (.imul, 1) := by decide +kernel
theorem d_Mo_forge_129 : decode b_Mo_forge 129 = .ok (.aload_n 0, 1) := by decide +kernel
theorem d_Mo_forge_130 : decode b_Mo_forge 130 = .ok (.getfield 82, 3) := by decide +kernel
theorem d_Mo_forge_133 : decode b_Mo_forge 133 = .ok (.iadd, 1) := by decide +kernel
theorem d_Mo_forge_134 : decode b_Mo_forge 134 = .ok (.iload_n 2, 1) := by decide +kernel
theorem d_Mo_forge_135 : decode b_Mo_forge 135 = .ok (.lload_n 3, 1) := by decide +kernel
theorem d_Mo_forge_136 : decode b_Mo_forge 136 = .ok (.iload 5, 2) := by decide +kernel
theorem d_Mo_forge_138 : decode b_Mo_forge 138 = .ok (.invokevirtual 175, 3) := by decide +kernel
theorem d_Mo_forge_141 : decode b_Mo_forge 141 = .ok (.ireturn, 1) := by decide +kernel
theorem d_Mo_whisper_0 : decode b_Mo_whisper 0 = .ok (.aload_n 0, 1) := by decide +kernel
theorem d_Mo_whisper_1 : decode b_Mo_whisper 1 = .ok (.iconst 0, 1) := by decide +kernel
theorem d_Mo_whisper_2 : decode b_Mo_whisper 2 = .ok (.putfield 85, 3) := by decide +kernel
theorem d_Mo_whisper_5 : decode b_Mo_whisper 5 = .ok (.iload_n 1, 1) := by decide +kernel
theorem d_Mo_whisper_6 : decode b_Mo_whisper 6 = .ok (.ifCond .lt 36, 3) := by decide +kernel
theorem d_Mo_whisper_9 : decode b_Mo_whisper 9 = .ok (.iload_n 1, 1) := by decide +kernel
theorem d_Mo_whisper_10 : decode b_Mo_whisper 10 = .ok (.iconst 2, 1) := by decide +kernel
theorem d_Mo_whisper_11 : decode b_Mo_whisper 11 = .ok (.if_icmp .gt 31, 3) := by decide +kernel
theorem d_Mo_whisper_14 : decode b_Mo_whisper 14 = .ok (.iload_n 2, 1) := by decide +kernel
theorem d_Mo_whisper_15 : decode b_Mo_whisper 15 = .ok (.invokestatic 88, 3) := by decide +kernel
theorem d_Mo_whisper_18 : decode b_Mo_whisper 18 = .ok (.ifCond .eq 24, 3) := by decide +kernel
theorem d_Mo_whisper_21 : decode b_Mo_whisper 21 = .ok (.aload_n 0, 1) := by decide +kernel
theorem d_Mo_whisper_22 : decode b_Mo_whisper 22 = .ok (.iload_n 2, 1) := by decide +kernel
theorem d_Mo_whisper_23 : decode b_Mo_whisper 23 = .ok (.invokevirtual 93, 3) := by decide +kernel
theorem d_Mo_whisper_26 : decode b_Mo_whisper 26 = .ok (.ifCond .ne 16, 3) := by decide +kernel
theorem d_Mo_whisper_29 : decode b_Mo_whisper 29 = .ok (.iload_n 3, 1) := by decide +kernel
theorem d_Mo_whisper_30 : decode b_Mo_whisper 30 = .ok (.iconst 1, 1) := by decide +kernel
theorem d_Mo_whisper_31 : decode b_Mo_whisper 31 = .ok (.if_icmp .lt 11, 3) := by decide +kernel
theorem d_Mo_whisper_34 : decode b_Mo_whisper 34 = .ok (.iload_n 3, 1) := by decide +kernel
theorem d_Mo_whisper_35 : decode b_Mo_whisper 35 = .ok (.aload_n 0, 1) := by decide +kernel
theorem d_Mo_whisper_36 : decode b_Mo_whisper 36 = .ok (.getfield 165, 3) := by decide +kernel
theorem d_Mo_whisper_39 : decode b_Mo_whisper 39 = .ok (.if_icmp .le 9, 3) := by decide +kernel
theorem d_Mo_whisper_42 : decode b_Mo_whisper 42 = .ok (.aload_n 0, 1) := by decide +kernel
theorem d_Mo_whisper_43 : decode b_Mo_whisper 43 = .ok (.iconst 1, 1) := by decide +kernel
theorem d_Mo_whisper_44 : decode b_Mo_whisper 44 = .ok (.invokevirtual 192, 3) := by decide +kernel
theorem d_Mo_whisper_47 : decode b_Mo_whisper 47 = .ok (.ireturn, 1) := by decide +kernel
theorem d_Mo_whisper_48 : decode b_Mo_whisper 48 = .ok (.aload_n 0, 1) := by decide +kernel
theorem d_Mo_whisper_49 : decode b_Mo_whisper 49 = .ok (.getfield 82, 3) := by decide +kernel
theorem d_Mo_whisper_52 : decode b_Mo_whisper 52 = .ok (.invokestatic 88, 3) := by decide +kernel
theorem d_Mo_whisper_55 : decode b_Mo_whisper 55 = .ok (.ifCond .ne 9, 3) := by decide +kernel
theorem d_Mo_whisper_58 : decode b_Mo_whisper 58 = .ok (.aload_n 0, 1) := by decide +kernel
theorem d_Mo_whisper_59 : decode b_Mo_whisper 59 = .ok (.iconst 2, 1) := by decide +kernel
theorem d_Mo_whisper_60 : decode b_Mo_whisper 60 = .ok (.invokevirtual 192, 3) := by decide +kernel
theorem d_Mo_whisper_63 : decode b_Mo_whisper 63 = .ok (.ireturn, 1) := by decide +kernel
theorem d_Mo_whisper_64 : decode b_Mo_whisper 64 = .ok (.aload_n 0, 1) := by decide +kernel
theorem d_Mo_whisper_65 : decode b_Mo_whisper 65 = .ok (.iload_n 1, 1) := by decide +kernel
theorem d_Mo_whisper_66 : decode b_Mo_whisper 66 = .ok (.aload_n 0, 1) := by decide +kernel
theorem d_Mo_whisper_67 : decode b_Mo_whisper 67 = .ok (.getfield 82, 3) := by decide +kernel
theorem d_Mo_whisper_70 : decode b_Mo_whisper 70 = .ok (.iload_n 2, 1) := by decide +kernel
theorem d_Mo_whisper_71 : decode b_Mo_whisper 71 = .ok (.iload_n 3, 1) := by decide +kernel
theorem d_Mo_whisper_72 : decode b_Mo_whisper 72 = .ok (.invokevirtual 99, 3) := by decide +kernel
theorem d_Mo_whisper_75 : decode b_Mo_whisper 75 = .ok (.aload_n 0, 1) := by decide +kernel
theorem d_Mo_whisper_76 : decode b_Mo_whisper 76 = .ok (.getfield 96, 3) := by decide +kernel
theorem d_Mo_whisper_79 : decode b_Mo_whisper 79 = .ok (.ireturn, 1) := by decide +kernel
theorem d_Mo_message_0 : decode b_Mo_message 0 = .ok (.aload_n 0, 1) := by decide +kernel
theorem d_Mo_message_1 : decode b_Mo_message 1 = .ok (.iconst 0, 1) := by decide +kernel
theorem d_Mo_message_2 : decode b_Mo_message 2 = .ok (.putfield 85, 3) := by decide +kernel
theorem d_Mo_message_5 : decode b_Mo_message 5 = .ok (.iload_n 1, 1) := by decide +kernel
theorem d_Mo_message_6 : decode b_Mo_message 6 = .ok (.ifCond .lt 20, 3) := by decide +kernel
theorem d_Mo_message_9 : decode b_Mo_message 9 = .ok (.iload_n 1, 1) := by decide +kernel
theorem d_Mo_message_10 : decode b_Mo_message 10 = .ok (.aload_n 0, 1) := by decide +kernel
theorem d_Mo_message_11 : decode b_Mo_message 11 = .ok (.getfield 96, 3) := by decide +kernel
theorem d_Mo_message_14 : decode b_Mo_message 14 = .ok (.if_icmp .ge 12, 3) := by decide +kernel
theorem d_Mo_message_17 : decode b_Mo_message 17 = .ok (.iload_n 2, 1) := by decide +kernel
theorem d_Mo_message_18 : decode b_Mo_message 18 = .ok (.ifCond .lt 8, 3) := by decide +kernel
theorem d_Mo_message_21 : decode b_Mo_message 21 = .ok (.iload_n 2, 1) := by decide +kernel
theorem d_Mo_message_22 : decode b_Mo_message 22 = .ok (.iconst 3, 1) := by decide +kernel
theorem d_Mo_message_23 : decode b_Mo_message 23 = .ok (.if_icmp .le 5, 3) := by decide +kernel
theorem d_Mo_message_26 : decode b_Mo_message 26 = .ok (.iconst (-1), 1) := by decide +kernel
theorem d_Mo_message_27 : decode b_Mo_message 27 = .ok (.ireturn, 1) := by decide +kernel
theorem d_Mo_message_28 : decode b_Mo_message 28 = .ok (.aload_n 0, 1) := by decide +kernel
theorem d_Mo_message_29 : decode b_Mo_message 29 = .ok (.getfield 23, 3) := by decide +kernel
theorem d_Mo_message_32 : decode b_Mo_message 32 = .ok (.iload_n 1, 1) := by decide +kernel
theorem d_Mo_message_33 : decode b_Mo_message 33 = .ok (.iaload, 1) := by decide +kernel
theorem d_Mo_message_34 : decode b_Mo_message 34 = .ok (.istore_n 3, 1) := by decide +kernel
theorem d_Mo_message_35 : decode b_Mo_message 35 = .ok (.iload_n 2, 1) := by decide +kernel
theorem d_Mo_message_36 : decode b_Mo_message 36 = .ok (.ifCond .ne 11, 3) := by decide +kernel
theorem d_Mo_message_39 : decode b_Mo_message 39 = .ok (.iload_n 3, 1) := by decide +kernel
theorem d_Mo_message_40 : decode b_Mo_message 40 = .ok (.sipush 1280, 3) := by decide +kernel
theorem d_Mo_message_43 : decode b_Mo_message 43 = .ok (.idiv, 1) := by decide +kernel
theorem d_Mo_message_44 : decode b_Mo_message 44 = .ok (.goto 36, 3) := by decide +kernel
theorem d_Mo_message_47 : decode b_Mo_message 47 = .ok (.iload_n 2, 1) := by decide +kernel
theorem d_Mo_message_48 : decode b_Mo_message 48 = .ok (.iconst 1, 1) := by decide +kernel
theorem d_Mo_message_49 : decode b_Mo_message 49 = .ok (.if_icmp .ne 13, 3) := by decide +kernel
theorem d_Mo_message_52 : decode b_Mo_message 52 = .ok (.iload_n 3, 1) := by decide +kernel
theorem d_Mo_message_53 : decode b_Mo_message 53 = .ok (.sipush 320, 3) := by decide +kernel
theorem d_Mo_message_56 : decode b_Mo_message 56 = .ok (.idiv, 1) := by decide +kernel
theorem d_Mo_message_57 : decode b_Mo_message 57 = .ok (.iconst 4, 1) := by decide +kernel
theorem d_Mo_message_58 : decode b_Mo_message 58 = .ok (.irem, 1) := by decide +kernel
theorem d_Mo_message_59 : decode b_Mo_message 59 = .ok (.goto 21, 3) := by decide +kernel
theorem d_Mo_message_62 : decode b_Mo_message 62 = .ok (.iload_n 2, 1) := by decide +kernel
theorem d_Mo_message_63 : decode b_Mo_message 63 = .ok (.iconst 2, 1) := by decide +kernel
theorem d_Mo_message_64 : decode b_Mo_message 64 = .ok (.if_icmp .ne 12, 3) := by decide +kernel
theorem d_Mo_message_67 : decode b_Mo_message 67 = .ok (.iload_n 3, 1) := by decide +kernel
theorem d_Mo_message_68 : decode b_Mo_message 68 = .ok (.bipush 80, 2) := by decide +kernel
theorem d_Mo_message_70 : decode b_Mo_message 70 = .ok (.idiv, 1) := by decide +kernel
theorem d_Mo_message_71 : decode b_Mo_message 71 = .ok (.iconst 4, 1) := by decide +kernel
theorem d_Mo_message_72 : decode b_Mo_message 72 = .ok (.irem, 1) := by decide +kernel
theorem d_Mo_message_73 : decode b_Mo_message 73 = .ok (.goto 7, 3) := by decide +kernel
theorem d_Mo_message_76 : decode b_Mo_message 76 = .ok (.iload_n 3, 1) := by decide +kernel
theorem d_Mo_message_77 : decode b_Mo_message 77 = .ok (.bipush 80, 2) := by decide +kernel
theorem d_Mo_message_79 : decode b_Mo_message 79 = .ok (.irem, 1) := by decide +kernel
theorem d_Mo_message_80 : decode b_Mo_message 80 = .ok (.ireturn, 1) := by decide +kernel
theorem d_Mo_vertex_0 : decode b_Mo_vertex 0 = .ok (.aload_n 0, 1) := by decide +kernel
theorem d_Mo_vertex_1 : decode b_Mo_vertex 1 = .ok (.iconst 0, 1) := by decide +kernel
theorem d_Mo_vertex_2 : decode b_Mo_vertex 2 = .ok (.putfield 85, 3) := by decide +kernel
theorem d_Mo_vertex_5 : decode b_Mo_vertex 5 = .ok (.iload_n 1, 1) := by decide +kernel
theorem d_Mo_vertex_6 : decode b_Mo_vertex 6 = .ok (.iconst 1, 1) := by decide +kernel
theorem d_Mo_vertex_7 : decode b_Mo_vertex 7 = .ok (.if_icmp .lt 20, 3) := by decide +kernel
theorem d_Mo_vertex_10 : decode b_Mo_vertex 10 = .ok (.iload_n 1, 1) := by decide +kernel
theorem d_Mo_vertex_11 : decode b_Mo_vertex 11 = .ok (.aload_n 0, 1) := by decide +kernel
theorem d_Mo_vertex_12 : decode b_Mo_vertex 12 = .ok (.getfield 165, 3) := by decide +kernel
theorem d_Mo_vertex_15 : decode b_Mo_vertex 15 = .ok (.if_icmp .gt 12, 3) := by decide +kernel
theorem d_Mo_vertex_18 : decode b_Mo_vertex 18 = .ok (.iload_n 2, 1) := by decide +kernel
theorem d_Mo_vertex_19 : decode b_Mo_vertex 19 = .ok (.ifCond .lt 8, 3) := by decide +kernel
theorem d_Mo_vertex_22 : decode b_Mo_vertex 22 = .ok (.iload_n 2, 1) := by decide +kernel
theorem d_Mo_vertex_23 : decode b_Mo_vertex 23 = .ok (.iconst 2, 1) := by decide +kernel
theorem d_Mo_vertex_24 : decode b_Mo_vertex 24 = .ok (.if_icmp .le 5, 3) := by decide +kernel
theorem d_Mo_vertex_27 : decode b_Mo_vertex 27 = .ok (.iconst (-1), 1) := by decide +kernel
theorem d_Mo_vertex_28 : decode b_Mo_vertex 28 = .ok (.ireturn, 1) := by decide +kernel
theorem d_Mo_vertex_29 : decode b_Mo_vertex 29 = .ok (.iload_n 2, 1) := by decide +kernel
theorem d_Mo_vertex_30 : decode b_Mo_vertex 30 = .ok (.ifCond .ne 12, 3) := by decide +kernel
theorem d_Mo_vertex_33 : decode b_Mo_vertex 33 = .ok (.aload_n 0, 1) := by decide +kernel
theorem d_Mo_vertex_34 : decode b_Mo_vertex 34 = .ok (.getfield 7, 3) := by decide +kernel
theorem d_Mo_vertex_37 : decode b_Mo_vertex 37 = .ok (.iload_n 1, 1) := by decide +kernel
theorem d_Mo_vertex_38 : decode b_Mo_vertex 38 = .ok (.iaload, 1) := by decide +kernel
theorem d_Mo_vertex_39 : decode b_Mo_vertex 39 = .ok (.goto 23, 3) := by decide +kernel
theorem d_Mo_vertex_42 : decode b_Mo_vertex 42 = .ok (.iload_n 2, 1) := by decide +kernel
theorem d_Mo_vertex_43 : decode b_Mo_vertex 43 = .ok (.iconst 1, 1) := by decide +kernel
theorem d_Mo_vertex_44 : decode b_Mo_vertex 44 = .ok (.if_icmp .ne 12, 3) := by decide +kernel
theorem d_Mo_vertex_47 : decode b_Mo_vertex 47 = .ok (.aload_n 0, 1) := by decide +kernel
theorem d_Mo_vertex_48 : decode b_Mo_vertex 48 = .ok (.getfield 13, 3) := by decide +kernel
theorem d_Mo_vertex_51 : decode b_Mo_vertex 51 = .ok (.iload_n 1, 1) := by decide +kernel
theorem d_Mo_vertex_52 : decode b_Mo_vertex 52 = .ok (.iaload, 1) := by decide +kernel
theorem d_Mo_vertex_53 : decode b_Mo_vertex 53 = .ok (.goto 9, 3) := by decide +kernel
theorem d_Mo_vertex_56 : decode b_Mo_vertex 56 = .ok (.aload_n 0, 1) := by decide +kernel
theorem d_Mo_vertex_57 : decode b_Mo_vertex 57 = .ok (.getfield 20, 3) := by decide +kernel
theorem d_Mo_vertex_60 : decode b_Mo_vertex 60 = .ok (.iload_n 1, 1) := by decide +kernel
theorem d_Mo_vertex_61 : decode b_Mo_vertex 61 = .ok (.iaload, 1) := by decide +kernel
theorem d_Mo_vertex_62 : decode b_Mo_vertex 62 = .ok (.ireturn, 1) := by decide +kernel
theorem d_Mo_weak_0 : decode b_Mo_weak 0 = .ok (.aload_n 0, 1) := by decide +kernel
theorem d_Mo_weak_1 : decode b_Mo_weak 1 = .ok (.iconst 0, 1) := by decide +kernel
theorem d_Mo_weak_2 : decode b_Mo_weak 2 = .ok (.putfield 85, 3) := by decide +kernel
theorem d_Mo_weak_5 : decode b_Mo_weak 5 = .ok (.iload_n 1, 1) := by decide +kernel
theorem d_Mo_weak_6 : decode b_Mo_weak 6 = .ok (.iconst 1, 1) := by decide +kernel
theorem d_Mo_weak_7 : decode b_Mo_weak 7 = .ok (.if_icmp .lt 11, 3) := by decide +kernel
theorem d_Mo_weak_10 : decode b_Mo_weak 10 = .ok (.iload_n 1, 1) := by decide +kernel
theorem d_Mo_weak_11 : decode b_Mo_weak 11 = .ok (.aload_n 0, 1) := by decide +kernel
theorem d_Mo_weak_12 : decode b_Mo_weak 12 = .ok (.getfield 165, 3) := by decide +kernel
theorem d_Mo_weak_15 : decode b_Mo_weak 15 = .ok (.if_icmp .le 9, 3) := by decide +kernel
theorem d_Mo_weak_18 : decode b_Mo_weak 18 = .ok (.ldc2_w 138, 3) := by decide +kernel
theorem d_Mo_weak_21 : decode b_Mo_weak 21 = .ok (.goto 9, 3) := by decide +kernel
theorem d_Mo_weak_24 : decode b_Mo_weak 24 = .ok (.aload_n 0, 1) := by decide +kernel
theorem d_Mo_weak_25 : decode b_Mo_weak 25 = .ok (.getfield 16, 3) := by decide +kernel
theorem d_Mo_weak_28 : decode b_Mo_weak 28 = .ok (.iload_n 1, 1) := by decide +kernel
theorem d_Mo_weak_29 : decode b_Mo_weak 29 = .ok (.laload, 1) := by decide +kernel
theorem d_Mo_weak_30 : decode b_Mo_weak 30 = .ok (.lreturn, 1) := by decide +kernel
theorem d_Mo_graphSize_0 : decode b_Mo_graphSize 0 = .ok (.iconst 0, 1) := by decide +kernel
theorem d_Mo_graphSize_1 : decode b_Mo_graphSize 1 = .ok (.istore_n 2, 1) := by decide +kernel
theorem d_Mo_graphSize_2 : decode b_Mo_graphSize 2 = .ok (.iconst 0, 1) := by decide +kernel
theorem d_Mo_graphSize_3 : decode b_Mo_graphSize 3 = .ok (.istore_n 3, 1) := by decide +kernel
theorem d_Mo_graphSize_4 : decode b_Mo_graphSize 4 = .ok (.iload_n 3, 1) := by decide +kernel
theorem d_Mo_graphSize_5 : decode b_Mo_graphSize 5 = .ok (.bipush 48, 2) := by decide +kernel
theorem d_Mo_graphSize_7 : decode b_Mo_graphSize 7 = .ok (.if_icmp .ge 31, 3) := by decide +kernel
theorem d_Mo_graphSize_10 : decode b_Mo_graphSize 10 = .ok (.iload_n 2, 1) := by decide +kernel
theorem d_Mo_graphSize_11 : decode b_Mo_graphSize 11 = .ok (.aload_n 0, 1) := by decide +kernel
theorem d_Mo_graphSize_12 : decode b_Mo_graphSize 12 = .ok (.getfield 36, 3) := by decide +kernel
theorem d_Mo_graphSize_15 : decode b_Mo_graphSize 15 = .ok (.bipush 48, 2) := by decide +kernel
theorem d_Mo_graphSize_17 : decode b_Mo_graphSize 17 = .ok (.iload_n 1, 1) := by decide +kernel
theorem d_Mo_graphSize_18 : decode b_Mo_graphSize 18 = .ok (.imul, 1) := by decide +kernel
theorem d_Mo_graphSize_19 : decode b_Mo_graphSize 19 = .ok (.iload_n 3, 1) := by decide +kernel
theorem d_Mo_graphSize_20 : decode b_Mo_graphSize 20 = .ok (.iadd, 1) := by decide +kernel
theorem d_Mo_graphSize_21 : decode b_Mo_graphSize 21 = .ok (.baload, 1) := by decide +kernel
theorem d_Mo_graphSize_22 : decode b_Mo_graphSize 22 = .ok (.ifCond .eq 7, 3) := by decide +kernel
theorem d_Mo_graphSize_25 : decode b_Mo_graphSize 25 = .ok (.iconst 1, 1) := by decide +kernel
theorem d_Mo_graphSize_26 : decode b_Mo_graphSize 26 = .ok (.goto 4, 3) := by decide +kernel
theorem d_Mo_graphSize_29 : decode b_Mo_graphSize 29 = .ok (.iconst 0, 1) := by decide +kernel
theorem d_Mo_graphSize_30 : decode b_Mo_graphSize 30 = .ok (.iadd, 1) := by decide +kernel
theorem d_Mo_graphSize_31 : decode b_Mo_graphSize 31 = .ok (.istore_n 2, 1) := by decide +kernel
theorem d_Mo_graphSize_32 : decode b_Mo_graphSize 32 = .ok (.iinc 3 1, 3) := by decide +kernel
theorem d_Mo_graphSize_35 : decode b_Mo_graphSize 35 = .ok (.goto (-31), 3) := by decide +kernel
theorem d_Mo_graphSize_38 : decode b_Mo_graphSize 38 = .ok (.iload_n 2, 1) := by decide +kernel
theorem d_Mo_graphSize_39 : decode b_Mo_graphSize 39 = .ok (.ireturn, 1) := by decide +kernel
theorem d_Mo_node_0 : decode b_Mo_node 0 = .ok (.aload_n 0, 1) := by decide +kernel
theorem d_Mo_node_1 : decode b_Mo_node 1 = .ok (.iconst 0, 1) := by decide +kernel
theorem d_Mo_node_2 : decode b_Mo_node 2 = .ok (.putfield 85, 3) := by decide +kernel
theorem d_Mo_node_5 : decode b_Mo_node 5 = .ok (.iload_n 1, 1) := by decide +kernel
theorem d_Mo_node_6 : decode b_Mo_node 6 = .ok (.invokestatic 88, 3) := by decide +kernel
theorem d_Mo_node_9 : decode b_Mo_node 9 = .ok (.ifCond .eq 13, 3) := by decide +kernel
theorem d_Mo_node_12 : decode b_Mo_node 12 = .ok (.iload_n 2, 1) := by decide +kernel
theorem d_Mo_node_13 : decode b_Mo_node 13 = .ok (.ifCond .lt 9, 3) := by decide +kernel
theorem d_Mo_node_16 : decode b_Mo_node 16 = .ok (.iload_n 2, 1) := by decide +kernel
theorem d_Mo_node_17 : decode b_Mo_node 17 = .ok (.bipush 7, 2) := by decide +kernel
theorem d_Mo_node_19 : decode b_Mo_node 19 = .ok (.if_icmp .le 5, 3) := by decide +kernel
theorem d_Mo_node_22 : decode b_Mo_node 22 = .ok (.iconst (-1), 1) := by decide +kernel
theorem d_Mo_node_23 : decode b_Mo_node 23 = .ok (.ireturn, 1) := by decide +kernel
theorem d_Mo_node_24 : decode b_Mo_node 24 = .ok (.aload_n 0, 1) := by decide +kernel
theorem d_Mo_node_25 : decode b_Mo_node 25 = .ok (.iload_n 1, 1) := by decide +kernel
theorem d_Mo_node_26 : decode b_Mo_node 26 = .ok (.invokevirtual 93, 3) := by decide +kernel
theorem d_Mo_node_29 : decode b_Mo_node 29 = .ok (.ifCond .eq 5, 3) := by decide +kernel
theorem d_Mo_node_32 : decode b_Mo_node 32 = .ok (.iconst 0, 1) := by decide +kernel
theorem d_Mo_node_33 : decode b_Mo_node 33 = .ok (.ireturn, 1) := by decide +kernel
theorem d_Mo_node_34 : decode b_Mo_node 34 = .ok (.iload_n 2, 1) := by decide +kernel
theorem d_Mo_node_35 : decode b_Mo_node 35 = .ok (.ifCond .ne 12, 3) := by decide +kernel
theorem d_Mo_node_38 : decode b_Mo_node 38 = .ok (.aload_n 0, 1) := by decide +kernel
theorem d_Mo_node_39 : decode b_Mo_node 39 = .ok (.getfield 51, 3) := by decide +kernel
theorem d_Mo_node_42 : decode b_Mo_node 42 = .ok (.iload_n 1, 1) := by decide +kernel
theorem d_Mo_node_43 : decode b_Mo_node 43 = .ok (.iaload, 1) := by decide +kernel
theorem d_Mo_node_44 : decode b_Mo_node 44 = .ok (.goto 56, 3) := by decide +kernel
theorem d_Mo_node_47 : decode b_Mo_node 47 = .ok (.iload_n 2, 1) := by decide +kernel
theorem d_Mo_node_48 : decode b_Mo_node 48 = .ok (.iconst 1, 1) := by decide +kernel
theorem d_Mo_node_49 : decode b_Mo_node 49 = .ok (.if_icmp .ne 12, 3) := by decide +kernel
theorem d_Mo_node_52 : decode b_Mo_node 52 = .ok (.aload_n 0, 1) := by decide +kernel
theorem d_Mo_node_53 : decode b_Mo_node 53 = .ok (.getfield 57, 3) := by decide +kernel
theorem d_Mo_node_56 : decode b_Mo_node 56 = .ok (.iload_n 1, 1) := by decide +kernel
theorem d_Mo_node_57 : decode b_Mo_node 57 = .ok (.iaload, 1) := by decide +kernel
theorem d_Mo_node_58 : decode b_Mo_node 58 = .ok (.goto 42, 3) := by decide +kernel
theorem d_Mo_node_61 : decode b_Mo_node 61 = .ok (.iload_n 2, 1) := by decide +kernel
theorem d_Mo_node_62 : decode b_Mo_node 62 = .ok (.iconst 2, 1) := by decide +kernel
theorem d_Mo_node_63 : decode b_Mo_node 63 = .ok (.if_icmp .ne 12, 3) := by decide +kernel
theorem d_Mo_node_66 : decode b_Mo_node 66 = .ok (.aload_n 0, 1) := by decide +kernel
theorem d_Mo_node_67 : decode b_Mo_node 67 = .ok (.getfield 60, 3) := by decide +kernel
theorem d_Mo_node_70 : decode b_Mo_node 70 = .ok (.iload_n 1, 1) := by decide +kernel
theorem d_Mo_node_71 : decode b_Mo_node 71 = .ok (.iaload, 1) := by decide +kernel
theorem d_Mo_node_72 : decode b_Mo_node 72 = .ok (.goto 28, 3) := by decide +kernel
theorem d_Mo_node_75 : decode b_Mo_node 75 = .ok (.iload_n 2, 1) := by decide +kernel
theorem d_Mo_node_76 : decode b_Mo_node 76 = .ok (.iconst 3, 1) := by decide +kernel
theorem d_Mo_node_77 : decode b_Mo_node 77 = .ok (.if_icmp .ne 11, 3) := by decide +kernel
theorem d_Mo_node_80 : decode b_Mo_node 80 = .ok (.aload_n 0, 1) := by decide +kernel
theorem d_Mo_node_81 : decode b_Mo_node 81 = .ok (.iload_n 1, 1) := by decide +kernel
theorem d_Mo_node_82 : decode b_Mo_node 82 = .ok (.invokevirtual 204, 3) := by decide +kernel
theorem d_Mo_node_85 : decode b_Mo_node 85 = .ok (.goto 15, 3) := by decide +kernel
theorem d_Mo_node_88 : decode b_Mo_node 88 = .ok (.aload_n 0, 1) := by decide +kernel
theorem d_Mo_node_89 : decode b_Mo_node 89 = .ok (.getfield 63, 3) := by decide +kernel
theorem d_Mo_node_92 : decode b_Mo_node 92 = .ok (.iconst 4, 1) := by decide +kernel
theorem d_Mo_node_93 : decode b_Mo_node 93 = .ok (.iload_n 1, 1) := by decide +kernel
theorem d_Mo_node_94 : decode b_Mo_node 94 = .ok (.imul, 1) := by decide +kernel
theorem d_Mo_node_95 : decode b_Mo_node 95 = .ok (.iload_n 2, 1) := by decide +kernel
theorem d_Mo_node_96 : decode b_Mo_node 96 = .ok (.iadd, 1) := by decide +kernel
theorem d_Mo_node_97 : decode b_Mo_node 97 = .ok (.iconst 4, 1) := by decide +kernel
theorem d_Mo_node_98 : decode b_Mo_node 98 = .ok (.isub, 1) := by decide +kernel
theorem d_Mo_node_99 : decode b_Mo_node 99 = .ok (.iaload, 1) := by decide +kernel
theorem d_Mo_node_100 : decode b_Mo_node 100 = .ok (.ireturn, 1) := by decide +kernel
theorem d_Mo_graph_0 : decode b_Mo_graph 0 = .ok (.aload_n 0, 1) := by decide +kernel
theorem d_Mo_graph_1 : decode b_Mo_graph 1 = .ok (.iconst 0, 1) := by decide +kernel
theorem d_Mo_graph_2 : decode b_Mo_graph 2 = .ok (.putfield 85, 3) := by decide +kernel
theorem d_Mo_graph_5 : decode b_Mo_graph 5 = .ok (.iload_n 1, 1) := by decide +kernel
theorem d_Mo_graph_6 : decode b_Mo_graph 6 = .ok (.invokestatic 88, 3) := by decide +kernel
theorem d_Mo_graph_9 : decode b_Mo_graph 9 = .ok (.ifCond .eq 13, 3) := by decide +kernel
theorem d_Mo_graph_12 : decode b_Mo_graph 12 = .ok (.iload_n 2, 1) := by decide +kernel
theorem d_Mo_graph_13 : decode b_Mo_graph 13 = .ok (.ifCond .lt 9, 3) := by decide +kernel
theorem d_Mo_graph_16 : decode b_Mo_graph 16 = .ok (.iload_n 2, 1) := by decide +kernel
theorem d_Mo_graph_17 : decode b_Mo_graph 17 = .ok (.bipush 47, 2) := by decide +kernel
theorem d_Mo_graph_19 : decode b_Mo_graph 19 = .ok (.if_icmp .le 5, 3) := by decide +kernel
theorem d_Mo_graph_22 : decode b_Mo_graph 22 = .ok (.iconst 0, 1) := by decide +kernel
theorem d_Mo_graph_23 : decode b_Mo_graph 23 = .ok (.ireturn, 1) := by decide +kernel
theorem d_Mo_graph_24 : decode b_Mo_graph 24 = .ok (.aload_n 0, 1) := by decide +kernel
theorem d_Mo_graph_25 : decode b_Mo_graph 25 = .ok (.getfield 33, 3) := by decide +kernel
theorem d_Mo_graph_28 : decode b_Mo_graph 28 = .ok (.bipush 48, 2) := by decide +kernel
theorem d_Mo_graph_30 : decode b_Mo_graph 30 = .ok (.iload_n 1, 1) := by decide +kernel
theorem d_Mo_graph_31 : decode b_Mo_graph 31 = .ok (.imul, 1) := by decide +kernel
theorem d_Mo_graph_32 : decode b_Mo_graph 32 = .ok (.iload_n 2, 1) := by decide +kernel
theorem d_Mo_graph_33 : decode b_Mo_graph 33 = .ok (.iadd, 1) := by decide +kernel
theorem d_Mo_graph_34 : decode b_Mo_graph 34 = .ok (.iaload, 1) := by decide +kernel
theorem d_Mo_graph_35 : decode b_Mo_graph 35 = .ok (.istore_n 3, 1) := by decide +kernel
theorem d_Mo_graph_36 : decode b_Mo_graph 36 = .ok (.aload_n 0, 1) := by decide +kernel
theorem d_Mo_graph_37 : decode b_Mo_graph 37 = .ok (.getfield 36, 3) := by decide +kernel
theorem d_Mo_graph_40 : decode b_Mo_graph 40 = .ok (.bipush 48, 2) := by decide +kernel
theorem d_Mo_graph_42 : decode b_Mo_graph 42 = .ok (.iload_n 1, 1) := by decide +kernel
theorem d_Mo_graph_43 : decode b_Mo_graph 43 = .ok (.imul, 1) := by decide +kernel
theorem d_Mo_graph_44 : decode b_Mo_graph 44 = .ok (.iload_n 2, 1) := by decide +kernel
theorem d_Mo_graph_45 : decode b_Mo_graph 45 = .ok (.iadd, 1) := by decide +kernel
theorem d_Mo_graph_46 : decode b_Mo_graph 46 = .ok (.baload, 1) := by decide +kernel
theorem d_Mo_graph_47 : decode b_Mo_graph 47 = .ok (.ifCond .eq 7, 3) := by decide +kernel
theorem d_Mo_graph_50 : decode b_Mo_graph 50 = .ok (.iload_n 3, 1) := by decide +kernel
theorem d_Mo_graph_51 : decode b_Mo_graph 51 = .ok (.goto 5, 3) := by decide +kernel
theorem d_Mo_graph_54 : decode b_Mo_graph 54 = .ok (.iload_n 3, 1) := by decide +kernel
theorem d_Mo_graph_55 : decode b_Mo_graph 55 = .ok (.ineg, 1) := by decide +kernel
theorem d_Mo_graph_56 : decode b_Mo_graph 56 = .ok (.ireturn, 1) := by decide +kernel
theorem d_Mo_ordered_0 : decode b_Mo_ordered 0 = .ok (.aload_n 0, 1) := by decide +kernel
theorem d_Mo_ordered_1 : decode b_Mo_ordered 1 = .ok (.iconst 0, 1) := by decide +kernel
theorem d_Mo_ordered_2 : decode b_Mo_ordered 2 = .ok (.putfield 85, 3) := by decide +kernel
theorem d_Mo_ordered_5 : decode b_Mo_ordered 5 = .ok (.iload_n 1, 1) := by decide +kernel
theorem d_Mo_ordered_6 : decode b_Mo_ordered 6 = .ok (.invokestatic 88, 3) := by decide +kernel
theorem d_Mo_ordered_9 : decode b_Mo_ordered 9 = .ok (.ifCond .eq 17, 3) := by decide +kernel
theorem d_Mo_ordered_12 : decode b_Mo_ordered 12 = .ok (.iload_n 2, 1) := by decide +kernel
theorem d_Mo_ordered_13 : decode b_Mo_ordered 13 = .ok (.ifCond .lt 13, 3) := by decide +kernel
theorem d_Mo_ordered_16 : decode b_Mo_ordered 16 = .ok (.iload_n 2, 1) := by decide +kernel
theorem d_Mo_ordered_17 : decode b_Mo_ordered 17 = .ok (.aload_n 0, 1) := by decide +kernel
theorem d_Mo_ordered_18 : decode b_Mo_ordered 18 = .ok (.getfield 60, 3) := by decide +kernel
