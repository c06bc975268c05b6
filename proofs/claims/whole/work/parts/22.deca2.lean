theorem d_Wl_begin_9 : decode b_Wl_begin 9 = .ok (.aload_n 0, 1) := by decide +kernel
theorem d_Wl_begin_10 : decode b_Wl_begin 10 = .ok (.iconst 1, 1) := by decide +kernel
theorem d_Wl_begin_11 : decode b_Wl_begin 11 = .ok (.putfield 81, 3) := by decide +kernel
theorem d_Wl_begin_14 : decode b_Wl_begin 14 = .ok (.iconst 0, 1) := by decide +kernel
theorem d_Wl_begin_15 : decode b_Wl_begin 15 = .ok (.istore_n 1, 1) := by decide +kernel
theorem d_Wl_begin_16 : decode b_Wl_begin 16 = .ok (.iload_n 1, 1) := by decide +kernel
theorem d_Wl_begin_17 : decode b_Wl_begin 17 = .ok (.iconst 4, 1) := by decide +kernel
theorem d_Wl_begin_18 : decode b_Wl_begin 18 = .ok (.if_icmp .ge 26, 3) := by decide +kernel
theorem d_Wl_begin_21 : decode b_Wl_begin 21 = .ok (.aload_n 0, 1) := by decide +kernel
theorem d_Wl_begin_22 : decode b_Wl_begin 22 = .ok (.iload_n 1, 1) := by decide +kernel
theorem d_Wl_begin_23 : decode b_Wl_begin 23 = .ok (.invokevirtual 45, 3) := by decide +kernel
theorem d_Wl_begin_26 : decode b_Wl_begin 26 = .ok (.ifCond .eq 12, 3) := by decide +kernel
theorem d_Wl_begin_29 : decode b_Wl_begin 29 = .ok (.aload_n 0, 1) := by decide +kernel
theorem d_Wl_begin_30 : decode b_Wl_begin 30 = .ok (.getfield 38, 3) := by decide +kernel
theorem d_Wl_begin_33 : decode b_Wl_begin 33 = .ok (.iload_n 1, 1) := by decide +kernel
theorem d_Wl_begin_34 : decode b_Wl_begin 34 = .ok (.aaload, 1) := by decide +kernel
theorem d_Wl_begin_35 : decode b_Wl_begin 35 = .ok (.invokevirtual 85, 3) := by decide +kernel
theorem d_Wl_begin_38 : decode b_Wl_begin 38 = .ok (.iinc 1 1, 3) := by decide +kernel
theorem d_Wl_begin_41 : decode b_Wl_begin 41 = .ok (.goto (-25), 3) := by decide +kernel
theorem d_Wl_begin_44 : decode b_Wl_begin 44 = .ok (.iconst 1, 1) := by decide +kernel
theorem d_Wl_begin_45 : decode b_Wl_begin 45 = .ok (.ireturn, 1) := by decide +kernel
theorem d_Wl_run_0 : decode b_Wl_run 0 = .ok (.iload_n 1, 1) := by decide +kernel
theorem d_Wl_run_1 : decode b_Wl_run 1 = .ok (.ifCond .lt 9, 3) := by decide +kernel
theorem d_Wl_run_4 : decode b_Wl_run 4 = .ok (.iload_n 1, 1) := by decide +kernel
theorem d_Wl_run_5 : decode b_Wl_run 5 = .ok (.bipush 100, 2) := by decide +kernel
theorem d_Wl_run_7 : decode b_Wl_run 7 = .ok (.if_icmp .le 13, 3) := by decide +kernel
theorem d_Wl_run_10 : decode b_Wl_run 10 = .ok (.new 51, 3) := by decide +kernel
theorem d_Wl_run_13 : decode b_Wl_run 13 = .ok (.dup, 1) := by decide +kernel
theorem d_Wl_run_14 : decode b_Wl_run 14 = .ok (.ldc 88, 2) := by decide +kernel
theorem d_Wl_run_16 : decode b_Wl_run 16 = .ok (.invokespecial 55, 3) := by decide +kernel
theorem d_Wl_run_19 : decode b_Wl_run 19 = .ok (.athrow, 1) := by decide +kernel
theorem d_Wl_run_20 : decode b_Wl_run 20 = .ok (.iconst 0, 1) := by decide +kernel
theorem d_Wl_run_21 : decode b_Wl_run 21 = .ok (.istore_n 2, 1) := by decide +kernel
theorem d_Wl_run_22 : decode b_Wl_run 22 = .ok (.iload_n 2, 1) := by decide +kernel
theorem d_Wl_run_23 : decode b_Wl_run 23 = .ok (.iload_n 1, 1) := by decide +kernel
theorem d_Wl_run_24 : decode b_Wl_run 24 = .ok (.if_icmp .ge 53, 3) := by decide +kernel
theorem d_Wl_run_27 : decode b_Wl_run 27 = .ok (.aload_n 0, 1) := by decide +kernel
theorem d_Wl_run_28 : decode b_Wl_run 28 = .ok (.getfield 34, 3) := by decide +kernel
theorem d_Wl_run_31 : decode b_Wl_run 31 = .ok (.getfield 90, 3) := by decide +kernel
theorem d_Wl_run_34 : decode b_Wl_run 34 = .ok (.ifCond .le 43, 3) := by decide +kernel
theorem d_Wl_run_37 : decode b_Wl_run 37 = .ok (.aload_n 0, 1) := by decide +kernel
theorem d_Wl_run_38 : decode b_Wl_run 38 = .ok (.aload_n 0, 1) := by decide +kernel
theorem d_Wl_run_39 : decode b_Wl_run 39 = .ok (.getfield 42, 3) := by decide +kernel
theorem d_Wl_run_42 : decode b_Wl_run 42 = .ok (.ldc 91, 2) := by decide +kernel
theorem d_Wl_run_44 : decode b_Wl_run 44 = .ok (.imul, 1) := by decide +kernel
theorem d_Wl_run_45 : decode b_Wl_run 45 = .ok (.sipush 12345, 3) := by decide +kernel
theorem d_Wl_run_48 : decode b_Wl_run 48 = .ok (.iadd, 1) := by decide +kernel
theorem d_Wl_run_49 : decode b_Wl_run 49 = .ok (.putfield 42, 3) := by decide +kernel
theorem d_Wl_run_52 : decode b_Wl_run 52 = .ok (.aload_n 0, 1) := by decide +kernel
theorem d_Wl_run_53 : decode b_Wl_run 53 = .ok (.aload_n 0, 1) := by decide +kernel
theorem d_Wl_run_54 : decode b_Wl_run 54 = .ok (.getfield 42, 3) := by decide +kernel
theorem d_Wl_run_57 : decode b_Wl_run 57 = .ok (.bipush 16, 2) := by decide +kernel
theorem d_Wl_run_59 : decode b_Wl_run 59 = .ok (.iushr, 1) := by decide +kernel
theorem d_Wl_run_60 : decode b_Wl_run 60 = .ok (.aload_n 0, 1) := by decide +kernel
theorem d_Wl_run_61 : decode b_Wl_run 61 = .ok (.getfield 34, 3) := by decide +kernel
theorem d_Wl_run_64 : decode b_Wl_run 64 = .ok (.getfield 90, 3) := by decide +kernel
theorem d_Wl_run_67 : decode b_Wl_run 67 = .ok (.irem, 1) := by decide +kernel
theorem d_Wl_run_68 : decode b_Wl_run 68 = .ok (.invokevirtual 92, 3) := by decide +kernel
theorem d_Wl_run_71 : decode b_Wl_run 71 = .ok (.iinc 2 1, 3) := by decide +kernel
theorem d_Wl_run_74 : decode b_Wl_run 74 = .ok (.goto (-52), 3) := by decide +kernel
theorem d_Wl_run_77 : decode b_Wl_run 77 = .ok (.aload_n 0, 1) := by decide +kernel
theorem d_Wl_run_78 : decode b_Wl_run 78 = .ok (.getfield 34, 3) := by decide +kernel
theorem d_Wl_run_81 : decode b_Wl_run 81 = .ok (.getfield 90, 3) := by decide +kernel
theorem d_Wl_run_84 : decode b_Wl_run 84 = .ok (.ireturn, 1) := by decide +kernel
theorem d_Wl_deliver_0 : decode b_Wl_deliver 0 = .ok (.aload_n 0, 1) := by decide +kernel
theorem d_Wl_deliver_1 : decode b_Wl_deliver 1 = .ok (.getfield 34, 3) := by decide +kernel
theorem d_Wl_deliver_4 : decode b_Wl_deliver 4 = .ok (.iload_n 1, 1) := by decide +kernel
theorem d_Wl_deliver_5 : decode b_Wl_deliver 5 = .ok (.invokevirtual 95, 3) := by decide +kernel
theorem d_Wl_deliver_8 : decode b_Wl_deliver 8 = .ok (.ifCond .ne 5, 3) := by decide +kernel
theorem d_Wl_deliver_11 : decode b_Wl_deliver 11 = .ok (.iconst 0, 1) := by decide +kernel
theorem d_Wl_deliver_12 : decode b_Wl_deliver 12 = .ok (.ireturn, 1) := by decide +kernel
theorem d_Wl_deliver_13 : decode b_Wl_deliver 13 = .ok (.aload_n 0, 1) := by decide +kernel
theorem d_Wl_deliver_14 : decode b_Wl_deliver 14 = .ok (.iload_n 1, 1) := by decide +kernel
theorem d_Wl_deliver_15 : decode b_Wl_deliver 15 = .ok (.invokevirtual 92, 3) := by decide +kernel
theorem d_Wl_deliver_18 : decode b_Wl_deliver 18 = .ok (.iconst 1, 1) := by decide +kernel
theorem d_Wl_deliver_19 : decode b_Wl_deliver 19 = .ok (.ireturn, 1) := by decide +kernel
theorem d_Wl_forge_0 : decode b_Wl_forge 0 = .ok (.iload_n 1, 1) := by decide +kernel
theorem d_Wl_forge_1 : decode b_Wl_forge 1 = .ok (.iconst 1, 1) := by decide +kernel
theorem d_Wl_forge_2 : decode b_Wl_forge 2 = .ok (.if_icmp .lt 19, 3) := by decide +kernel
theorem d_Wl_forge_5 : decode b_Wl_forge 5 = .ok (.iload_n 1, 1) := by decide +kernel
theorem d_Wl_forge_6 : decode b_Wl_forge 6 = .ok (.bipush 12, 2) := by decide +kernel
theorem d_Wl_forge_8 : decode b_Wl_forge 8 = .ok (.if_icmp .gt 13, 3) := by decide +kernel
theorem d_Wl_forge_11 : decode b_Wl_forge 11 = .ok (.iload_n 2, 1) := by decide +kernel
theorem d_Wl_forge_12 : decode b_Wl_forge 12 = .ok (.ifCond .lt 9, 3) := by decide +kernel
theorem d_Wl_forge_15 : decode b_Wl_forge 15 = .ok (.iload_n 2, 1) := by decide +kernel
theorem d_Wl_forge_16 : decode b_Wl_forge 16 = .ok (.bipush 15, 2) := by decide +kernel
theorem d_Wl_forge_18 : decode b_Wl_forge 18 = .ok (.if_icmp .le 13, 3) := by decide +kernel
theorem d_Wl_forge_21 : decode b_Wl_forge 21 = .ok (.new 51, 3) := by decide +kernel
theorem d_Wl_forge_24 : decode b_Wl_forge 24 = .ok (.dup, 1) := by decide +kernel
theorem d_Wl_forge_25 : decode b_Wl_forge 25 = .ok (.ldc 98, 2) := by decide +kernel
theorem d_Wl_forge_27 : decode b_Wl_forge 27 = .ok (.invokespecial 55, 3) := by decide +kernel
theorem d_Wl_forge_30 : decode b_Wl_forge 30 = .ok (.athrow, 1) := by decide +kernel
theorem d_Wl_forge_31 : decode b_Wl_forge 31 = .ok (.lload_n 3, 1) := by decide +kernel
theorem d_Wl_forge_32 : decode b_Wl_forge 32 = .ok (.ldc2_w 100, 3) := by decide +kernel
theorem d_Wl_forge_35 : decode b_Wl_forge 35 = .ok (.land, 1) := by decide +kernel
theorem d_Wl_forge_36 : decode b_Wl_forge 36 = .ok (.lconst 0, 1) := by decide +kernel
theorem d_Wl_forge_37 : decode b_Wl_forge 37 = .ok (.lcmp, 1) := by decide +kernel
theorem d_Wl_forge_38 : decode b_Wl_forge 38 = .ok (.ifCond .ne 11, 3) := by decide +kernel
theorem d_Wl_forge_41 : decode b_Wl_forge 41 = .ok (.iload 5, 2) := by decide +kernel
theorem d_Wl_forge_43 : decode b_Wl_forge 43 = .ok (.invokestatic 102, 3) := by decide +kernel
theorem d_Wl_forge_46 : decode b_Wl_forge 46 = .ok (.ifCond .ne 13, 3) := by decide +kernel
theorem d_Wl_forge_49 : decode b_Wl_forge 49 = .ok (.new 51, 3) := by decide +kernel
theorem d_Wl_forge_52 : decode b_Wl_forge 52 = .ok (.dup, 1) := by decide +kernel
theorem d_Wl_forge_53 : decode b_Wl_forge 53 = .ok (.ldc 105, 2) := by decide +kernel
theorem d_Wl_forge_55 : decode b_Wl_forge 55 = .ok (.invokespecial 55, 3) := by decide +kernel
theorem d_Wl_forge_58 : decode b_Wl_forge 58 = .ok (.athrow, 1) := by decide +kernel
theorem d_Wl_forge_59 : decode b_Wl_forge 59 = .ok (.aload_n 0, 1) := by decide +kernel
theorem d_Wl_forge_60 : decode b_Wl_forge 60 = .ok (.getfield 26, 3) := by decide +kernel
theorem d_Wl_forge_63 : decode b_Wl_forge 63 = .ok (.iconst (-1), 1) := by decide +kernel
theorem d_Wl_forge_64 : decode b_Wl_forge 64 = .ok (.if_icmp .eq 12, 3) := by decide +kernel
theorem d_Wl_forge_67 : decode b_Wl_forge 67 = .ok (.aload_n 0, 1) := by decide +kernel
theorem d_Wl_forge_68 : decode b_Wl_forge 68 = .ok (.getfield 107, 3) := by decide +kernel
theorem d_Wl_forge_71 : decode b_Wl_forge 71 = .ok (.bipush 24, 2) := by decide +kernel
theorem d_Wl_forge_73 : decode b_Wl_forge 73 = .ok (.if_icmp .lt 13, 3) := by decide +kernel
theorem d_Wl_forge_76 : decode b_Wl_forge 76 = .ok (.new 70, 3) := by decide +kernel
theorem d_Wl_forge_79 : decode b_Wl_forge 79 = .ok (.dup, 1) := by decide +kernel
theorem d_Wl_forge_80 : decode b_Wl_forge 80 = .ok (.ldc 110, 2) := by decide +kernel
theorem d_Wl_forge_82 : decode b_Wl_forge 82 = .ok (.invokespecial 74, 3) := by decide +kernel
theorem d_Wl_forge_85 : decode b_Wl_forge 85 = .ok (.athrow, 1) := by decide +kernel
theorem d_Wl_forge_86 : decode b_Wl_forge 86 = .ok (.aload_n 0, 1) := by decide +kernel
theorem d_Wl_forge_87 : decode b_Wl_forge 87 = .ok (.dup, 1) := by decide +kernel
theorem d_Wl_forge_88 : decode b_Wl_forge 88 = .ok (.getfield 107, 3) := by decide +kernel
theorem d_Wl_forge_91 : decode b_Wl_forge 91 = .ok (.iconst 1, 1) := by decide +kernel
theorem d_Wl_forge_92 : decode b_Wl_forge 92 = .ok (.iadd, 1) := by decide +kernel
theorem d_Wl_forge_93 : decode b_Wl_forge 93 = .ok (.putfield 107, 3) := by decide +kernel
theorem d_Wl_forge_96 : decode b_Wl_forge 96 = .ok (.aload_n 0, 1) := by decide +kernel
theorem d_Wl_forge_97 : decode b_Wl_forge 97 = .ok (.getfield 30, 3) := by decide +kernel
theorem d_Wl_forge_100 : decode b_Wl_forge 100 = .ok (.iload_n 1, 1) := by decide +kernel
theorem d_Wl_forge_101 : decode b_Wl_forge 101 = .ok (.aload_n 0, 1) := by decide +kernel
theorem d_Wl_forge_102 : decode b_Wl_forge 102 = .ok (.getfield 26, 3) := by decide +kernel
theorem d_Wl_forge_105 : decode b_Wl_forge 105 = .ok (.invokestatic 112, 3) := by decide +kernel
theorem d_Wl_forge_108 : decode b_Wl_forge 108 = .ok (.iload_n 2, 1) := by decide +kernel
theorem d_Wl_forge_109 : decode b_Wl_forge 109 = .ok (.lload_n 3, 1) := by decide +kernel
theorem d_Wl_forge_110 : decode b_Wl_forge 110 = .ok (.iload 5, 2) := by decide +kernel
theorem d_Wl_forge_112 : decode b_Wl_forge 112 = .ok (.invokevirtual 116, 3) := by decide +kernel
theorem d_Wl_forge_115 : decode b_Wl_forge 115 = .ok (.ireturn, 1) := by decide +kernel
theorem d_Wl_whisper_0 : decode b_Wl_whisper 0 = .ok (.iload_n 1, 1) := by decide +kernel
theorem d_Wl_whisper_1 : decode b_Wl_whisper 1 = .ok (.ifCond .lt 27, 3) := by decide +kernel
theorem d_Wl_whisper_4 : decode b_Wl_whisper 4 = .ok (.iload_n 1, 1) := by decide +kernel
theorem d_Wl_whisper_5 : decode b_Wl_whisper 5 = .ok (.iconst 2, 1) := by decide +kernel
theorem d_Wl_whisper_6 : decode b_Wl_whisper 6 = .ok (.if_icmp .gt 22, 3) := by decide +kernel
theorem d_Wl_whisper_9 : decode b_Wl_whisper 9 = .ok (.aload_n 0, 1) := by decide +kernel
theorem d_Wl_whisper_10 : decode b_Wl_whisper 10 = .ok (.iload_n 2, 1) := by decide +kernel
theorem d_Wl_whisper_11 : decode b_Wl_whisper 11 = .ok (.invokevirtual 45, 3) := by decide +kernel
theorem d_Wl_whisper_14 : decode b_Wl_whisper 14 = .ok (.ifCond .eq 14, 3) := by decide +kernel
theorem d_Wl_whisper_17 : decode b_Wl_whisper 17 = .ok (.aload_n 0, 1) := by decide +kernel
theorem d_Wl_whisper_18 : decode b_Wl_whisper 18 = .ok (.getfield 30, 3) := by decide +kernel
theorem d_Wl_whisper_21 : decode b_Wl_whisper 21 = .ok (.iload_n 3, 1) := by decide +kernel
theorem d_Wl_whisper_22 : decode b_Wl_whisper 22 = .ok (.invokevirtual 120, 3) := by decide +kernel
theorem d_Wl_whisper_25 : decode b_Wl_whisper 25 = .ok (.ifCond .ne 13, 3) := by decide +kernel
theorem d_Wl_whisper_28 : decode b_Wl_whisper 28 = .ok (.new 51, 3) := by decide +kernel
theorem d_Wl_whisper_31 : decode b_Wl_whisper 31 = .ok (.dup, 1) := by decide +kernel
theorem d_Wl_whisper_32 : decode b_Wl_whisper 32 = .ok (.ldc 121, 2) := by decide +kernel
theorem d_Wl_whisper_34 : decode b_Wl_whisper 34 = .ok (.invokespecial 55, 3) := by decide +kernel
theorem d_Wl_whisper_37 : decode b_Wl_whisper 37 = .ok (.athrow, 1) := by decide +kernel
theorem d_Wl_whisper_38 : decode b_Wl_whisper 38 = .ok (.aload_n 0, 1) := by decide +kernel
theorem d_Wl_whisper_39 : decode b_Wl_whisper 39 = .ok (.getfield 26, 3) := by decide +kernel
theorem d_Wl_whisper_42 : decode b_Wl_whisper 42 = .ok (.iconst (-1), 1) := by decide +kernel
theorem d_Wl_whisper_43 : decode b_Wl_whisper 43 = .ok (.if_icmp .ne 13, 3) := by decide +kernel
theorem d_Wl_whisper_46 : decode b_Wl_whisper 46 = .ok (.new 70, 3) := by decide +kernel
theorem d_Wl_whisper_49 : decode b_Wl_whisper 49 = .ok (.dup, 1) := by decide +kernel
theorem d_Wl_whisper_50 : decode b_Wl_whisper 50 = .ok (.ldc 123, 2) := by decide +kernel
theorem d_Wl_whisper_52 : decode b_Wl_whisper 52 = .ok (.invokespecial 74, 3) := by decide +kernel
theorem d_Wl_whisper_55 : decode b_Wl_whisper 55 = .ok (.athrow, 1) := by decide +kernel
theorem d_Wl_whisper_56 : decode b_Wl_whisper 56 = .ok (.aload_n 0, 1) := by decide +kernel
theorem d_Wl_whisper_57 : decode b_Wl_whisper 57 = .ok (.getfield 34, 3) := by decide +kernel
theorem d_Wl_whisper_60 : decode b_Wl_whisper 60 = .ok (.iload_n 1, 1) := by decide +kernel
theorem d_Wl_whisper_61 : decode b_Wl_whisper 61 = .ok (.aload_n 0, 1) := by decide +kernel
theorem d_Wl_whisper_62 : decode b_Wl_whisper 62 = .ok (.getfield 26, 3) := by decide +kernel
theorem d_Wl_whisper_65 : decode b_Wl_whisper 65 = .ok (.iload_n 2, 1) := by decide +kernel
theorem d_Wl_whisper_66 : decode b_Wl_whisper 66 = .ok (.iload_n 3, 1) := by decide +kernel
theorem d_Wl_whisper_67 : decode b_Wl_whisper 67 = .ok (.invokevirtual 125, 3) := by decide +kernel
theorem d_Wl_whisper_70 : decode b_Wl_whisper 70 = .ok (.aload_n 0, 1) := by decide +kernel
theorem d_Wl_whisper_71 : decode b_Wl_whisper 71 = .ok (.getfield 34, 3) := by decide +kernel
theorem d_Wl_whisper_74 : decode b_Wl_whisper 74 = .ok (.getfield 90, 3) := by decide +kernel
theorem d_Wl_whisper_77 : decode b_Wl_whisper 77 = .ok (.ireturn, 1) := by decide +kernel
theorem d_Wl_message_0 : decode b_Wl_message 0 = .ok (.aload_n 0, 1) := by decide +kernel
theorem d_Wl_message_1 : decode b_Wl_message 1 = .ok (.getfield 34, 3) := by decide +kernel
theorem d_Wl_message_4 : decode b_Wl_message 4 = .ok (.iload_n 1, 1) := by decide +kernel
theorem d_Wl_message_5 : decode b_Wl_message 5 = .ok (.invokevirtual 95, 3) := by decide +kernel
theorem d_Wl_message_8 : decode b_Wl_message 8 = .ok (.ifCond .ne 5, 3) := by decide +kernel
theorem d_Wl_message_11 : decode b_Wl_message 11 = .ok (.iconst (-1), 1) := by decide +kernel
theorem d_Wl_message_12 : decode b_Wl_message 12 = .ok (.ireturn, 1) := by decide +kernel
theorem d_Wl_message_13 : decode b_Wl_message 13 = .ok (.aload_n 0, 1) := by decide +kernel
theorem d_Wl_message_14 : decode b_Wl_message 14 = .ok (.getfield 34, 3) := by decide +kernel
theorem d_Wl_message_17 : decode b_Wl_message 17 = .ok (.getfield 129, 3) := by decide +kernel
theorem d_Wl_message_20 : decode b_Wl_message 20 = .ok (.iload_n 1, 1) := by decide +kernel
theorem d_Wl_message_21 : decode b_Wl_message 21 = .ok (.iaload, 1) := by decide +kernel
theorem d_Wl_message_22 : decode b_Wl_message 22 = .ok (.istore_n 3, 1) := by decide +kernel
theorem d_Wl_message_23 : decode b_Wl_message 23 = .ok (.iload_n 2, 1) := by decide +kernel
theorem d_Wl_message_24 : decode b_Wl_message 24 = .ok (.tableswitch 52 0 3 #[32, 37, 42, 47], 32) := by decide +kernel
theorem d_Wl_message_56 : decode b_Wl_message 56 = .ok (.iload_n 3, 1) := by decide +kernel
theorem d_Wl_message_57 : decode b_Wl_message 57 = .ok (.invokestatic 133, 3) := by decide +kernel
theorem d_Wl_message_60 : decode b_Wl_message 60 = .ok (.ireturn, 1) := by decide +kernel
theorem d_Wl_message_61 : decode b_Wl_message 61 = .ok (.iload_n 3, 1) := by decide +kernel
theorem d_Wl_message_62 : decode b_Wl_message 62 = .ok (.invokestatic 137, 3) := by decide +kernel
theorem d_Wl_message_65 : decode b_Wl_message 65 = .ok (.ireturn, 1) := by decide +kernel
theorem d_Wl_message_66 : decode b_Wl_message 66 = .ok (.iload_n 3, 1) := by decide +kernel
theorem d_Wl_message_67 : decode b_Wl_message 67 = .ok (.invokestatic 140, 3) := by decide +kernel
theorem d_Wl_message_70 : decode b_Wl_message 70 = .ok (.ireturn, 1) := by decide +kernel
theorem d_Wl_message_71 : decode b_Wl_message 71 = .ok (.iload_n 3, 1) := by decide +kernel
theorem d_Wl_message_72 : decode b_Wl_message 72 = .ok (.invokestatic 143, 3) := by decide +kernel
theorem d_Wl_message_75 : decode b_Wl_message 75 = .ok (.ireturn, 1) := by decide +kernel
theorem d_Wl_message_76 : decode b_Wl_message 76 = .ok (.iconst (-1), 1) := by decide +kernel
theorem d_Wl_message_77 : decode b_Wl_message 77 = .ok (.ireturn, 1) := by decide +kernel
theorem d_Wl_vertex_0 : decode b_Wl_vertex 0 = .ok (.aload_n 0, 1) := by decide +kernel
theorem d_Wl_vertex_1 : decode b_Wl_vertex 1 = .ok (.getfield 30, 3) := by decide +kernel
theorem d_Wl_vertex_4 : decode b_Wl_vertex 4 = .ok (.iload_n 1, 1) := by decide +kernel
theorem d_Wl_vertex_5 : decode b_Wl_vertex 5 = .ok (.invokevirtual 120, 3) := by decide +kernel
theorem d_Wl_vertex_8 : decode b_Wl_vertex 8 = .ok (.ifCond .ne 5, 3) := by decide +kernel
theorem d_Wl_vertex_11 : decode b_Wl_vertex 11 = .ok (.iconst (-1), 1) := by decide +kernel
theorem d_Wl_vertex_12 : decode b_Wl_vertex 12 = .ok (.ireturn, 1) := by decide +kernel
theorem d_Wl_vertex_13 : decode b_Wl_vertex 13 = .ok (.iload_n 2, 1) := by decide +kernel
theorem d_Wl_vertex_14 : decode b_Wl_vertex 14 = .ok (.tableswitch 56 0 2 #[26, 36, 46], 26) := by decide +kernel
theorem d_Wl_vertex_40 : decode b_Wl_vertex 40 = .ok (.aload_n 0, 1) := by decide +kernel
theorem d_Wl_vertex_41 : decode b_Wl_vertex 41 = .ok (.getfield 30, 3) := by decide +kernel
theorem d_Wl_vertex_44 : decode b_Wl_vertex 44 = .ok (.getfield 146, 3) := by decide +kernel
theorem d_Wl_vertex_47 : decode b_Wl_vertex 47 = .ok (.iload_n 1, 1) := by decide +kernel
theorem d_Wl_vertex_48 : decode b_Wl_vertex 48 = .ok (.iaload, 1) := by decide +kernel
theorem d_Wl_vertex_49 : decode b_Wl_vertex 49 = .ok (.ireturn, 1) := by decide +kernel
theorem d_Wl_vertex_50 : decode b_Wl_vertex 50 = .ok (.aload_n 0, 1) := by decide +kernel
theorem d_Wl_vertex_51 : decode b_Wl_vertex 51 = .ok (.getfield 30, 3) := by decide +kernel
theorem d_Wl_vertex_54 : decode b_Wl_vertex 54 = .ok (.getfield 149, 3) := by decide +kernel
theorem d_Wl_vertex_57 : decode b_Wl_vertex 57 = .ok (.iload_n 1, 1) := by decide +kernel
theorem d_Wl_vertex_58 : decode b_Wl_vertex 58 = .ok (.iaload, 1) := by decide +kernel
theorem d_Wl_vertex_59 : decode b_Wl_vertex 59 = .ok (.ireturn, 1) := by decide +kernel
theorem d_Wl_vertex_60 : decode b_Wl_vertex 60 = .ok (.aload_n 0, 1) := by decide +kernel
theorem d_Wl_vertex_61 : decode b_Wl_vertex 61 = .ok (.getfield 30, 3) := by decide +kernel
theorem d_Wl_vertex_64 : decode b_Wl_vertex 64 = .ok (.getfield 152, 3) := by decide +kernel
theorem d_Wl_vertex_67 : decode b_Wl_vertex 67 = .ok (.iload_n 1, 1) := by decide +kernel
theorem d_Wl_vertex_68 : decode b_Wl_vertex 68 = .ok (.iaload, 1) := by decide +kernel
theorem d_Wl_vertex_69 : decode b_Wl_vertex 69 = .ok (.ireturn, 1) := by decide +kernel
theorem d_Wl_vertex_70 : decode b_Wl_vertex 70 = .ok (.iconst (-1), 1) := by decide +kernel
theorem d_Wl_vertex_71 : decode b_Wl_vertex 71 = .ok (.ireturn, 1) := by decide +kernel
theorem d_Wl_weak_0 : decode b_Wl_weak 0 = .ok (.aload_n 0, 1) := by decide +kernel
theorem d_Wl_weak_1 : decode b_Wl_weak 1 = .ok (.getfield 30, 3) := by decide +kernel
theorem d_Wl_weak_4 : decode b_Wl_weak 4 = .ok (.iload_n 1, 1) := by decide +kernel
theorem d_Wl_weak_5 : decode b_Wl_weak 5 = .ok (.invokevirtual 120, 3) := by decide +kernel
theorem d_Wl_weak_8 : decode b_Wl_weak 8 = .ok (.ifCond .eq 15, 3) := by decide +kernel
theorem d_Wl_weak_11 : decode b_Wl_weak 11 = .ok (.aload_n 0, 1) := by decide +kernel
theorem d_Wl_weak_12 : decode b_Wl_weak 12 = .ok (.getfield 30, 3) := by decide +kernel
theorem d_Wl_weak_15 : decode b_Wl_weak 15 = .ok (.getfield 155, 3) := by decide +kernel
theorem d_Wl_weak_18 : decode b_Wl_weak 18 = .ok (.iload_n 1, 1) := by decide +kernel
theorem d_Wl_weak_19 : decode b_Wl_weak 19 = .ok (.laload, 1) := by decide +kernel
theorem d_Wl_weak_20 : decode b_Wl_weak 20 = .ok (.goto 6, 3) := by decide +kernel
theorem d_Wl_weak_23 : decode b_Wl_weak 23 = .ok (.ldc2_w 159, 3) := by decide +kernel
theorem d_Wl_weak_26 : decode b_Wl_weak 26 = .ok (.lreturn, 1) := by decide +kernel
theorem d_Wl_node_0 : decode b_Wl_node 0 = .ok (.iload_n 1, 1) := by decide +kernel
theorem d_Wl_node_1 : decode b_Wl_node 1 = .ok (.invokestatic 9, 3) := by decide +kernel
theorem d_Wl_node_4 : decode b_Wl_node 4 = .ok (.ifCond .eq 13, 3) := by decide +kernel
theorem d_Wl_node_7 : decode b_Wl_node 7 = .ok (.iload_n 2, 1) := by decide +kernel
theorem d_Wl_node_8 : decode b_Wl_node 8 = .ok (.ifCond .lt 9, 3) := by decide +kernel
theorem d_Wl_node_11 : decode b_Wl_node 11 = .ok (.iload_n 2, 1) := by decide +kernel
theorem d_Wl_node_12 : decode b_Wl_node 12 = .ok (.bipush 8, 2) := by decide +kernel
theorem d_Wl_node_14 : decode b_Wl_node 14 = .ok (.if_icmp .lt 5, 3) := by decide +kernel
theorem d_Wl_node_17 : decode b_Wl_node 17 = .ok (.iconst (-1), 1) := by decide +kernel
theorem d_Wl_node_18 : decode b_Wl_node 18 = .ok (.ireturn, 1) := by decide +kernel
theorem d_Wl_node_19 : decode b_Wl_node 19 = .ok (.iload_n 1, 1) := by decide +kernel
theorem d_Wl_node_20 : decode b_Wl_node 20 = .ok (.aload_n 0, 1) := by decide +kernel
theorem d_Wl_node_21 : decode b_Wl_node 21 = .ok (.getfield 26, 3) := by decide +kernel
theorem d_Wl_node_24 : decode b_Wl_node 24 = .ok (.if_icmp .ne 5, 3) := by decide +kernel
theorem d_Wl_node_27 : decode b_Wl_node 27 = .ok (.iconst 0, 1) := by decide +kernel
theorem d_Wl_node_28 : decode b_Wl_node 28 = .ok (.ireturn, 1) := by decide +kernel
theorem d_Wl_node_29 : decode b_Wl_node 29 = .ok (.aload_n 0, 1) := by decide +kernel
theorem d_Wl_node_30 : decode b_Wl_node 30 = .ok (.getfield 38, 3) := by decide +kernel
theorem d_Wl_node_33 : decode b_Wl_node 33 = .ok (.iload_n 1, 1) := by decide +kernel
theorem d_Wl_node_34 : decode b_Wl_node 34 = .ok (.aaload, 1) := by decide +kernel
theorem d_Wl_node_35 : decode b_Wl_node 35 = .ok (.astore_n 3, 1) := by decide +kernel
theorem d_Wl_node_36 : decode b_Wl_node 36 = .ok (.iload_n 2, 1) := by decide +kernel
theorem d_Wl_node_37 : decode b_Wl_node 37 = .ok (.tableswitch 60 0 3 #[31, 36, 41, 49], 31) := by decide +kernel
theorem d_Wl_node_68 : decode b_Wl_node 68 = .ok (.aload_n 3, 1) := by decide +kernel
theorem d_Wl_node_69 : decode b_Wl_node 69 = .ok (.getfield 161, 3) := by decide +kernel
theorem d_Wl_node_72 : decode b_Wl_node 72 = .ok (.ireturn, 1) := by decide +kernel
theorem d_Wl_node_73 : decode b_Wl_node 73 = .ok (.aload_n 3, 1) := by decide +kernel
theorem d_Wl_node_74 : decode b_Wl_node 74 = .ok (.getfield 164, 3) := by decide +kernel
theorem d_Wl_node_77 : decode b_Wl_node 77 = .ok (.ireturn, 1) := by decide +kernel
theorem d_Wl_node_78 : decode b_Wl_node 78 = .ok (.aload_n 3, 1) := by decide +kernel
theorem d_Wl_node_79 : decode b_Wl_node 79 = .ok (.getfield 167, 3) := by decide +kernel
theorem d_Wl_node_82 : decode b_Wl_node 82 = .ok (.getfield 171, 3) := by decide +kernel
theorem d_Wl_node_85 : decode b_Wl_node 85 = .ok (.ireturn, 1) := by decide +kernel
theorem d_Wl_node_86 : decode b_Wl_node 86 = .ok (.aload_n 3, 1) := by decide +kernel
theorem d_Wl_node_87 : decode b_Wl_node 87 = .ok (.getfield 174, 3) := by decide +kernel
theorem d_Wl_node_90 : decode b_Wl_node 90 = .ok (.getfield 178, 3) := by decide +kernel
theorem d_Wl_node_93 : decode b_Wl_node 93 = .ok (.invokestatic 184, 3) := by decide +kernel
theorem d_Wl_node_96 : decode b_Wl_node 96 = .ok (.ireturn, 1) := by decide +kernel
theorem d_Wl_node_97 : decode b_Wl_node 97 = .ok (.aload_n 3, 1) := by decide +kernel
theorem d_Wl_node_98 : decode b_Wl_node 98 = .ok (.getfield 167, 3) := by decide +kernel
theorem d_Wl_node_101 : decode b_Wl_node 101 = .ok (.getfield 190, 3) := by decide +kernel
theorem d_Wl_node_104 : decode b_Wl_node 104 = .ok (.iload_n 2, 1) := by decide +kernel
theorem d_Wl_node_105 : decode b_Wl_node 105 = .ok (.iconst 4, 1) := by decide +kernel
theorem d_Wl_node_106 : decode b_Wl_node 106 = .ok (.isub, 1) := by decide +kernel
theorem d_Wl_node_107 : decode b_Wl_node 107 = .ok (.iaload, 1) := by decide +kernel
theorem d_Wl_node_108 : decode b_Wl_node 108 = .ok (.ireturn, 1) := by decide +kernel
theorem d_Wl_graph_0 : decode b_Wl_graph 0 = .ok (.iload_n 1, 1) := by decide +kernel
theorem d_Wl_graph_1 : decode b_Wl_graph 1 = .ok (.invokestatic 9, 3) := by decide +kernel
theorem d_Wl_graph_4 : decode b_Wl_graph 4 = .ok (.ifCond .eq 13, 3) := by decide +kernel
theorem d_Wl_graph_7 : decode b_Wl_graph 7 = .ok (.iload_n 2, 1) := by decide +kernel
theorem d_Wl_graph_8 : decode b_Wl_graph 8 = .ok (.ifCond .lt 9, 3) := by decide +kernel
theorem d_Wl_graph_11 : decode b_Wl_graph 11 = .ok (.iload_n 2, 1) := by decide +kernel
theorem d_Wl_graph_12 : decode b_Wl_graph 12 = .ok (.bipush 48, 2) := by decide +kernel
theorem d_Wl_graph_14 : decode b_Wl_graph 14 = .ok (.if_icmp .lt 5, 3) := by decide +kernel
theorem d_Wl_graph_17 : decode b_Wl_graph 17 = .ok (.iconst 0, 1) := by decide +kernel
theorem d_Wl_graph_18 : decode b_Wl_graph 18 = .ok (.ireturn, 1) := by decide +kernel
theorem d_Wl_graph_19 : decode b_Wl_graph 19 = .ok (.aload_n 0, 1) := by decide +kernel
theorem d_Wl_graph_20 : decode b_Wl_graph 20 = .ok (.getfield 38, 3) := by decide +kernel
theorem d_Wl_graph_23 : decode b_Wl_graph 23 = .ok (.iload_n 1, 1) := by decide +kernel
theorem d_Wl_graph_24 : decode b_Wl_graph 24 = .ok (.aaload, 1) := by decide +kernel
theorem d_Wl_graph_25 : decode b_Wl_graph 25 = .ok (.getfield 174, 3) := by decide +kernel
theorem d_Wl_graph_28 : decode b_Wl_graph 28 = .ok (.astore_n 3, 1) := by decide +kernel
theorem d_Wl_graph_29 : decode b_Wl_graph 29 = .ok (.aload_n 3, 1) := by decide +kernel
theorem d_Wl_graph_30 : decode b_Wl_graph 30 = .ok (.iload_n 2, 1) := by decide +kernel
theorem d_Wl_graph_31 : decode b_Wl_graph 31 = .ok (.invokevirtual 193, 3) := by decide +kernel
theorem d_Wl_graph_34 : decode b_Wl_graph 34 = .ok (.ifCond .eq 12, 3) := by decide +kernel
theorem d_Wl_graph_37 : decode b_Wl_graph 37 = .ok (.aload_n 3, 1) := by decide +kernel
theorem d_Wl_graph_38 : decode b_Wl_graph 38 = .ok (.getfield 194, 3) := by decide +kernel
theorem d_Wl_graph_41 : decode b_Wl_graph 41 = .ok (.iload_n 2, 1) := by decide +kernel
theorem d_Wl_graph_42 : decode b_Wl_graph 42 = .ok (.iaload, 1) := by decide +kernel
theorem d_Wl_graph_43 : decode b_Wl_graph 43 = .ok (.goto 10, 3) := by decide +kernel
theorem d_Wl_graph_46 : decode b_Wl_graph 46 = .ok (.aload_n 3, 1) := by decide +kernel
theorem d_Wl_graph_47 : decode b_Wl_graph 47 = .ok (.getfield 194, 3) := by decide +kernel
theorem d_Wl_graph_50 : decode b_Wl_graph 50 = .ok (.iload_n 2, 1) := by decide +kernel
theorem d_Wl_graph_51 : decode b_Wl_graph 51 = .ok (.iaload, 1) := by decide +kernel
theorem d_Wl_graph_52 : decode b_Wl_graph 52 = .ok (.ineg, 1) := by decide +kernel
theorem d_Wl_graph_53 : decode b_Wl_graph 53 = .ok (.ireturn, 1) := by decide +kernel
theorem d_Wl_ordered_0 : decode b_Wl_ordered 0 = .ok (.iload_n 1, 1) := by decide +kernel
theorem d_Wl_ordered_1 : decode b_Wl_ordered 1 = .ok (.invokestatic 9, 3) := by decide +kernel
theorem d_Wl_ordered_4 : decode b_Wl_ordered 4 = .ok (.ifCond .eq 23, 3) := by decide +kernel
theorem d_Wl_ordered_7 : decode b_Wl_ordered 7 = .ok (.iload_n 2, 1) := by decide +kernel
theorem d_Wl_ordered_8 : decode b_Wl_ordered 8 = .ok (.ifCond .lt 19, 3) := by decide +kernel
theorem d_Wl_ordered_11 : decode b_Wl_ordered 11 = .ok (.iload_n 2, 1) := by decide +kernel
theorem d_Wl_ordered_12 : decode b_Wl_ordered 12 = .ok (.aload_n 0, 1) := by decide +kernel
theorem d_Wl_ordered_13 : decode b_Wl_ordered 13 = .ok (.getfield 38, 3) := by decide +kernel
theorem d_Wl_ordered_16 : decode b_Wl_ordered 16 = .ok (.iload_n 1, 1) := by decide +kernel
theorem d_Wl_ordered_17 : decode b_Wl_ordered 17 = .ok (.aaload, 1) := by decide +kernel
theorem d_Wl_ordered_18 : decode b_Wl_ordered 18 = .ok (.getfield 167, 3) := by decide +kernel
theorem d_Wl_ordered_21 : decode b_Wl_ordered 21 = .ok (.getfield 171, 3) := by decide +kernel
theorem d_Wl_ordered_24 : decode b_Wl_ordered 24 = .ok (.if_icmp .lt 5, 3) := by decide +kernel
theorem d_Wl_ordered_27 : decode b_Wl_ordered 27 = .ok (.iconst (-1), 1) := by decide +kernel
theorem d_Wl_ordered_28 : decode b_Wl_ordered 28 = .ok (.ireturn, 1) := by decide +kernel
theorem d_Wl_ordered_29 : decode b_Wl_ordered 29 = .ok (.aload_n 0, 1) := by decide +kernel
theorem d_Wl_ordered_30 : decode b_Wl_ordered 30 = .ok (.getfield 38, 3) := by decide +kernel
theorem d_Wl_ordered_33 : decode b_Wl_ordered 33 = .ok (.iload_n 1, 1) := by decide +kernel
theorem d_Wl_ordered_34 : decode b_Wl_ordered 34 = .ok (.aaload, 1) := by decide +kernel
theorem d_Wl_ordered_35 : decode b_Wl_ordered 35 = .ok (.getfield 167, 3) := by decide +kernel
theorem d_Wl_ordered_38 : decode b_Wl_ordered 38 = .ok (.getfield 197, 3) := by decide +kernel
theorem d_Wl_ordered_41 : decode b_Wl_ordered 41 = .ok (.iload_n 2, 1) := by decide +kernel
theorem d_Wl_ordered_42 : decode b_Wl_ordered 42 = .ok (.iaload, 1) := by decide +kernel
theorem d_Wl_ordered_43 : decode b_Wl_ordered 43 = .ok (.ireturn, 1) := by decide +kernel
theorem d_Wl_arrive_0 : decode b_Wl_arrive 0 = .ok (.aload_n 0, 1) := by decide +kernel
theorem d_Wl_arrive_1 : decode b_Wl_arrive 1 = .ok (.getfield 34, 3) := by decide +kernel
theorem d_Wl_arrive_4 : decode b_Wl_arrive 4 = .ok (.iload_n 1, 1) := by decide +kernel
theorem d_Wl_arrive_5 : decode b_Wl_arrive 5 = .ok (.invokevirtual 198, 3) := by decide +kernel
theorem d_Wl_arrive_8 : decode b_Wl_arrive 8 = .ok (.istore_n 2, 1) := by decide +kernel
theorem d_Wl_arrive_9 : decode b_Wl_arrive 9 = .ok (.iload_n 2, 1) := by decide +kernel
theorem d_Wl_arrive_10 : decode b_Wl_arrive 10 = .ok (.invokestatic 137, 3) := by decide +kernel
theorem d_Wl_arrive_13 : decode b_Wl_arrive 13 = .ok (.istore_n 3, 1) := by decide +kernel
theorem d_Wl_arrive_14 : decode b_Wl_arrive 14 = .ok (.iload_n 2, 1) := by decide +kernel
theorem d_Wl_arrive_15 : decode b_Wl_arrive 15 = .ok (.invokestatic 143, 3) := by decide +kernel
theorem d_Wl_arrive_18 : decode b_Wl_arrive 18 = .ok (.istore 4, 2) := by decide +kernel
theorem d_Wl_arrive_20 : decode b_Wl_arrive 20 = .ok (.aload_n 0, 1) := by decide +kernel
theorem d_Wl_arrive_21 : decode b_Wl_arrive 21 = .ok (.getfield 38, 3) := by decide +kernel
theorem d_Wl_arrive_24 : decode b_Wl_arrive 24 = .ok (.iload_n 2, 1) := by decide +kernel
theorem d_Wl_arrive_25 : decode b_Wl_arrive 25 = .ok (.invokestatic 140, 3) := by decide +kernel
theorem d_Wl_arrive_28 : decode b_Wl_arrive 28 = .ok (.aaload, 1) := by decide +kernel
theorem d_Wl_arrive_29 : decode b_Wl_arrive 29 = .ok (.astore 5, 2) := by decide +kernel
theorem d_Wl_arrive_31 : decode b_Wl_arrive 31 = .ok (.iload_n 2, 1) := by decide +kernel
theorem d_Wl_arrive_32 : decode b_Wl_arrive 32 = .ok (.invokestatic 133, 3) := by decide +kernel
theorem d_Wl_arrive_35 : decode b_Wl_arrive 35 = .ok (.lookupswitch 47 #[(0, 25), (1, 36)], 25) := by decide +kernel
theorem d_Wl_arrive_60 : decode b_Wl_arrive 60 = .ok (.aload 5, 2) := by decide +kernel
theorem d_Wl_arrive_62 : decode b_Wl_arrive 62 = .ok (.iload_n 3, 1) := by decide +kernel
theorem d_Wl_arrive_63 : decode b_Wl_arrive 63 = .ok (.iload 4, 2) := by decide +kernel
theorem d_Wl_arrive_65 : decode b_Wl_arrive 65 = .ok (.invokevirtual 201, 3) := by decide +kernel
theorem d_Wl_arrive_68 : decode b_Wl_arrive 68 = .ok (.goto 22, 3) := by decide +kernel
theorem d_Wl_arrive_71 : decode b_Wl_arrive 71 = .ok (.aload 5, 2) := by decide +kernel
theorem d_Wl_arrive_73 : decode b_Wl_arrive 73 = .ok (.iload_n 3, 1) := by decide +kernel
theorem d_Wl_arrive_74 : decode b_Wl_arrive 74 = .ok (.iload 4, 2) := by decide +kernel
theorem d_Wl_arrive_76 : decode b_Wl_arrive 76 = .ok (.invokevirtual 205, 3) := by decide +kernel
theorem d_Wl_arrive_79 : decode b_Wl_arrive 79 = .ok (.goto 11, 3) := by decide +kernel
theorem d_Wl_arrive_82 : decode b_Wl_arrive 82 = .ok (.aload 5, 2) := by decide +kernel
theorem d_Wl_arrive_84 : decode b_Wl_arrive 84 = .ok (.iload_n 3, 1) := by decide +kernel
theorem d_Wl_arrive_85 : decode b_Wl_arrive 85 = .ok (.iload 4, 2) := by decide +kernel
theorem d_Wl_arrive_87 : decode b_Wl_arrive 87 = .ok (.invokevirtual 208, 3) := by decide +kernel
theorem d_Wl_arrive_90 : decode b_Wl_arrive 90 = .ok (.aload_n 0, 1) := by decide +kernel
theorem d_Wl_arrive_91 : decode b_Wl_arrive 91 = .ok (.getfield 81, 3) := by decide +kernel
theorem d_Wl_arrive_94 : decode b_Wl_arrive 94 = .ok (.ifCond .eq 8, 3) := by decide +kernel
theorem d_Wl_arrive_97 : decode b_Wl_arrive 97 = .ok (.aload 5, 2) := by decide +kernel
theorem d_Wl_arrive_99 : decode b_Wl_arrive 99 = .ok (.invokevirtual 85, 3) := by decide +kernel
theorem d_Wl_arrive_102 : decode b_Wl_arrive 102 = .ok (.return_, 1) := by decide +kernel
theorem d_Wl_isActive_0 : decode b_Wl_isActive 0 = .ok (.iload_n 1, 1) := by decide +kernel
theorem d_Wl_isActive_1 : decode b_Wl_isActive 1 = .ok (.invokestatic 9, 3) := by decide +kernel
theorem d_Wl_isActive_4 : decode b_Wl_isActive 4 = .ok (.ifCond .eq 15, 3) := by decide +kernel
theorem d_Wl_isActive_7 : decode b_Wl_isActive 7 = .ok (.iload_n 1, 1) := by decide +kernel
theorem d_Wl_isActive_8 : decode b_Wl_isActive 8 = .ok (.aload_n 0, 1) := by decide +kernel
theorem d_Wl_isActive_9 : decode b_Wl_isActive 9 = .ok (.getfield 26, 3) := by decide +kernel
theorem d_Wl_isActive_12 : decode b_Wl_isActive 12 = .ok (.if_icmp .eq 7, 3) := by decide +kernel
theorem d_Wl_isActive_15 : decode b_Wl_isActive 15 = .ok (.iconst 1, 1) := by decide +kernel
theorem d_Wl_isActive_16 : decode b_Wl_isActive 16 = .ok (.goto 4, 3) := by decide +kernel
theorem d_Wl_isActive_19 : decode b_Wl_isActive 19 = .ok (.iconst 0, 1) := by decide +kernel
theorem d_Wl_isActive_20 : decode b_Wl_isActive 20 = .ok (.ireturn, 1) := by decide +kernel
theorem d_Wl_isNode_0 : decode b_Wl_isNode 0 = .ok (.iload_n 0, 1) := by decide +kernel
theorem d_Wl_isNode_1 : decode b_Wl_isNode 1 = .ok (.ifCond .lt 12, 3) := by decide +kernel
theorem d_Wl_isNode_4 : decode b_Wl_isNode 4 = .ok (.iload_n 0, 1) := by decide +kernel
theorem d_Wl_isNode_5 : decode b_Wl_isNode 5 = .ok (.iconst 4, 1) := by decide +kernel
theorem d_Wl_isNode_6 : decode b_Wl_isNode 6 = .ok (.if_icmp .ge 7, 3) := by decide +kernel
theorem d_Wl_isNode_9 : decode b_Wl_isNode 9 = .ok (.iconst 1, 1) := by decide +kernel
theorem d_Wl_isNode_10 : decode b_Wl_isNode 10 = .ok (.goto 4, 3) := by decide +kernel
theorem d_Wl_isNode_13 : decode b_Wl_isNode 13 = .ok (.iconst 0, 1) := by decide +kernel
theorem d_Wl_isNode_14 : decode b_Wl_isNode 14 = .ok (.ireturn, 1) := by decide +kernel
theorem d_Wl_isAccount_0 : decode b_Wl_isAccount 0 = .ok (.iload_n 0, 1) := by decide +kernel
theorem d_Wl_isAccount_1 : decode b_Wl_isAccount 1 = .ok (.ifCond .lt 12, 3) := by decide +kernel
theorem d_Wl_isAccount_4 : decode b_Wl_isAccount 4 = .ok (.iload_n 0, 1) := by decide +kernel
theorem d_Wl_isAccount_5 : decode b_Wl_isAccount 5 = .ok (.iconst 4, 1) := by decide +kernel
theorem d_Wl_isAccount_6 : decode b_Wl_isAccount 6 = .ok (.if_icmp .ge 7, 3) := by decide +kernel
theorem d_Wl_isAccount_9 : decode b_Wl_isAccount 9 = .ok (.iconst 1, 1) := by decide +kernel
theorem d_Wl_isAccount_10 : decode b_Wl_isAccount 10 = .ok (.goto 4, 3) := by decide +kernel
theorem d_Wl_isAccount_13 : decode b_Wl_isAccount 13 = .ok (.iconst 0, 1) := by decide +kernel
theorem d_Wl_isAccount_14 : decode b_Wl_isAccount 14 = .ok (.ireturn, 1) := by decide +kernel
theorem d_Wl_isTransferOrNone_0 : decode b_Wl_isTransferOrNone 0 = .ok (.iload_n 0, 1) := by decide +kernel
theorem d_Wl_isTransferOrNone_1 : decode b_Wl_isTransferOrNone 1 = .ok (.ifCond .ne 5, 3) := by decide +kernel
theorem d_Wl_isTransferOrNone_4 : decode b_Wl_isTransferOrNone 4 = .ok (.iconst 1, 1) := by decide +kernel
theorem d_Wl_isTransferOrNone_5 : decode b_Wl_isTransferOrNone 5 = .ok (.ireturn, 1) := by decide +kernel
theorem d_Wl_isTransferOrNone_6 : decode b_Wl_isTransferOrNone 6 = .ok (.iload_n 0, 1) := by decide +kernel
theorem d_Wl_isTransferOrNone_7 : decode b_Wl_isTransferOrNone 7 = .ok (.sipush 1000, 3) := by decide +kernel
theorem d_Wl_isTransferOrNone_10 : decode b_Wl_isTransferOrNone 10 = .ok (.idiv, 1) := by decide +kernel
theorem d_Wl_isTransferOrNone_11 : decode b_Wl_isTransferOrNone 11 = .ok (.istore_n 1, 1) := by decide +kernel
theorem d_Wl_isTransferOrNone_12 : decode b_Wl_isTransferOrNone 12 = .ok (.iload_n 1, 1) := by decide +kernel
theorem d_Wl_isTransferOrNone_13 : decode b_Wl_isTransferOrNone 13 = .ok (.iconst 1, 1) := by decide +kernel
theorem d_Wl_isTransferOrNone_14 : decode b_Wl_isTransferOrNone 14 = .ok (.if_icmp .lt 33, 3) := by decide +kernel
theorem d_Wl_isTransferOrNone_17 : decode b_Wl_isTransferOrNone 17 = .ok (.iload_n 1, 1) := by decide +kernel
theorem d_Wl_isTransferOrNone_18 : decode b_Wl_isTransferOrNone 18 = .ok (.bipush 99, 2) := by decide +kernel
theorem d_Wl_isTransferOrNone_20 : decode b_Wl_isTransferOrNone 20 = .ok (.if_icmp .gt 27, 3) := by decide +kernel
theorem d_Wl_isTransferOrNone_23 : decode b_Wl_isTransferOrNone 23 = .ok (.iload_n 0, 1) := by decide +kernel
theorem d_Wl_isTransferOrNone_24 : decode b_Wl_isTransferOrNone 24 = .ok (.invokestatic 211, 3) := by decide +kernel
theorem d_Wl_isTransferOrNone_27 : decode b_Wl_isTransferOrNone 27 = .ok (.invokestatic 48, 3) := by decide +kernel
theorem d_Wl_isTransferOrNone_30 : decode b_Wl_isTransferOrNone 30 = .ok (.ifCond .eq 17, 3) := by decide +kernel
theorem d_Wl_isTransferOrNone_33 : decode b_Wl_isTransferOrNone 33 = .ok (.iload_n 0, 1) := by decide +kernel
theorem d_Wl_isTransferOrNone_34 : decode b_Wl_isTransferOrNone 34 = .ok (.invokestatic 214, 3) := by decide +kernel
theorem d_Wl_isTransferOrNone_37 : decode b_Wl_isTransferOrNone 37 = .ok (.invokestatic 48, 3) := by decide +kernel
theorem d_Wl_isTransferOrNone_40 : decode b_Wl_isTransferOrNone 40 = .ok (.ifCond .eq 7, 3) := by decide +kernel
theorem d_Wl_isTransferOrNone_43 : decode b_Wl_isTransferOrNone 43 = .ok (.iconst 1, 1) := by decide +kernel
theorem d_Wl_isTransferOrNone_44 : decode b_Wl_isTransferOrNone 44 = .ok (.goto 4, 3) := by decide +kernel
theorem d_Wl_isTransferOrNone_47 : decode b_Wl_isTransferOrNone 47 = .ok (.iconst 0, 1) := by decide +kernel
theorem d_Wl_isTransferOrNone_48 : decode b_Wl_isTransferOrNone 48 = .ok (.ireturn, 1) := by decide +kernel
theorem d_Wl_payerOf_0 : decode b_Wl_payerOf 0 = .ok (.iload_n 0, 1) := by decide +kernel
theorem d_Wl_payerOf_1 : decode b_Wl_payerOf 1 = .ok (.sipush 1000, 3) := by decide +kernel
theorem d_Wl_payerOf_4 : decode b_Wl_payerOf 4 = .ok (.irem, 1) := by decide +kernel
theorem d_Wl_payerOf_5 : decode b_Wl_payerOf 5 = .ok (.bipush 10, 2) := by decide +kernel
theorem d_Wl_payerOf_7 : decode b_Wl_payerOf 7 = .ok (.idiv, 1) := by decide +kernel
theorem d_Wl_payerOf_8 : decode b_Wl_payerOf 8 = .ok (.ireturn, 1) := by decide +kernel
theorem d_Wl_payeeOf_0 : decode b_Wl_payeeOf 0 = .ok (.iload_n 0, 1) := by decide +kernel
theorem d_Wl_payeeOf_1 : decode b_Wl_payeeOf 1 = .ok (.bipush 10, 2) := by decide +kernel
theorem d_Wl_payeeOf_3 : decode b_Wl_payeeOf 3 = .ok (.irem, 1) := by decide +kernel
theorem d_Wl_payeeOf_4 : decode b_Wl_payeeOf 4 = .ok (.ireturn, 1) := by decide +kernel
theorem d_Wl_numberOf_0 : decode b_Wl_numberOf 0 = .ok (.iconst 4, 1) := by decide +kernel
theorem d_Wl_numberOf_1 : decode b_Wl_numberOf 1 = .ok (.iload_n 0, 1) := by decide +kernel
theorem d_Wl_numberOf_2 : decode b_Wl_numberOf 2 = .ok (.iconst 1, 1) := by decide +kernel
theorem d_Wl_numberOf_3 : decode b_Wl_numberOf 3 = .ok (.isub, 1) := by decide +kernel
theorem d_Wl_numberOf_4 : decode b_Wl_numberOf 4 = .ok (.imul, 1) := by decide +kernel
theorem d_Wl_numberOf_5 : decode b_Wl_numberOf 5 = .ok (.iload_n 1, 1) := by decide +kernel
theorem d_Wl_numberOf_6 : decode b_Wl_numberOf 6 = .ok (.iadd, 1) := by decide +kernel
theorem d_Wl_numberOf_7 : decode b_Wl_numberOf 7 = .ok (.ireturn, 1) := by decide +kernel
theorem d_Wl_roundOf_0 : decode b_Wl_roundOf 0 = .ok (.iload_n 0, 1) := by decide +kernel
theorem d_Wl_roundOf_1 : decode b_Wl_roundOf 1 = .ok (.iconst 4, 1) := by decide +kernel
theorem d_Wl_roundOf_2 : decode b_Wl_roundOf 2 = .ok (.idiv, 1) := by decide +kernel
theorem d_Wl_roundOf_3 : decode b_Wl_roundOf 3 = .ok (.iconst 1, 1) := by decide +kernel
theorem d_Wl_roundOf_4 : decode b_Wl_roundOf 4 = .ok (.iadd, 1) := by decide +kernel
theorem d_Wl_roundOf_5 : decode b_Wl_roundOf 5 = .ok (.ireturn, 1) := by decide +kernel
theorem d_Wl_bitOf_0 : decode b_Wl_bitOf 0 = .ok (.lconst 1, 1) := by decide +kernel
theorem d_Wl_bitOf_1 : decode b_Wl_bitOf 1 = .ok (.iload_n 0, 1) := by decide +kernel
theorem d_Wl_bitOf_2 : decode b_Wl_bitOf 2 = .ok (.lshl, 1) := by decide +kernel
theorem d_Wl_bitOf_3 : decode b_Wl_bitOf 3 = .ok (.lreturn, 1) := by decide +kernel
theorem d_Wl_contains_0 : decode b_Wl_contains 0 = .ok (.lload_n 0, 1) := by decide +kernel
theorem d_Wl_contains_1 : decode b_Wl_contains 1 = .ok (.iload_n 2, 1) := by decide +kernel
theorem d_Wl_contains_2 : decode b_Wl_contains 2 = .ok (.lushr, 1) := by decide +kernel
theorem d_Wl_contains_3 : decode b_Wl_contains 3 = .ok (.lconst 1, 1) := by decide +kernel
theorem d_Wl_contains_4 : decode b_Wl_contains 4 = .ok (.land, 1) := by decide +kernel
theorem d_Wl_contains_5 : decode b_Wl_contains 5 = .ok (.lconst 0, 1) := by decide +kernel
theorem d_Wl_contains_6 : decode b_Wl_contains 6 = .ok (.lcmp, 1) := by decide +kernel
theorem d_Wl_contains_7 : decode b_Wl_contains 7 = .ok (.ifCond .eq 7, 3) := by decide +kernel
theorem d_Wl_contains_10 : decode b_Wl_contains 10 = .ok (.iconst 1, 1) := by decide +kernel
theorem d_Wl_contains_11 : decode b_Wl_contains 11 = .ok (.goto 4, 3) := by decide +kernel
theorem d_Wl_contains_14 : decode b_Wl_contains 14 = .ok (.iconst 0, 1) := by decide +kernel
theorem d_Wl_contains_15 : decode b_Wl_contains 15 = .ok (.ireturn, 1) := by decide +kernel
theorem d_In_bitCount_0 : decode b_In_bitCount 0 = .ok (.iload_n 0, 1) := by decide +kernel
theorem d_In_bitCount_1 : decode b_In_bitCount 1 = .ok (.iload_n 0, 1) := by decide +kernel
theorem d_In_bitCount_2 : decode b_In_bitCount 2 = .ok (.iconst 1, 1) := by decide +kernel
theorem d_In_bitCount_3 : decode b_In_bitCount 3 = .ok (.iushr, 1) := by decide +kernel
theorem d_In_bitCount_4 : decode b_In_bitCount 4 = .ok (.ldc_w 265, 3) := by decide +kernel
theorem d_In_bitCount_7 : decode b_In_bitCount 7 = .ok (.iand, 1) := by decide +kernel
theorem d_In_bitCount_8 : decode b_In_bitCount 8 = .ok (.isub, 1) := by decide +kernel
theorem d_In_bitCount_9 : decode b_In_bitCount 9 = .ok (.istore_n 0, 1) := by decide +kernel
theorem d_In_bitCount_10 : decode b_In_bitCount 10 = .ok (.iload_n 0, 1) := by decide +kernel
theorem d_In_bitCount_11 : decode b_In_bitCount 11 = .ok (.ldc_w 266, 3) := by decide +kernel
theorem d_In_bitCount_14 : decode b_In_bitCount 14 = .ok (.iand, 1) := by decide +kernel
theorem d_In_bitCount_15 : decode b_In_bitCount 15 = .ok (.iload_n 0, 1) := by decide +kernel
theorem d_In_bitCount_16 : decode b_In_bitCount 16 = .ok (.iconst 2, 1) := by decide +kernel
theorem d_In_bitCount_17 : decode b_In_bitCount 17 = .ok (.iushr, 1) := by decide +kernel
theorem d_In_bitCount_18 : decode b_In_bitCount 18 = .ok (.ldc_w 266, 3) := by decide +kernel
theorem d_In_bitCount_21 : decode b_In_bitCount 21 = .ok (.iand, 1) := by decide +kernel
theorem d_In_bitCount_22 : decode b_In_bitCount 22 = .ok (.iadd, 1) := by decide +kernel
theorem d_In_bitCount_23 : decode b_In_bitCount 23 = .ok (.istore_n 0, 1) := by decide +kernel
theorem d_In_bitCount_24 : decode b_In_bitCount 24 = .ok (.iload_n 0, 1) := by decide +kernel
theorem d_In_bitCount_25 : decode b_In_bitCount 25 = .ok (.iload_n 0, 1) := by decide +kernel
theorem d_In_bitCount_26 : decode b_In_bitCount 26 = .ok (.iconst 4, 1) := by decide +kernel
theorem d_In_bitCount_27 : decode b_In_bitCount 27 = .ok (.iushr, 1) := by decide +kernel
theorem d_In_bitCount_28 : decode b_In_bitCount 28 = .ok (.iadd, 1) := by decide +kernel
theorem d_In_bitCount_29 : decode b_In_bitCount 29 = .ok (.ldc_w 267, 3) := by decide +kernel
theorem d_In_bitCount_32 : decode b_In_bitCount 32 = .ok (.iand, 1) := by decide +kernel
theorem d_In_bitCount_33 : decode b_In_bitCount 33 = .ok (.istore_n 0, 1) := by decide +kernel
theorem d_In_bitCount_34 : decode b_In_bitCount 34 = .ok (.iload_n 0, 1) := by decide +kernel
theorem d_In_bitCount_35 : decode b_In_bitCount 35 = .ok (.iload_n 0, 1) := by decide +kernel
theorem d_In_bitCount_36 : decode b_In_bitCount 36 = .ok (.bipush 8, 2) := by decide +kernel
theorem d_In_bitCount_38 : decode b_In_bitCount 38 = .ok (.iushr, 1) := by decide +kernel
theorem d_In_bitCount_39 : decode b_In_bitCount 39 = .ok (.iadd, 1) := by decide +kernel
theorem d_In_bitCount_40 : decode b_In_bitCount 40 = .ok (.istore_n 0, 1) := by decide +kernel
theorem d_In_bitCount_41 : decode b_In_bitCount 41 = .ok (.iload_n 0, 1) := by decide +kernel
theorem d_In_bitCount_42 : decode b_In_bitCount 42 = .ok (.iload_n 0, 1) := by decide +kernel
theorem d_In_bitCount_43 : decode b_In_bitCount 43 = .ok (.bipush 16, 2) := by decide +kernel
theorem d_In_bitCount_45 : decode b_In_bitCount 45 = .ok (.iushr, 1) := by decide +kernel
theorem d_In_bitCount_46 : decode b_In_bitCount 46 = .ok (.iadd, 1) := by decide +kernel
theorem d_In_bitCount_47 : decode b_In_bitCount 47 = .ok (.istore_n 0, 1) := by decide +kernel
theorem d_In_bitCount_48 : decode b_In_bitCount 48 = .ok (.iload_n 0, 1) := by decide +kernel
theorem d_In_bitCount_49 : decode b_In_bitCount 49 = .ok (.bipush 63, 2) := by decide +kernel
theorem d_In_bitCount_51 : decode b_In_bitCount 51 = .ok (.iand, 1) := by decide +kernel
theorem d_In_bitCount_52 : decode b_In_bitCount 52 = .ok (.ireturn, 1) := by decide +kernel
theorem d_Lo_bitCount_0 : decode b_Lo_bitCount 0 = .ok (.lload_n 0, 1) := by decide +kernel
theorem d_Lo_bitCount_1 : decode b_Lo_bitCount 1 = .ok (.lload_n 0, 1) := by decide +kernel
theorem d_Lo_bitCount_2 : decode b_Lo_bitCount 2 = .ok (.iconst 1, 1) := by decide +kernel
theorem d_Lo_bitCount_3 : decode b_Lo_bitCount 3 = .ok (.lushr, 1) := by decide +kernel
theorem d_Lo_bitCount_4 : decode b_Lo_bitCount 4 = .ok (.ldc2_w 314, 3) := by decide +kernel
theorem d_Lo_bitCount_7 : decode b_Lo_bitCount 7 = .ok (.land, 1) := by decide +kernel
theorem d_Lo_bitCount_8 : decode b_Lo_bitCount 8 = .ok (.lsub, 1) := by decide +kernel
theorem d_Lo_bitCount_9 : decode b_Lo_bitCount 9 = .ok (.lstore_n 0, 1) := by decide +kernel
theorem d_Lo_bitCount_10 : decode b_Lo_bitCount 10 = .ok (.lload_n 0, 1) := by decide +kernel
theorem d_Lo_bitCount_11 : decode b_Lo_bitCount 11 = .ok (.ldc2_w 316, 3) := by decide +kernel
theorem d_Lo_bitCount_14 : decode b_Lo_bitCount 14 = .ok (.land, 1) := by decide +kernel
theorem d_Lo_bitCount_15 : decode b_Lo_bitCount 15 = .ok (.lload_n 0, 1) := by decide +kernel
theorem d_Lo_bitCount_16 : decode b_Lo_bitCount 16 = .ok (.iconst 2, 1) := by decide +kernel
theorem d_Lo_bitCount_17 : decode b_Lo_bitCount 17 = .ok (.lushr, 1) := by decide +kernel
theorem d_Lo_bitCount_18 : decode b_Lo_bitCount 18 = .ok (.ldc2_w 316, 3) := by decide +kernel
theorem d_Lo_bitCount_21 : decode b_Lo_bitCount 21 = .ok (.land, 1) := by decide +kernel
theorem d_Lo_bitCount_22 : decode b_Lo_bitCount 22 = .ok (.ladd, 1) := by decide +kernel
theorem d_Lo_bitCount_23 : decode b_Lo_bitCount 23 = .ok (.lstore_n 0, 1) := by decide +kernel
theorem d_Lo_bitCount_24 : decode b_Lo_bitCount 24 = .ok (.lload_n 0, 1) := by decide +kernel
theorem d_Lo_bitCount_25 : decode b_Lo_bitCount 25 = .ok (.lload_n 0, 1) := by decide +kernel
theorem d_Lo_bitCount_26 : decode b_Lo_bitCount 26 = .ok (.iconst 4, 1) := by decide +kernel
theorem d_Lo_bitCount_27 : decode b_Lo_bitCount 27 = .ok (.lushr, 1) := by decide +kernel
theorem d_Lo_bitCount_28 : decode b_Lo_bitCount 28 = .ok (.ladd, 1) := by decide +kernel
theorem d_Lo_bitCount_29 : decode b_Lo_bitCount 29 = .ok (.ldc2_w 318, 3) := by decide +kernel
theorem d_Lo_bitCount_32 : decode b_Lo_bitCount 32 = .ok (.land, 1) := by decide +kernel
theorem d_Lo_bitCount_33 : decode b_Lo_bitCount 33 = .ok (.lstore_n 0, 1) := by decide +kernel
theorem d_Lo_bitCount_34 : decode b_Lo_bitCount 34 = .ok (.lload_n 0, 1) := by decide +kernel
theorem d_Lo_bitCount_35 : decode b_Lo_bitCount 35 = .ok (.lload_n 0, 1) := by decide +kernel
theorem d_Lo_bitCount_36 : decode b_Lo_bitCount 36 = .ok (.bipush 8, 2) := by decide +kernel
theorem d_Lo_bitCount_38 : decode b_Lo_bitCount 38 = .ok (.lushr, 1) := by decide +kernel
theorem d_Lo_bitCount_39 : decode b_Lo_bitCount 39 = .ok (.ladd, 1) := by decide +kernel
theorem d_Lo_bitCount_40 : decode b_Lo_bitCount 40 = .ok (.lstore_n 0, 1) := by decide +kernel
theorem d_Lo_bitCount_41 : decode b_Lo_bitCount 41 = .ok (.lload_n 0, 1) := by decide +kernel
theorem d_Lo_bitCount_42 : decode b_Lo_bitCount 42 = .ok (.lload_n 0, 1) := by decide +kernel
theorem d_Lo_bitCount_43 : decode b_Lo_bitCount 43 = .ok (.bipush 16, 2) := by decide +kernel
theorem d_Lo_bitCount_45 : decode b_Lo_bitCount 45 = .ok (.lushr, 1) := by decide +kernel
theorem d_Lo_bitCount_46 : decode b_Lo_bitCount 46 = .ok (.ladd, 1) := by decide +kernel
theorem d_Lo_bitCount_47 : decode b_Lo_bitCount 47 = .ok (.lstore_n 0, 1) := by decide +kernel
theorem d_Lo_bitCount_48 : decode b_Lo_bitCount 48 = .ok (.lload_n 0, 1) := by decide +kernel
theorem d_Lo_bitCount_49 : decode b_Lo_bitCount 49 = .ok (.lload_n 0, 1) := by decide +kernel
theorem d_Lo_bitCount_50 : decode b_Lo_bitCount 50 = .ok (.bipush 32, 2) := by decide +kernel
theorem d_Lo_bitCount_52 : decode b_Lo_bitCount 52 = .ok (.lushr, 1) := by decide +kernel
theorem d_Lo_bitCount_53 : decode b_Lo_bitCount 53 = .ok (.ladd, 1) := by decide +kernel
theorem d_Lo_bitCount_54 : decode b_Lo_bitCount 54 = .ok (.lstore_n 0, 1) := by decide +kernel
theorem d_Lo_bitCount_55 : decode b_Lo_bitCount 55 = .ok (.lload_n 0, 1) := by decide +kernel
theorem d_Lo_bitCount_56 : decode b_Lo_bitCount 56 = .ok (.l2i, 1) := by decide +kernel
theorem d_Lo_bitCount_57 : decode b_Lo_bitCount 57 = .ok (.bipush 127, 2) := by decide +kernel
theorem d_Lo_bitCount_59 : decode b_Lo_bitCount 59 = .ok (.iand, 1) := by decide +kernel
theorem d_Lo_bitCount_60 : decode b_Lo_bitCount 60 = .ok (.ireturn, 1) := by decide +kernel
