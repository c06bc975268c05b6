theorem d_Bo_init_0 : decode b_Bo_init 0 = .ok (.aload_n 0, 1) := by decide +kernel
theorem d_Bo_init_1 : decode b_Bo_init 1 = .ok (.invokespecial 3, 3) := by decide +kernel
theorem d_Bo_init_4 : decode b_Bo_init 4 = .ok (.aload_n 0, 1) := by decide +kernel
theorem d_Bo_init_5 : decode b_Bo_init 5 = .ok (.bipush 48, 2) := by decide +kernel
theorem d_Bo_init_7 : decode b_Bo_init 7 = .ok (.newarray .int, 2) := by decide +kernel
theorem d_Bo_init_9 : decode b_Bo_init 9 = .ok (.putfield 9, 3) := by decide +kernel
theorem d_Bo_init_12 : decode b_Bo_init 12 = .ok (.aload_n 0, 1) := by decide +kernel
theorem d_Bo_init_13 : decode b_Bo_init 13 = .ok (.iconst 4, 1) := by decide +kernel
theorem d_Bo_init_14 : decode b_Bo_init 14 = .ok (.newarray .int, 2) := by decide +kernel
theorem d_Bo_init_16 : decode b_Bo_init 16 = .ok (.putfield 15, 3) := by decide +kernel
theorem d_Bo_init_19 : decode b_Bo_init 19 = .ok (.iconst 0, 1) := by decide +kernel
theorem d_Bo_init_20 : decode b_Bo_init 20 = .ok (.istore_n 1, 1) := by decide +kernel
theorem d_Bo_init_21 : decode b_Bo_init 21 = .ok (.iload_n 1, 1) := by decide +kernel
theorem d_Bo_init_22 : decode b_Bo_init 22 = .ok (.iconst 4, 1) := by decide +kernel
theorem d_Bo_init_23 : decode b_Bo_init 23 = .ok (.if_icmp .ge 17, 3) := by decide +kernel
theorem d_Bo_init_26 : decode b_Bo_init 26 = .ok (.aload_n 0, 1) := by decide +kernel
theorem d_Bo_init_27 : decode b_Bo_init 27 = .ok (.getfield 15, 3) := by decide +kernel
theorem d_Bo_init_30 : decode b_Bo_init 30 = .ok (.iload_n 1, 1) := by decide +kernel
theorem d_Bo_init_31 : decode b_Bo_init 31 = .ok (.bipush 100, 2) := by decide +kernel
theorem d_Bo_init_33 : decode b_Bo_init 33 = .ok (.iastore, 1) := by decide +kernel
theorem d_Bo_init_34 : decode b_Bo_init 34 = .ok (.iinc 1 1, 3) := by decide +kernel
theorem d_Bo_init_37 : decode b_Bo_init 37 = .ok (.goto (-16), 3) := by decide +kernel
theorem d_Bo_init_40 : decode b_Bo_init 40 = .ok (.return_, 1) := by decide +kernel
theorem d_Bo_enter_0 : decode b_Bo_enter 0 = .ok (.aload_n 0, 1) := by decide +kernel
theorem d_Bo_enter_1 : decode b_Bo_enter 1 = .ok (.getfield 9, 3) := by decide +kernel
theorem d_Bo_enter_4 : decode b_Bo_enter 4 = .ok (.aload_n 0, 1) := by decide +kernel
theorem d_Bo_enter_5 : decode b_Bo_enter 5 = .ok (.getfield 18, 3) := by decide +kernel
theorem d_Bo_enter_8 : decode b_Bo_enter 8 = .ok (.iload_n 1, 1) := by decide +kernel
theorem d_Bo_enter_9 : decode b_Bo_enter 9 = .ok (.iastore, 1) := by decide +kernel
theorem d_Bo_enter_10 : decode b_Bo_enter 10 = .ok (.aload_n 0, 1) := by decide +kernel
theorem d_Bo_enter_11 : decode b_Bo_enter 11 = .ok (.dup, 1) := by decide +kernel
theorem d_Bo_enter_12 : decode b_Bo_enter 12 = .ok (.getfield 18, 3) := by decide +kernel
theorem d_Bo_enter_15 : decode b_Bo_enter 15 = .ok (.iconst 1, 1) := by decide +kernel
theorem d_Bo_enter_16 : decode b_Bo_enter 16 = .ok (.iadd, 1) := by decide +kernel
theorem d_Bo_enter_17 : decode b_Bo_enter 17 = .ok (.putfield 18, 3) := by decide +kernel
theorem d_Bo_enter_20 : decode b_Bo_enter 20 = .ok (.aload_n 0, 1) := by decide +kernel
theorem d_Bo_enter_21 : decode b_Bo_enter 21 = .ok (.dup, 1) := by decide +kernel
theorem d_Bo_enter_22 : decode b_Bo_enter 22 = .ok (.getfield 22, 3) := by decide +kernel
theorem d_Bo_enter_25 : decode b_Bo_enter 25 = .ok (.iload_n 1, 1) := by decide +kernel
theorem d_Bo_enter_26 : decode b_Bo_enter 26 = .ok (.invokestatic 26, 3) := by decide +kernel
theorem d_Bo_enter_29 : decode b_Bo_enter 29 = .ok (.lor, 1) := by decide +kernel
theorem d_Bo_enter_30 : decode b_Bo_enter 30 = .ok (.putfield 22, 3) := by decide +kernel
theorem d_Bo_enter_33 : decode b_Bo_enter 33 = .ok (.iload_n 2, 1) := by decide +kernel
theorem d_Bo_enter_34 : decode b_Bo_enter 34 = .ok (.sipush 1000, 3) := by decide +kernel
theorem d_Bo_enter_37 : decode b_Bo_enter 37 = .ok (.idiv, 1) := by decide +kernel
theorem d_Bo_enter_38 : decode b_Bo_enter 38 = .ok (.istore_n 3, 1) := by decide +kernel
theorem d_Bo_enter_39 : decode b_Bo_enter 39 = .ok (.aload_n 0, 1) := by decide +kernel
theorem d_Bo_enter_40 : decode b_Bo_enter 40 = .ok (.getfield 15, 3) := by decide +kernel
theorem d_Bo_enter_43 : decode b_Bo_enter 43 = .ok (.iload_n 2, 1) := by decide +kernel
theorem d_Bo_enter_44 : decode b_Bo_enter 44 = .ok (.invokestatic 30, 3) := by decide +kernel
theorem d_Bo_enter_47 : decode b_Bo_enter 47 = .ok (.iaload, 1) := by decide +kernel
theorem d_Bo_enter_48 : decode b_Bo_enter 48 = .ok (.iload_n 3, 1) := by decide +kernel
theorem d_Bo_enter_49 : decode b_Bo_enter 49 = .ok (.if_icmp .lt 29, 3) := by decide +kernel
theorem d_Bo_enter_52 : decode b_Bo_enter 52 = .ok (.aload_n 0, 1) := by decide +kernel
theorem d_Bo_enter_53 : decode b_Bo_enter 53 = .ok (.getfield 15, 3) := by decide +kernel
theorem d_Bo_enter_56 : decode b_Bo_enter 56 = .ok (.iload_n 2, 1) := by decide +kernel
theorem d_Bo_enter_57 : decode b_Bo_enter 57 = .ok (.invokestatic 30, 3) := by decide +kernel
theorem d_Bo_enter_60 : decode b_Bo_enter 60 = .ok (.dup2, 1) := by decide +kernel
theorem d_Bo_enter_61 : decode b_Bo_enter 61 = .ok (.iaload, 1) := by decide +kernel
theorem d_Bo_enter_62 : decode b_Bo_enter 62 = .ok (.iload_n 3, 1) := by decide +kernel
theorem d_Bo_enter_63 : decode b_Bo_enter 63 = .ok (.isub, 1) := by decide +kernel
theorem d_Bo_enter_64 : decode b_Bo_enter 64 = .ok (.iastore, 1) := by decide +kernel
theorem d_Bo_enter_65 : decode b_Bo_enter 65 = .ok (.aload_n 0, 1) := by decide +kernel
theorem d_Bo_enter_66 : decode b_Bo_enter 66 = .ok (.getfield 15, 3) := by decide +kernel
theorem d_Bo_enter_69 : decode b_Bo_enter 69 = .ok (.iload_n 2, 1) := by decide +kernel
theorem d_Bo_enter_70 : decode b_Bo_enter 70 = .ok (.invokestatic 34, 3) := by decide +kernel
theorem d_Bo_enter_73 : decode b_Bo_enter 73 = .ok (.dup2, 1) := by decide +kernel
theorem d_Bo_enter_74 : decode b_Bo_enter 74 = .ok (.iaload, 1) := by decide +kernel
theorem d_Bo_enter_75 : decode b_Bo_enter 75 = .ok (.iload_n 3, 1) := by decide +kernel
theorem d_Bo_enter_76 : decode b_Bo_enter 76 = .ok (.iadd, 1) := by decide +kernel
theorem d_Bo_enter_77 : decode b_Bo_enter 77 = .ok (.iastore, 1) := by decide +kernel
theorem d_Bo_enter_78 : decode b_Bo_enter 78 = .ok (.return_, 1) := by decide +kernel
theorem d_Gr_init_0 : decode b_Gr_init 0 = .ok (.aload_n 0, 1) := by decide +kernel
theorem d_Gr_init_1 : decode b_Gr_init 1 = .ok (.invokespecial 3, 3) := by decide +kernel
theorem d_Gr_init_4 : decode b_Gr_init 4 = .ok (.aload_n 0, 1) := by decide +kernel
theorem d_Gr_init_5 : decode b_Gr_init 5 = .ok (.bipush 48, 2) := by decide +kernel
theorem d_Gr_init_7 : decode b_Gr_init 7 = .ok (.newarray .int, 2) := by decide +kernel
theorem d_Gr_init_9 : decode b_Gr_init 9 = .ok (.putfield 9, 3) := by decide +kernel
theorem d_Gr_init_12 : decode b_Gr_init 12 = .ok (.aload_n 0, 1) := by decide +kernel
theorem d_Gr_init_13 : decode b_Gr_init 13 = .ok (.bipush 48, 2) := by decide +kernel
theorem d_Gr_init_15 : decode b_Gr_init 15 = .ok (.newarray .long, 2) := by decide +kernel
theorem d_Gr_init_17 : decode b_Gr_init 17 = .ok (.putfield 15, 3) := by decide +kernel
theorem d_Gr_init_20 : decode b_Gr_init 20 = .ok (.aload_n 0, 1) := by decide +kernel
theorem d_Gr_init_21 : decode b_Gr_init 21 = .ok (.bipush 48, 2) := by decide +kernel
theorem d_Gr_init_23 : decode b_Gr_init 23 = .ok (.newarray .long, 2) := by decide +kernel
theorem d_Gr_init_25 : decode b_Gr_init 25 = .ok (.putfield 19, 3) := by decide +kernel
theorem d_Gr_init_28 : decode b_Gr_init 28 = .ok (.aload_n 0, 1) := by decide +kernel
theorem d_Gr_init_29 : decode b_Gr_init 29 = .ok (.aload_n 1, 1) := by decide +kernel
theorem d_Gr_init_30 : decode b_Gr_init 30 = .ok (.putfield 22, 3) := by decide +kernel
theorem d_Gr_init_33 : decode b_Gr_init 33 = .ok (.return_, 1) := by decide +kernel
theorem d_Gr_has_0 : decode b_Gr_has 0 = .ok (.aload_n 0, 1) := by decide +kernel
theorem d_Gr_has_1 : decode b_Gr_has 1 = .ok (.getfield 26, 3) := by decide +kernel
theorem d_Gr_has_4 : decode b_Gr_has 4 = .ok (.iload_n 1, 1) := by decide +kernel
theorem d_Gr_has_5 : decode b_Gr_has 5 = .ok (.invokestatic 30, 3) := by decide +kernel
theorem d_Gr_has_8 : decode b_Gr_has 8 = .ok (.ireturn, 1) := by decide +kernel
theorem d_Gr_accept_0 : decode b_Gr_accept 0 = .ok (.aload_n 0, 1) := by decide +kernel
theorem d_Gr_accept_1 : decode b_Gr_accept 1 = .ok (.getfield 9, 3) := by decide +kernel
theorem d_Gr_accept_4 : decode b_Gr_accept 4 = .ok (.aload_n 0, 1) := by decide +kernel
theorem d_Gr_accept_5 : decode b_Gr_accept 5 = .ok (.getfield 22, 3) := by decide +kernel
theorem d_Gr_accept_8 : decode b_Gr_accept 8 = .ok (.getfield 34, 3) := by decide +kernel
theorem d_Gr_accept_11 : decode b_Gr_accept 11 = .ok (.iload_n 1, 1) := by decide +kernel
theorem d_Gr_accept_12 : decode b_Gr_accept 12 = .ok (.iaload, 1) := by decide +kernel
theorem d_Gr_accept_13 : decode b_Gr_accept 13 = .ok (.iload_n 1, 1) := by decide +kernel
theorem d_Gr_accept_14 : decode b_Gr_accept 14 = .ok (.iastore, 1) := by decide +kernel
theorem d_Gr_accept_15 : decode b_Gr_accept 15 = .ok (.iconst 0, 1) := by decide +kernel
theorem d_Gr_accept_16 : decode b_Gr_accept 16 = .ok (.istore_n 2, 1) := by decide +kernel
theorem d_Gr_accept_17 : decode b_Gr_accept 17 = .ok (.iload_n 2, 1) := by decide +kernel
theorem d_Gr_accept_18 : decode b_Gr_accept 18 = .ok (.bipush 48, 2) := by decide +kernel
theorem d_Gr_accept_20 : decode b_Gr_accept 20 = .ok (.if_icmp .ge 31, 3) := by decide +kernel
theorem d_Gr_accept_23 : decode b_Gr_accept 23 = .ok (.aload_n 0, 1) := by decide +kernel
theorem d_Gr_accept_24 : decode b_Gr_accept 24 = .ok (.getfield 9, 3) := by decide +kernel
theorem d_Gr_accept_27 : decode b_Gr_accept 27 = .ok (.iload_n 2, 1) := by decide +kernel
theorem d_Gr_accept_28 : decode b_Gr_accept 28 = .ok (.iaload, 1) := by decide +kernel
theorem d_Gr_accept_29 : decode b_Gr_accept 29 = .ok (.ifCond .eq 16, 3) := by decide +kernel
theorem d_Gr_accept_32 : decode b_Gr_accept 32 = .ok (.aload_n 0, 1) := by decide +kernel
theorem d_Gr_accept_33 : decode b_Gr_accept 33 = .ok (.iload_n 2, 1) := by decide +kernel
theorem d_Gr_accept_34 : decode b_Gr_accept 34 = .ok (.invokevirtual 39, 3) := by decide +kernel
theorem d_Gr_accept_37 : decode b_Gr_accept 37 = .ok (.ifCond .ne 8, 3) := by decide +kernel
theorem d_Gr_accept_40 : decode b_Gr_accept 40 = .ok (.aload_n 0, 1) := by decide +kernel
theorem d_Gr_accept_41 : decode b_Gr_accept 41 = .ok (.iload_n 2, 1) := by decide +kernel
theorem d_Gr_accept_42 : decode b_Gr_accept 42 = .ok (.invokevirtual 43, 3) := by decide +kernel
theorem d_Gr_accept_45 : decode b_Gr_accept 45 = .ok (.iinc 2 1, 3) := by decide +kernel
theorem d_Gr_accept_48 : decode b_Gr_accept 48 = .ok (.goto (-31), 3) := by decide +kernel
theorem d_Gr_accept_51 : decode b_Gr_accept 51 = .ok (.return_, 1) := by decide +kernel
theorem d_Gr_addIfAllowed_0 : decode b_Gr_addIfAllowed 0 = .ok (.aload_n 0, 1) := by decide +kernel
theorem d_Gr_addIfAllowed_1 : decode b_Gr_addIfAllowed 1 = .ok (.getfield 9, 3) := by decide +kernel
theorem d_Gr_addIfAllowed_4 : decode b_Gr_addIfAllowed 4 = .ok (.iload_n 1, 1) := by decide +kernel
theorem d_Gr_addIfAllowed_5 : decode b_Gr_addIfAllowed 5 = .ok (.iaload, 1) := by decide +kernel
theorem d_Gr_addIfAllowed_6 : decode b_Gr_addIfAllowed 6 = .ok (.istore_n 2, 1) := by decide +kernel
theorem d_Gr_addIfAllowed_7 : decode b_Gr_addIfAllowed 7 = .ok (.aload_n 0, 1) := by decide +kernel
theorem d_Gr_addIfAllowed_8 : decode b_Gr_addIfAllowed 8 = .ok (.getfield 22, 3) := by decide +kernel
theorem d_Gr_addIfAllowed_11 : decode b_Gr_addIfAllowed 11 = .ok (.iload_n 2, 1) := by decide +kernel
theorem d_Gr_addIfAllowed_12 : decode b_Gr_addIfAllowed 12 = .ok (.invokevirtual 47, 3) := by decide +kernel
theorem d_Gr_addIfAllowed_15 : decode b_Gr_addIfAllowed 15 = .ok (.ifCond .ne 4, 3) := by decide +kernel
theorem d_Gr_addIfAllowed_18 : decode b_Gr_addIfAllowed 18 = .ok (.return_, 1) := by decide +kernel
theorem d_Gr_addIfAllowed_19 : decode b_Gr_addIfAllowed 19 = .ok (.aload_n 0, 1) := by decide +kernel
theorem d_Gr_addIfAllowed_20 : decode b_Gr_addIfAllowed 20 = .ok (.getfield 22, 3) := by decide +kernel
theorem d_Gr_addIfAllowed_23 : decode b_Gr_addIfAllowed 23 = .ok (.iload_n 2, 1) := by decide +kernel
theorem d_Gr_addIfAllowed_24 : decode b_Gr_addIfAllowed 24 = .ok (.invokevirtual 50, 3) := by decide +kernel
theorem d_Gr_addIfAllowed_27 : decode b_Gr_addIfAllowed 27 = .ok (.lstore_n 3, 1) := by decide +kernel
theorem d_Gr_addIfAllowed_28 : decode b_Gr_addIfAllowed 28 = .ok (.lload_n 3, 1) := by decide +kernel
theorem d_Gr_addIfAllowed_29 : decode b_Gr_addIfAllowed 29 = .ok (.aload_n 0, 1) := by decide +kernel
theorem d_Gr_addIfAllowed_30 : decode b_Gr_addIfAllowed 30 = .ok (.getfield 22, 3) := by decide +kernel
theorem d_Gr_addIfAllowed_33 : decode b_Gr_addIfAllowed 33 = .ok (.getfield 54, 3) := by decide +kernel
theorem d_Gr_addIfAllowed_36 : decode b_Gr_addIfAllowed 36 = .ok (.iload_n 2, 1) := by decide +kernel
theorem d_Gr_addIfAllowed_37 : decode b_Gr_addIfAllowed 37 = .ok (.laload, 1) := by decide +kernel
theorem d_Gr_addIfAllowed_38 : decode b_Gr_addIfAllowed 38 = .ok (.lor, 1) := by decide +kernel
theorem d_Gr_addIfAllowed_39 : decode b_Gr_addIfAllowed 39 = .ok (.lstore 5, 2) := by decide +kernel
theorem d_Gr_addIfAllowed_41 : decode b_Gr_addIfAllowed 41 = .ok (.lload 5, 2) := by decide +kernel
theorem d_Gr_addIfAllowed_43 : decode b_Gr_addIfAllowed 43 = .ok (.aload_n 0, 1) := by decide +kernel
theorem d_Gr_addIfAllowed_44 : decode b_Gr_addIfAllowed 44 = .ok (.getfield 26, 3) := by decide +kernel
theorem d_Gr_addIfAllowed_47 : decode b_Gr_addIfAllowed 47 = .ok (.ldc2_w 57, 3) := by decide +kernel
theorem d_Gr_addIfAllowed_50 : decode b_Gr_addIfAllowed 50 = .ok (.lxor, 1) := by decide +kernel
theorem d_Gr_addIfAllowed_51 : decode b_Gr_addIfAllowed 51 = .ok (.land, 1) := by decide +kernel
theorem d_Gr_addIfAllowed_52 : decode b_Gr_addIfAllowed 52 = .ok (.lconst 0, 1) := by decide +kernel
theorem d_Gr_addIfAllowed_53 : decode b_Gr_addIfAllowed 53 = .ok (.lcmp, 1) := by decide +kernel
theorem d_Gr_addIfAllowed_54 : decode b_Gr_addIfAllowed 54 = .ok (.ifCond .ne 45, 3) := by decide +kernel
theorem d_Gr_addIfAllowed_57 : decode b_Gr_addIfAllowed 57 = .ok (.aload_n 0, 1) := by decide +kernel
theorem d_Gr_addIfAllowed_58 : decode b_Gr_addIfAllowed 58 = .ok (.getfield 15, 3) := by decide +kernel
theorem d_Gr_addIfAllowed_61 : decode b_Gr_addIfAllowed 61 = .ok (.iload_n 1, 1) := by decide +kernel
theorem d_Gr_addIfAllowed_62 : decode b_Gr_addIfAllowed 62 = .ok (.aload_n 0, 1) := by decide +kernel
theorem d_Gr_addIfAllowed_63 : decode b_Gr_addIfAllowed 63 = .ok (.getfield 15, 3) := by decide +kernel
theorem d_Gr_addIfAllowed_66 : decode b_Gr_addIfAllowed 66 = .ok (.lload 5, 2) := by decide +kernel
theorem d_Gr_addIfAllowed_68 : decode b_Gr_addIfAllowed 68 = .ok (.invokestatic 59, 3) := by decide +kernel
theorem d_Gr_addIfAllowed_71 : decode b_Gr_addIfAllowed 71 = .ok (.lastore, 1) := by decide +kernel
theorem d_Gr_addIfAllowed_72 : decode b_Gr_addIfAllowed 72 = .ok (.aload_n 0, 1) := by decide +kernel
theorem d_Gr_addIfAllowed_73 : decode b_Gr_addIfAllowed 73 = .ok (.getfield 19, 3) := by decide +kernel
theorem d_Gr_addIfAllowed_76 : decode b_Gr_addIfAllowed 76 = .ok (.iload_n 1, 1) := by decide +kernel
theorem d_Gr_addIfAllowed_77 : decode b_Gr_addIfAllowed 77 = .ok (.aload_n 0, 1) := by decide +kernel
theorem d_Gr_addIfAllowed_78 : decode b_Gr_addIfAllowed 78 = .ok (.getfield 19, 3) := by decide +kernel
theorem d_Gr_addIfAllowed_81 : decode b_Gr_addIfAllowed 81 = .ok (.lload_n 3, 1) := by decide +kernel
theorem d_Gr_addIfAllowed_82 : decode b_Gr_addIfAllowed 82 = .ok (.invokestatic 59, 3) := by decide +kernel
theorem d_Gr_addIfAllowed_85 : decode b_Gr_addIfAllowed 85 = .ok (.lastore, 1) := by decide +kernel
theorem d_Gr_addIfAllowed_86 : decode b_Gr_addIfAllowed 86 = .ok (.aload_n 0, 1) := by decide +kernel
theorem d_Gr_addIfAllowed_87 : decode b_Gr_addIfAllowed 87 = .ok (.dup, 1) := by decide +kernel
theorem d_Gr_addIfAllowed_88 : decode b_Gr_addIfAllowed 88 = .ok (.getfield 26, 3) := by decide +kernel
theorem d_Gr_addIfAllowed_91 : decode b_Gr_addIfAllowed 91 = .ok (.iload_n 1, 1) := by decide +kernel
theorem d_Gr_addIfAllowed_92 : decode b_Gr_addIfAllowed 92 = .ok (.invokestatic 63, 3) := by decide +kernel
theorem d_Gr_addIfAllowed_95 : decode b_Gr_addIfAllowed 95 = .ok (.lor, 1) := by decide +kernel
theorem d_Gr_addIfAllowed_96 : decode b_Gr_addIfAllowed 96 = .ok (.putfield 26, 3) := by decide +kernel
theorem d_Gr_addIfAllowed_99 : decode b_Gr_addIfAllowed 99 = .ok (.return_, 1) := by decide +kernel
theorem d_Gr_follow_0 : decode b_Gr_follow 0 = .ok (.lload_n 1, 1) := by decide +kernel
theorem d_Gr_follow_1 : decode b_Gr_follow 1 = .ok (.lstore_n 3, 1) := by decide +kernel
theorem d_Gr_follow_2 : decode b_Gr_follow 2 = .ok (.iconst 0, 1) := by decide +kernel
theorem d_Gr_follow_3 : decode b_Gr_follow 3 = .ok (.istore 5, 2) := by decide +kernel
theorem d_Gr_follow_5 : decode b_Gr_follow 5 = .ok (.iload 5, 2) := by decide +kernel
theorem d_Gr_follow_7 : decode b_Gr_follow 7 = .ok (.bipush 48, 2) := by decide +kernel
theorem d_Gr_follow_9 : decode b_Gr_follow 9 = .ok (.if_icmp .ge 25, 3) := by decide +kernel
theorem d_Gr_follow_12 : decode b_Gr_follow 12 = .ok (.lload_n 1, 1) := by decide +kernel
theorem d_Gr_follow_13 : decode b_Gr_follow 13 = .ok (.iload 5, 2) := by decide +kernel
theorem d_Gr_follow_15 : decode b_Gr_follow 15 = .ok (.invokestatic 30, 3) := by decide +kernel
theorem d_Gr_follow_18 : decode b_Gr_follow 18 = .ok (.ifCond .eq 10, 3) := by decide +kernel
theorem d_Gr_follow_21 : decode b_Gr_follow 21 = .ok (.lload_n 3, 1) := by decide +kernel
theorem d_Gr_follow_22 : decode b_Gr_follow 22 = .ok (.aload_n 0, 1) := by decide +kernel
theorem d_Gr_follow_23 : decode b_Gr_follow 23 = .ok (.iload 5, 2) := by decide +kernel
theorem d_Gr_follow_25 : decode b_Gr_follow 25 = .ok (.laload, 1) := by decide +kernel
theorem d_Gr_follow_26 : decode b_Gr_follow 26 = .ok (.lor, 1) := by decide +kernel
theorem d_Gr_follow_27 : decode b_Gr_follow 27 = .ok (.lstore_n 3, 1) := by decide +kernel
theorem d_Gr_follow_28 : decode b_Gr_follow 28 = .ok (.iinc 5 1, 3) := by decide +kernel
theorem d_Gr_follow_31 : decode b_Gr_follow 31 = .ok (.goto (-26), 3) := by decide +kernel
theorem d_Gr_follow_34 : decode b_Gr_follow 34 = .ok (.lload_n 3, 1) := by decide +kernel
theorem d_Gr_follow_35 : decode b_Gr_follow 35 = .ok (.lreturn, 1) := by decide +kernel
theorem d_Gr_nodesIn_0 : decode b_Gr_nodesIn 0 = .ok (.aload_n 0, 1) := by decide +kernel
theorem d_Gr_nodesIn_1 : decode b_Gr_nodesIn 1 = .ok (.getfield 26, 3) := by decide +kernel
theorem d_Gr_nodesIn_4 : decode b_Gr_nodesIn 4 = .ok (.iload_n 1, 1) := by decide +kernel
theorem d_Gr_nodesIn_5 : decode b_Gr_nodesIn 5 = .ok (.iconst 0, 1) := by decide +kernel
theorem d_Gr_nodesIn_6 : decode b_Gr_nodesIn 6 = .ok (.invokestatic 66, 3) := by decide +kernel
theorem d_Gr_nodesIn_9 : decode b_Gr_nodesIn 9 = .ok (.lushr, 1) := by decide +kernel
theorem d_Gr_nodesIn_10 : decode b_Gr_nodesIn 10 = .ok (.l2i, 1) := by decide +kernel
theorem d_Gr_nodesIn_11 : decode b_Gr_nodesIn 11 = .ok (.bipush 15, 2) := by decide +kernel
theorem d_Gr_nodesIn_13 : decode b_Gr_nodesIn 13 = .ok (.iand, 1) := by decide +kernel
theorem d_Gr_nodesIn_14 : decode b_Gr_nodesIn 14 = .ok (.ireturn, 1) := by decide +kernel
theorem d_Gr_hasQuorumIn_0 : decode b_Gr_hasQuorumIn 0 = .ok (.aload_n 0, 1) := by decide +kernel
theorem d_Gr_hasQuorumIn_1 : decode b_Gr_hasQuorumIn 1 = .ok (.iload_n 1, 1) := by decide +kernel
theorem d_Gr_hasQuorumIn_2 : decode b_Gr_hasQuorumIn 2 = .ok (.invokevirtual 70, 3) := by decide +kernel
theorem d_Gr_hasQuorumIn_5 : decode b_Gr_hasQuorumIn 5 = .ok (.invokestatic 74, 3) := by decide +kernel
theorem d_Gr_hasQuorumIn_8 : decode b_Gr_hasQuorumIn 8 = .ok (.iconst 3, 1) := by decide +kernel
theorem d_Gr_hasQuorumIn_9 : decode b_Gr_hasQuorumIn 9 = .ok (.if_icmp .lt 7, 3) := by decide +kernel
theorem d_Gr_hasQuorumIn_12 : decode b_Gr_hasQuorumIn 12 = .ok (.iconst 1, 1) := by decide +kernel
theorem d_Gr_hasQuorumIn_13 : decode b_Gr_hasQuorumIn 13 = .ok (.goto 4, 3) := by decide +kernel
theorem d_Gr_hasQuorumIn_16 : decode b_Gr_hasQuorumIn 16 = .ok (.iconst 0, 1) := by decide +kernel
theorem d_Gr_hasQuorumIn_17 : decode b_Gr_hasQuorumIn 17 = .ok (.ireturn, 1) := by decide +kernel
theorem d_Gr_leadsStrongly_0 : decode b_Gr_leadsStrongly 0 = .ok (.aload_n 0, 1) := by decide +kernel
theorem d_Gr_leadsStrongly_1 : decode b_Gr_leadsStrongly 1 = .ok (.getfield 19, 3) := by decide +kernel
theorem d_Gr_leadsStrongly_4 : decode b_Gr_leadsStrongly 4 = .ok (.iload_n 1, 1) := by decide +kernel
theorem d_Gr_leadsStrongly_5 : decode b_Gr_leadsStrongly 5 = .ok (.laload, 1) := by decide +kernel
theorem d_Gr_leadsStrongly_6 : decode b_Gr_leadsStrongly 6 = .ok (.iload_n 2, 1) := by decide +kernel
theorem d_Gr_leadsStrongly_7 : decode b_Gr_leadsStrongly 7 = .ok (.invokestatic 30, 3) := by decide +kernel
theorem d_Gr_leadsStrongly_10 : decode b_Gr_leadsStrongly 10 = .ok (.ireturn, 1) := by decide +kernel
theorem d_Gr_supportFrom_0 : decode b_Gr_supportFrom 0 = .ok (.iconst 0, 1) := by decide +kernel
theorem d_Gr_supportFrom_1 : decode b_Gr_supportFrom 1 = .ok (.istore_n 3, 1) := by decide +kernel
theorem d_Gr_supportFrom_2 : decode b_Gr_supportFrom 2 = .ok (.iconst 0, 1) := by decide +kernel
theorem d_Gr_supportFrom_3 : decode b_Gr_supportFrom 3 = .ok (.istore 4, 2) := by decide +kernel
theorem d_Gr_supportFrom_5 : decode b_Gr_supportFrom 5 = .ok (.iload 4, 2) := by decide +kernel
theorem d_Gr_supportFrom_7 : decode b_Gr_supportFrom 7 = .ok (.iconst 4, 1) := by decide +kernel
theorem d_Gr_supportFrom_8 : decode b_Gr_supportFrom 8 = .ok (.if_icmp .ge 26, 3) := by decide +kernel
theorem d_Gr_supportFrom_11 : decode b_Gr_supportFrom 11 = .ok (.aload_n 0, 1) := by decide +kernel
theorem d_Gr_supportFrom_12 : decode b_Gr_supportFrom 12 = .ok (.iload_n 1, 1) := by decide +kernel
theorem d_Gr_supportFrom_13 : decode b_Gr_supportFrom 13 = .ok (.iload 4, 2) := by decide +kernel
theorem d_Gr_supportFrom_15 : decode b_Gr_supportFrom 15 = .ok (.invokestatic 66, 3) := by decide +kernel
theorem d_Gr_supportFrom_18 : decode b_Gr_supportFrom 18 = .ok (.iload_n 2, 1) := by decide +kernel
theorem d_Gr_supportFrom_19 : decode b_Gr_supportFrom 19 = .ok (.invokevirtual 79, 3) := by decide +kernel
theorem d_Gr_supportFrom_22 : decode b_Gr_supportFrom 22 = .ok (.ifCond .eq 6, 3) := by decide +kernel
theorem d_Gr_supportFrom_25 : decode b_Gr_supportFrom 25 = .ok (.iinc 3 1, 3) := by decide +kernel
theorem d_Gr_supportFrom_28 : decode b_Gr_supportFrom 28 = .ok (.iinc 4 1, 3) := by decide +kernel
theorem d_Gr_supportFrom_31 : decode b_Gr_supportFrom 31 = .ok (.goto (-26), 3) := by decide +kernel
theorem d_Gr_supportFrom_34 : decode b_Gr_supportFrom 34 = .ok (.iload_n 3, 1) := by decide +kernel
theorem d_Gr_supportFrom_35 : decode b_Gr_supportFrom 35 = .ok (.ireturn, 1) := by decide +kernel
theorem d_Gr_weakPlacesFor_0 : decode b_Gr_weakPlacesFor 0 = .ok (.aload_n 0, 1) := by decide +kernel
theorem d_Gr_weakPlacesFor_1 : decode b_Gr_weakPlacesFor 1 = .ok (.iload_n 1, 1) := by decide +kernel
theorem d_Gr_weakPlacesFor_2 : decode b_Gr_weakPlacesFor 2 = .ok (.iconst 1, 1) := by decide +kernel
theorem d_Gr_weakPlacesFor_3 : decode b_Gr_weakPlacesFor 3 = .ok (.isub, 1) := by decide +kernel
theorem d_Gr_weakPlacesFor_4 : decode b_Gr_weakPlacesFor 4 = .ok (.invokevirtual 70, 3) := by decide +kernel
theorem d_Gr_weakPlacesFor_7 : decode b_Gr_weakPlacesFor 7 = .ok (.i2l, 1) := by decide +kernel
theorem d_Gr_weakPlacesFor_8 : decode b_Gr_weakPlacesFor 8 = .ok (.iload_n 1, 1) := by decide +kernel
theorem d_Gr_weakPlacesFor_9 : decode b_Gr_weakPlacesFor 9 = .ok (.iconst 1, 1) := by decide +kernel
theorem d_Gr_weakPlacesFor_10 : decode b_Gr_weakPlacesFor 10 = .ok (.isub, 1) := by decide +kernel
theorem d_Gr_weakPlacesFor_11 : decode b_Gr_weakPlacesFor 11 = .ok (.iconst 0, 1) := by decide +kernel
theorem d_Gr_weakPlacesFor_12 : decode b_Gr_weakPlacesFor 12 = .ok (.invokestatic 66, 3) := by decide +kernel
theorem d_Gr_weakPlacesFor_15 : decode b_Gr_weakPlacesFor 15 = .ok (.lshl, 1) := by decide +kernel
theorem d_Gr_weakPlacesFor_16 : decode b_Gr_weakPlacesFor 16 = .ok (.lstore_n 2, 1) := by decide +kernel
theorem d_Gr_weakPlacesFor_17 : decode b_Gr_weakPlacesFor 17 = .ok (.aload_n 0, 1) := by decide +kernel
theorem d_Gr_weakPlacesFor_18 : decode b_Gr_weakPlacesFor 18 = .ok (.getfield 15, 3) := by decide +kernel
theorem d_Gr_weakPlacesFor_21 : decode b_Gr_weakPlacesFor 21 = .ok (.lload_n 2, 1) := by decide +kernel
theorem d_Gr_weakPlacesFor_22 : decode b_Gr_weakPlacesFor 22 = .ok (.invokestatic 59, 3) := by decide +kernel
theorem d_Gr_weakPlacesFor_25 : decode b_Gr_weakPlacesFor 25 = .ok (.lstore 4, 2) := by decide +kernel
theorem d_Gr_weakPlacesFor_27 : decode b_Gr_weakPlacesFor 27 = .ok (.lconst 0, 1) := by decide +kernel
theorem d_Gr_weakPlacesFor_28 : decode b_Gr_weakPlacesFor 28 = .ok (.lstore 6, 2) := by decide +kernel
theorem d_Gr_weakPlacesFor_30 : decode b_Gr_weakPlacesFor 30 = .ok (.iload_n 1, 1) := by decide +kernel
theorem d_Gr_weakPlacesFor_31 : decode b_Gr_weakPlacesFor 31 = .ok (.iconst 2, 1) := by decide +kernel
theorem d_Gr_weakPlacesFor_32 : decode b_Gr_weakPlacesFor 32 = .ok (.isub, 1) := by decide +kernel
theorem d_Gr_weakPlacesFor_33 : decode b_Gr_weakPlacesFor 33 = .ok (.istore 8, 2) := by decide +kernel
theorem d_Gr_weakPlacesFor_35 : decode b_Gr_weakPlacesFor 35 = .ok (.iload 8, 2) := by decide +kernel
theorem d_Gr_weakPlacesFor_37 : decode b_Gr_weakPlacesFor 37 = .ok (.iconst 1, 1) := by decide +kernel
theorem d_Gr_weakPlacesFor_38 : decode b_Gr_weakPlacesFor 38 = .ok (.if_icmp .lt 80, 3) := by decide +kernel
theorem d_Gr_weakPlacesFor_41 : decode b_Gr_weakPlacesFor 41 = .ok (.iconst 0, 1) := by decide +kernel
theorem d_Gr_weakPlacesFor_42 : decode b_Gr_weakPlacesFor 42 = .ok (.istore 9, 2) := by decide +kernel
theorem d_Gr_weakPlacesFor_44 : decode b_Gr_weakPlacesFor 44 = .ok (.iload 9, 2) := by decide +kernel
theorem d_Gr_weakPlacesFor_46 : decode b_Gr_weakPlacesFor 46 = .ok (.iconst 4, 1) := by decide +kernel
theorem d_Gr_weakPlacesFor_47 : decode b_Gr_weakPlacesFor 47 = .ok (.if_icmp .ge 65, 3) := by decide +kernel
theorem d_Gr_weakPlacesFor_50 : decode b_Gr_weakPlacesFor 50 = .ok (.iload 8, 2) := by decide +kernel
theorem d_Gr_weakPlacesFor_52 : decode b_Gr_weakPlacesFor 52 = .ok (.iload 9, 2) := by decide +kernel
theorem d_Gr_weakPlacesFor_54 : decode b_Gr_weakPlacesFor 54 = .ok (.invokestatic 66, 3) := by decide +kernel
theorem d_Gr_weakPlacesFor_57 : decode b_Gr_weakPlacesFor 57 = .ok (.istore 10, 2) := by decide +kernel
theorem d_Gr_weakPlacesFor_59 : decode b_Gr_weakPlacesFor 59 = .ok (.aload_n 0, 1) := by decide +kernel
theorem d_Gr_weakPlacesFor_60 : decode b_Gr_weakPlacesFor 60 = .ok (.iload 10, 2) := by decide +kernel
theorem d_Gr_weakPlacesFor_62 : decode b_Gr_weakPlacesFor 62 = .ok (.invokevirtual 39, 3) := by decide +kernel
theorem d_Gr_weakPlacesFor_65 : decode b_Gr_weakPlacesFor 65 = .ok (.ifCond .eq 41, 3) := by decide +kernel
theorem d_Gr_weakPlacesFor_68 : decode b_Gr_weakPlacesFor 68 = .ok (.lload 4, 2) := by decide +kernel
theorem d_Gr_weakPlacesFor_70 : decode b_Gr_weakPlacesFor 70 = .ok (.iload 10, 2) := by decide +kernel
theorem d_Gr_weakPlacesFor_72 : decode b_Gr_weakPlacesFor 72 = .ok (.invokestatic 30, 3) := by decide +kernel
theorem d_Gr_weakPlacesFor_75 : decode b_Gr_weakPlacesFor 75 = .ok (.ifCond .ne 31, 3) := by decide +kernel
theorem d_Gr_weakPlacesFor_78 : decode b_Gr_weakPlacesFor 78 = .ok (.lload 6, 2) := by decide +kernel
theorem d_Gr_weakPlacesFor_80 : decode b_Gr_weakPlacesFor 80 = .ok (.iload 10, 2) := by decide +kernel
theorem d_Gr_weakPlacesFor_82 : decode b_Gr_weakPlacesFor 82 = .ok (.invokestatic 63, 3) := by decide +kernel
theorem d_Gr_weakPlacesFor_85 : decode b_Gr_weakPlacesFor 85 = .ok (.lor, 1) := by decide +kernel
theorem d_Gr_weakPlacesFor_86 : decode b_Gr_weakPlacesFor 86 = .ok (.lstore 6, 2) := by decide +kernel
theorem d_Gr_weakPlacesFor_88 : decode b_Gr_weakPlacesFor 88 = .ok (.lload 4, 2) := by decide +kernel
theorem d_Gr_weakPlacesFor_90 : decode b_Gr_weakPlacesFor 90 = .ok (.iload 10, 2) := by decide +kernel
theorem d_Gr_weakPlacesFor_92 : decode b_Gr_weakPlacesFor 92 = .ok (.invokestatic 63, 3) := by decide +kernel
theorem d_Gr_weakPlacesFor_95 : decode b_Gr_weakPlacesFor 95 = .ok (.aload_n 0, 1) := by decide +kernel
theorem d_Gr_weakPlacesFor_96 : decode b_Gr_weakPlacesFor 96 = .ok (.getfield 15, 3) := by decide +kernel
theorem d_Gr_weakPlacesFor_99 : decode b_Gr_weakPlacesFor 99 = .ok (.iload 10, 2) := by decide +kernel
theorem d_Gr_weakPlacesFor_101 : decode b_Gr_weakPlacesFor 101 = .ok (.laload, 1) := by decide +kernel
theorem d_Gr_weakPlacesFor_102 : decode b_Gr_weakPlacesFor 102 = .ok (.lor, 1) := by decide +kernel
theorem d_Gr_weakPlacesFor_103 : decode b_Gr_weakPlacesFor 103 = .ok (.lor, 1) := by decide +kernel
theorem d_Gr_weakPlacesFor_104 : decode b_Gr_weakPlacesFor 104 = .ok (.lstore 4, 2) := by decide +kernel
theorem d_Gr_weakPlacesFor_106 : decode b_Gr_weakPlacesFor 106 = .ok (.iinc 9 1, 3) := by decide +kernel
theorem d_Gr_weakPlacesFor_109 : decode b_Gr_weakPlacesFor 109 = .ok (.goto (-65), 3) := by decide +kernel
theorem d_Gr_weakPlacesFor_112 : decode b_Gr_weakPlacesFor 112 = .ok (.iinc 8 (-1), 3) := by decide +kernel
theorem d_Gr_weakPlacesFor_115 : decode b_Gr_weakPlacesFor 115 = .ok (.goto (-80), 3) := by decide +kernel
theorem d_Gr_weakPlacesFor_118 : decode b_Gr_weakPlacesFor 118 = .ok (.lload 6, 2) := by decide +kernel
theorem d_Gr_weakPlacesFor_120 : decode b_Gr_weakPlacesFor 120 = .ok (.lreturn, 1) := by decide +kernel
theorem d_Ma_init_0 : decode b_Ma_init 0 = .ok (.aload_n 0, 1) := by decide +kernel
theorem d_Ma_init_1 : decode b_Ma_init 1 = .ok (.invokespecial 3, 3) := by decide +kernel
theorem d_Ma_init_4 : decode b_Ma_init 4 = .ok (.aload_n 0, 1) := by decide +kernel
theorem d_Ma_init_5 : decode b_Ma_init 5 = .ok (.sipush 2240, 3) := by decide +kernel
theorem d_Ma_init_8 : decode b_Ma_init 8 = .ok (.newarray .int, 2) := by decide +kernel
theorem d_Ma_init_10 : decode b_Ma_init 10 = .ok (.putfield 9, 3) := by decide +kernel
theorem d_Ma_init_13 : decode b_Ma_init 13 = .ok (.aload_n 0, 1) := by decide +kernel
theorem d_Ma_init_14 : decode b_Ma_init 14 = .ok (.iload_n 1, 1) := by decide +kernel
theorem d_Ma_init_15 : decode b_Ma_init 15 = .ok (.putfield 15, 3) := by decide +kernel
theorem d_Ma_init_18 : decode b_Ma_init 18 = .ok (.return_, 1) := by decide +kernel
theorem d_Ma_send_0 : decode b_Ma_send 0 = .ok (.aload_n 0, 1) := by decide +kernel
theorem d_Ma_send_1 : decode b_Ma_send 1 = .ok (.getfield 19, 3) := by decide +kernel
theorem d_Ma_send_4 : decode b_Ma_send 4 = .ok (.sipush 2240, 3) := by decide +kernel
theorem d_Ma_send_7 : decode b_Ma_send 7 = .ok (.if_icmp .ge 37, 3) := by decide +kernel
theorem d_Ma_send_10 : decode b_Ma_send 10 = .ok (.aload_n 0, 1) := by decide +kernel
theorem d_Ma_send_11 : decode b_Ma_send 11 = .ok (.getfield 9, 3) := by decide +kernel
theorem d_Ma_send_14 : decode b_Ma_send 14 = .ok (.aload_n 0, 1) := by decide +kernel
theorem d_Ma_send_15 : decode b_Ma_send 15 = .ok (.getfield 19, 3) := by decide +kernel
theorem d_Ma_send_18 : decode b_Ma_send 18 = .ok (.iload 4, 2) := by decide +kernel
theorem d_Ma_send_20 : decode b_Ma_send 20 = .ok (.bipush 6, 2) := by decide +kernel
theorem d_Ma_send_22 : decode b_Ma_send 22 = .ok (.ishl, 1) := by decide +kernel
theorem d_Ma_send_23 : decode b_Ma_send 23 = .ok (.iload_n 3, 1) := by decide +kernel
theorem d_Ma_send_24 : decode b_Ma_send 24 = .ok (.iconst 4, 1) := by decide +kernel
theorem d_Ma_send_25 : decode b_Ma_send 25 = .ok (.ishl, 1) := by decide +kernel
theorem d_Ma_send_26 : decode b_Ma_send 26 = .ok (.ior, 1) := by decide +kernel
theorem d_Ma_send_27 : decode b_Ma_send 27 = .ok (.iload_n 2, 1) := by decide +kernel
theorem d_Ma_send_28 : decode b_Ma_send 28 = .ok (.iconst 2, 1) := by decide +kernel
theorem d_Ma_send_29 : decode b_Ma_send 29 = .ok (.ishl, 1) := by decide +kernel
theorem d_Ma_send_30 : decode b_Ma_send 30 = .ok (.ior, 1) := by decide +kernel
theorem d_Ma_send_31 : decode b_Ma_send 31 = .ok (.iload_n 1, 1) := by decide +kernel
theorem d_Ma_send_32 : decode b_Ma_send 32 = .ok (.ior, 1) := by decide +kernel
theorem d_Ma_send_33 : decode b_Ma_send 33 = .ok (.iastore, 1) := by decide +kernel
theorem d_Ma_send_34 : decode b_Ma_send 34 = .ok (.aload_n 0, 1) := by decide +kernel
theorem d_Ma_send_35 : decode b_Ma_send 35 = .ok (.dup, 1) := by decide +kernel
theorem d_Ma_send_36 : decode b_Ma_send 36 = .ok (.getfield 19, 3) := by decide +kernel
theorem d_Ma_send_39 : decode b_Ma_send 39 = .ok (.iconst 1, 1) := by decide +kernel
theorem d_Ma_send_40 : decode b_Ma_send 40 = .ok (.iadd, 1) := by decide +kernel
theorem d_Ma_send_41 : decode b_Ma_send 41 = .ok (.putfield 19, 3) := by decide +kernel
theorem d_Ma_send_44 : decode b_Ma_send 44 = .ok (.return_, 1) := by decide +kernel
theorem d_Ma_broadcast_0 : decode b_Ma_broadcast 0 = .ok (.iconst 0, 1) := by decide +kernel
theorem d_Ma_broadcast_1 : decode b_Ma_broadcast 1 = .ok (.istore 4, 2) := by decide +kernel
theorem d_Ma_broadcast_3 : decode b_Ma_broadcast 3 = .ok (.iload 4, 2) := by decide +kernel
theorem d_Ma_broadcast_5 : decode b_Ma_broadcast 5 = .ok (.iconst 4, 1) := by decide +kernel
theorem d_Ma_broadcast_6 : decode b_Ma_broadcast 6 = .ok (.if_icmp .ge 27, 3) := by decide +kernel
theorem d_Ma_broadcast_9 : decode b_Ma_broadcast 9 = .ok (.iload 4, 2) := by decide +kernel
theorem d_Ma_broadcast_11 : decode b_Ma_broadcast 11 = .ok (.aload_n 0, 1) := by decide +kernel
theorem d_Ma_broadcast_12 : decode b_Ma_broadcast 12 = .ok (.getfield 15, 3) := by decide +kernel
theorem d_Ma_broadcast_15 : decode b_Ma_broadcast 15 = .ok (.if_icmp .eq 12, 3) := by decide +kernel
theorem d_Ma_broadcast_18 : decode b_Ma_broadcast 18 = .ok (.aload_n 0, 1) := by decide +kernel
theorem d_Ma_broadcast_19 : decode b_Ma_broadcast 19 = .ok (.iload_n 1, 1) := by decide +kernel
theorem d_Ma_broadcast_20 : decode b_Ma_broadcast 20 = .ok (.iload_n 2, 1) := by decide +kernel
theorem d_Ma_broadcast_21 : decode b_Ma_broadcast 21 = .ok (.iload 4, 2) := by decide +kernel
theorem d_Ma_broadcast_23 : decode b_Ma_broadcast 23 = .ok (.iload_n 3, 1) := by decide +kernel
theorem d_Ma_broadcast_24 : decode b_Ma_broadcast 24 = .ok (.invokevirtual 22, 3) := by decide +kernel
theorem d_Ma_broadcast_27 : decode b_Ma_broadcast 27 = .ok (.iinc 4 1, 3) := by decide +kernel
theorem d_Ma_broadcast_30 : decode b_Ma_broadcast 30 = .ok (.goto (-27), 3) := by decide +kernel
theorem d_Ma_broadcast_33 : decode b_Ma_broadcast 33 = .ok (.return_, 1) := by decide +kernel
theorem d_Ma_has_0 : decode b_Ma_has 0 = .ok (.iload_n 1, 1) := by decide +kernel
theorem d_Ma_has_1 : decode b_Ma_has 1 = .ok (.ifCond .lt 15, 3) := by decide +kernel
theorem d_Ma_has_4 : decode b_Ma_has 4 = .ok (.iload_n 1, 1) := by decide +kernel
theorem d_Ma_has_5 : decode b_Ma_has 5 = .ok (.aload_n 0, 1) := by decide +kernel
theorem d_Ma_has_6 : decode b_Ma_has 6 = .ok (.getfield 19, 3) := by decide +kernel
theorem d_Ma_has_9 : decode b_Ma_has 9 = .ok (.if_icmp .ge 7, 3) := by decide +kernel
theorem d_Ma_has_12 : decode b_Ma_has 12 = .ok (.iconst 1, 1) := by decide +kernel
theorem d_Ma_has_13 : decode b_Ma_has 13 = .ok (.goto 4, 3) := by decide +kernel
theorem d_Ma_has_16 : decode b_Ma_has 16 = .ok (.iconst 0, 1) := by decide +kernel
theorem d_Ma_has_17 : decode b_Ma_has 17 = .ok (.ireturn, 1) := by decide +kernel
theorem d_Ma_take_0 : decode b_Ma_take 0 = .ok (.aload_n 0, 1) := by decide +kernel
theorem d_Ma_take_1 : decode b_Ma_take 1 = .ok (.getfield 9, 3) := by decide +kernel
theorem d_Ma_take_4 : decode b_Ma_take 4 = .ok (.iload_n 1, 1) := by decide +kernel
theorem d_Ma_take_5 : decode b_Ma_take 5 = .ok (.iaload, 1) := by decide +kernel
theorem d_Ma_take_6 : decode b_Ma_take 6 = .ok (.istore_n 2, 1) := by decide +kernel
theorem d_Ma_take_7 : decode b_Ma_take 7 = .ok (.aload_n 0, 1) := by decide +kernel
theorem d_Ma_take_8 : decode b_Ma_take 8 = .ok (.dup, 1) := by decide +kernel
theorem d_Ma_take_9 : decode b_Ma_take 9 = .ok (.getfield 19, 3) := by decide +kernel
theorem d_Ma_take_12 : decode b_Ma_take 12 = .ok (.iconst 1, 1) := by decide +kernel
theorem d_Ma_take_13 : decode b_Ma_take 13 = .ok (.isub, 1) := by decide +kernel
theorem d_Ma_take_14 : decode b_Ma_take 14 = .ok (.putfield 19, 3) := by decide +kernel
theorem d_Ma_take_17 : decode b_Ma_take 17 = .ok (.aload_n 0, 1) := by decide +kernel
theorem d_Ma_take_18 : decode b_Ma_take 18 = .ok (.getfield 9, 3) := by decide +kernel
theorem d_Ma_take_21 : decode b_Ma_take 21 = .ok (.iload_n 1, 1) := by decide +kernel
theorem d_Ma_take_22 : decode b_Ma_take 22 = .ok (.iconst 1, 1) := by decide +kernel
theorem d_Ma_take_23 : decode b_Ma_take 23 = .ok (.iadd, 1) := by decide +kernel
theorem d_Ma_take_24 : decode b_Ma_take 24 = .ok (.aload_n 0, 1) := by decide +kernel
theorem d_Ma_take_25 : decode b_Ma_take 25 = .ok (.getfield 9, 3) := by decide +kernel
theorem d_Ma_take_28 : decode b_Ma_take 28 = .ok (.iload_n 1, 1) := by decide +kernel
theorem d_Ma_take_29 : decode b_Ma_take 29 = .ok (.aload_n 0, 1) := by decide +kernel
theorem d_Ma_take_30 : decode b_Ma_take 30 = .ok (.getfield 19, 3) := by decide +kernel
theorem d_Ma_take_33 : decode b_Ma_take 33 = .ok (.iload_n 1, 1) := by decide +kernel
theorem d_Ma_take_34 : decode b_Ma_take 34 = .ok (.isub, 1) := by decide +kernel
theorem d_Ma_take_35 : decode b_Ma_take 35 = .ok (.invokestatic 26, 3) := by decide +kernel
theorem d_Ma_take_38 : decode b_Ma_take 38 = .ok (.iload_n 2, 1) := by decide +kernel
theorem d_Ma_take_39 : decode b_Ma_take 39 = .ok (.ireturn, 1) := by decide +kernel
theorem d_Ma_kindOf_0 : decode b_Ma_kindOf 0 = .ok (.iload_n 0, 1) := by decide +kernel
theorem d_Ma_kindOf_1 : decode b_Ma_kindOf 1 = .ok (.iconst 3, 1) := by decide +kernel
theorem d_Ma_kindOf_2 : decode b_Ma_kindOf 2 = .ok (.iand, 1) := by decide +kernel
theorem d_Ma_kindOf_3 : decode b_Ma_kindOf 3 = .ok (.ireturn, 1) := by decide +kernel
theorem d_Ma_senderOf_0 : decode b_Ma_senderOf 0 = .ok (.iload_n 0, 1) := by decide +kernel
theorem d_Ma_senderOf_1 : decode b_Ma_senderOf 1 = .ok (.iconst 2, 1) := by decide +kernel
theorem d_Ma_senderOf_2 : decode b_Ma_senderOf 2 = .ok (.iushr, 1) := by decide +kernel
theorem d_Ma_senderOf_3 : decode b_Ma_senderOf 3 = .ok (.iconst 3, 1) := by decide +kernel
theorem d_Ma_senderOf_4 : decode b_Ma_senderOf 4 = .ok (.iand, 1) := by decide +kernel
theorem d_Ma_senderOf_5 : decode b_Ma_senderOf 5 = .ok (.ireturn, 1) := by decide +kernel
theorem d_Ma_receiverOf_0 : decode b_Ma_receiverOf 0 = .ok (.iload_n 0, 1) := by decide +kernel
theorem d_Ma_receiverOf_1 : decode b_Ma_receiverOf 1 = .ok (.iconst 4, 1) := by decide +kernel
theorem d_Ma_receiverOf_2 : decode b_Ma_receiverOf 2 = .ok (.iushr, 1) := by decide +kernel
theorem d_Ma_receiverOf_3 : decode b_Ma_receiverOf 3 = .ok (.iconst 3, 1) := by decide +kernel
theorem d_Ma_receiverOf_4 : decode b_Ma_receiverOf 4 = .ok (.iand, 1) := by decide +kernel
theorem d_Ma_receiverOf_5 : decode b_Ma_receiverOf 5 = .ok (.ireturn, 1) := by decide +kernel
theorem d_Ma_subjectOf_0 : decode b_Ma_subjectOf 0 = .ok (.iload_n 0, 1) := by decide +kernel
theorem d_Ma_subjectOf_1 : decode b_Ma_subjectOf 1 = .ok (.bipush 6, 2) := by decide +kernel
theorem d_Ma_subjectOf_3 : decode b_Ma_subjectOf 3 = .ok (.iushr, 1) := by decide +kernel
theorem d_Ma_subjectOf_4 : decode b_Ma_subjectOf 4 = .ok (.ireturn, 1) := by decide +kernel
theorem d_No_init_0 : decode b_No_init 0 = .ok (.aload_n 0, 1) := by decide +kernel
theorem d_No_init_1 : decode b_No_init 1 = .ok (.invokespecial 3, 3) := by decide +kernel
theorem d_No_init_4 : decode b_No_init 4 = .ok (.aload_n 0, 1) := by decide +kernel
theorem d_No_init_5 : decode b_No_init 5 = .ok (.new 9, 3) := by decide +kernel
theorem d_No_init_8 : decode b_No_init 8 = .ok (.dup, 1) := by decide +kernel
theorem d_No_init_9 : decode b_No_init 9 = .ok (.invokespecial 11, 3) := by decide +kernel
theorem d_No_init_12 : decode b_No_init 12 = .ok (.putfield 12, 3) := by decide +kernel
theorem d_No_init_15 : decode b_No_init 15 = .ok (.aload_n 0, 1) := by decide +kernel
theorem d_No_init_16 : decode b_No_init 16 = .ok (.new 18, 3) := by decide +kernel
theorem d_No_init_19 : decode b_No_init 19 = .ok (.dup, 1) := by decide +kernel
theorem d_No_init_20 : decode b_No_init 20 = .ok (.invokespecial 20, 3) := by decide +kernel
theorem d_No_init_23 : decode b_No_init 23 = .ok (.putfield 21, 3) := by decide +kernel
theorem d_No_init_26 : decode b_No_init 26 = .ok (.aload_n 0, 1) := by decide +kernel
theorem d_No_init_27 : decode b_No_init 27 = .ok (.new 25, 3) := by decide +kernel
theorem d_No_init_30 : decode b_No_init 30 = .ok (.dup, 1) := by decide +kernel
theorem d_No_init_31 : decode b_No_init 31 = .ok (.invokespecial 27, 3) := by decide +kernel
theorem d_No_init_34 : decode b_No_init 34 = .ok (.putfield 28, 3) := by decide +kernel
theorem d_No_init_37 : decode b_No_init 37 = .ok (.aload_n 0, 1) := by decide +kernel
theorem d_No_init_38 : decode b_No_init 38 = .ok (.new 25, 3) := by decide +kernel
theorem d_No_init_41 : decode b_No_init 41 = .ok (.dup, 1) := by decide +kernel
theorem d_No_init_42 : decode b_No_init 42 = .ok (.invokespecial 27, 3) := by decide +kernel
theorem d_No_init_45 : decode b_No_init 45 = .ok (.putfield 32, 3) := by decide +kernel
theorem d_No_init_48 : decode b_No_init 48 = .ok (.aload_n 0, 1) := by decide +kernel
theorem d_No_init_49 : decode b_No_init 49 = .ok (.iconst 3, 1) := by decide +kernel
theorem d_No_init_50 : decode b_No_init 50 = .ok (.newarray .int, 2) := by decide +kernel
theorem d_No_init_52 : decode b_No_init 52 = .ok (.putfield 35, 3) := by decide +kernel
theorem d_No_init_55 : decode b_No_init 55 = .ok (.aload_n 0, 1) := by decide +kernel
theorem d_No_init_56 : decode b_No_init 56 = .ok (.iload_n 1, 1) := by decide +kernel
theorem d_No_init_57 : decode b_No_init 57 = .ok (.putfield 39, 3) := by decide +kernel
theorem d_No_init_60 : decode b_No_init 60 = .ok (.aload_n 0, 1) := by decide +kernel
theorem d_No_init_61 : decode b_No_init 61 = .ok (.iload_n 2, 1) := by decide +kernel
theorem d_No_init_62 : decode b_No_init 62 = .ok (.putfield 43, 3) := by decide +kernel
theorem d_No_init_65 : decode b_No_init 65 = .ok (.aload_n 0, 1) := by decide +kernel
theorem d_No_init_66 : decode b_No_init 66 = .ok (.aload_n 3, 1) := by decide +kernel
theorem d_No_init_67 : decode b_No_init 67 = .ok (.putfield 46, 3) := by decide +kernel
theorem d_No_init_70 : decode b_No_init 70 = .ok (.aload_n 0, 1) := by decide +kernel
theorem d_No_init_71 : decode b_No_init 71 = .ok (.aload 4, 2) := by decide +kernel
theorem d_No_init_73 : decode b_No_init 73 = .ok (.putfield 50, 3) := by decide +kernel
theorem d_No_init_76 : decode b_No_init 76 = .ok (.aload_n 0, 1) := by decide +kernel
theorem d_No_init_77 : decode b_No_init 77 = .ok (.new 54, 3) := by decide +kernel
theorem d_No_init_80 : decode b_No_init 80 = .ok (.dup, 1) := by decide +kernel
theorem d_No_init_81 : decode b_No_init 81 = .ok (.aload_n 3, 1) := by decide +kernel
theorem d_No_init_82 : decode b_No_init 82 = .ok (.invokespecial 56, 3) := by decide +kernel
theorem d_No_init_85 : decode b_No_init 85 = .ok (.putfield 59, 3) := by decide +kernel
theorem d_No_init_88 : decode b_No_init 88 = .ok (.return_, 1) := by decide +kernel
theorem d_No_receiveSend_0 : decode b_No_receiveSend 0 = .ok (.aload_n 0, 1) := by decide +kernel
theorem d_No_receiveSend_1 : decode b_No_receiveSend 1 = .ok (.getfield 46, 3) := by decide +kernel
theorem d_No_receiveSend_4 : decode b_No_receiveSend 4 = .ok (.getfield 63, 3) := by decide +kernel
theorem d_No_receiveSend_7 : decode b_No_receiveSend 7 = .ok (.iload_n 2, 1) := by decide +kernel
theorem d_No_receiveSend_8 : decode b_No_receiveSend 8 = .ok (.iaload, 1) := by decide +kernel
theorem d_No_receiveSend_9 : decode b_No_receiveSend 9 = .ok (.istore_n 3, 1) := by decide +kernel
theorem d_No_receiveSend_10 : decode b_No_receiveSend 10 = .ok (.iload_n 1, 1) := by decide +kernel
theorem d_No_receiveSend_11 : decode b_No_receiveSend 11 = .ok (.aload_n 0, 1) := by decide +kernel
theorem d_No_receiveSend_12 : decode b_No_receiveSend 12 = .ok (.getfield 46, 3) := by decide +kernel
theorem d_No_receiveSend_15 : decode b_No_receiveSend 15 = .ok (.iload_n 2, 1) := by decide +kernel
theorem d_No_receiveSend_16 : decode b_No_receiveSend 16 = .ok (.invokevirtual 68, 3) := by decide +kernel
theorem d_No_receiveSend_19 : decode b_No_receiveSend 19 = .ok (.if_icmp .ne 40, 3) := by decide +kernel
theorem d_No_receiveSend_22 : decode b_No_receiveSend 22 = .ok (.aload_n 0, 1) := by decide +kernel
theorem d_No_receiveSend_23 : decode b_No_receiveSend 23 = .ok (.getfield 72, 3) := by decide +kernel
theorem d_No_receiveSend_26 : decode b_No_receiveSend 26 = .ok (.iload_n 3, 1) := by decide +kernel
theorem d_No_receiveSend_27 : decode b_No_receiveSend 27 = .ok (.invokestatic 76, 3) := by decide +kernel
theorem d_No_receiveSend_30 : decode b_No_receiveSend 30 = .ok (.ifCond .ne 29, 3) := by decide +kernel
theorem d_No_receiveSend_33 : decode b_No_receiveSend 33 = .ok (.aload_n 0, 1) := by decide +kernel
theorem d_No_receiveSend_34 : decode b_No_receiveSend 34 = .ok (.dup, 1) := by decide +kernel
theorem d_No_receiveSend_35 : decode b_No_receiveSend 35 = .ok (.getfield 72, 3) := by decide +kernel
theorem d_No_receiveSend_38 : decode b_No_receiveSend 38 = .ok (.iload_n 3, 1) := by decide +kernel
theorem d_No_receiveSend_39 : decode b_No_receiveSend 39 = .ok (.invokestatic 80, 3) := by decide +kernel
theorem d_No_receiveSend_42 : decode b_No_receiveSend 42 = .ok (.lor, 1) := by decide +kernel
theorem d_No_receiveSend_43 : decode b_No_receiveSend 43 = .ok (.putfield 72, 3) := by decide +kernel
theorem d_No_receiveSend_46 : decode b_No_receiveSend 46 = .ok (.aload_n 0, 1) := by decide +kernel
theorem d_No_receiveSend_47 : decode b_No_receiveSend 47 = .ok (.getfield 50, 3) := by decide +kernel
theorem d_No_receiveSend_50 : decode b_No_receiveSend 50 = .ok (.iconst 1, 1) := by decide +kernel
theorem d_No_receiveSend_51 : decode b_No_receiveSend 51 = .ok (.aload_n 0, 1) := by decide +kernel
theorem d_No_receiveSend_52 : decode b_No_receiveSend 52 = .ok (.getfield 39, 3) := by decide +kernel
theorem d_No_receiveSend_55 : decode b_No_receiveSend 55 = .ok (.iload_n 2, 1) := by decide +kernel
theorem d_No_receiveSend_56 : decode b_No_receiveSend 56 = .ok (.invokevirtual 84, 3) := by decide +kernel
theorem d_No_receiveSend_59 : decode b_No_receiveSend 59 = .ok (.return_, 1) := by decide +kernel
theorem d_No_receiveEcho_0 : decode b_No_receiveEcho 0 = .ok (.aload_n 0, 1) := by decide +kernel
theorem d_No_receiveEcho_1 : decode b_No_receiveEcho 1 = .ok (.getfield 46, 3) := by decide +kernel
theorem d_No_receiveEcho_4 : decode b_No_receiveEcho 4 = .ok (.getfield 63, 3) := by decide +kernel
theorem d_No_receiveEcho_7 : decode b_No_receiveEcho 7 = .ok (.iload_n 2, 1) := by decide +kernel
theorem d_No_receiveEcho_8 : decode b_No_receiveEcho 8 = .ok (.iaload, 1) := by decide +kernel
theorem d_No_receiveEcho_9 : decode b_No_receiveEcho 9 = .ok (.istore_n 3, 1) := by decide +kernel
theorem d_No_receiveEcho_10 : decode b_No_receiveEcho 10 = .ok (.aload_n 0, 1) := by decide +kernel
theorem d_No_receiveEcho_11 : decode b_No_receiveEcho 11 = .ok (.getfield 28, 3) := by decide +kernel
theorem d_No_receiveEcho_14 : decode b_No_receiveEcho 14 = .ok (.iload_n 1, 1) := by decide +kernel
theorem d_No_receiveEcho_15 : decode b_No_receiveEcho 15 = .ok (.iload_n 3, 1) := by decide +kernel
theorem d_No_receiveEcho_16 : decode b_No_receiveEcho 16 = .ok (.iload_n 2, 1) := by decide +kernel
theorem d_No_receiveEcho_17 : decode b_No_receiveEcho 17 = .ok (.invokevirtual 90, 3) := by decide +kernel
theorem d_No_receiveEcho_20 : decode b_No_receiveEcho 20 = .ok (.iconst 3, 1) := by decide +kernel
theorem d_No_receiveEcho_21 : decode b_No_receiveEcho 21 = .ok (.if_icmp .lt 9, 3) := by decide +kernel
theorem d_No_receiveEcho_24 : decode b_No_receiveEcho 24 = .ok (.aload_n 0, 1) := by decide +kernel
theorem d_No_receiveEcho_25 : decode b_No_receiveEcho 25 = .ok (.iload_n 3, 1) := by decide +kernel
theorem d_No_receiveEcho_26 : decode b_No_receiveEcho 26 = .ok (.iload_n 2, 1) := by decide +kernel
theorem d_No_receiveEcho_27 : decode b_No_receiveEcho 27 = .ok (.invokevirtual 94, 3) := by decide +kernel
theorem d_No_receiveEcho_30 : decode b_No_receiveEcho 30 = .ok (.return_, 1) := by decide +kernel
theorem d_No_receiveReady_0 : decode b_No_receiveReady 0 = .ok (.aload_n 0, 1) := by decide +kernel
theorem d_No_receiveReady_1 : decode b_No_receiveReady 1 = .ok (.getfield 46, 3) := by decide +kernel
theorem d_No_receiveReady_4 : decode b_No_receiveReady 4 = .ok (.getfield 63, 3) := by decide +kernel
theorem d_No_receiveReady_7 : decode b_No_receiveReady 7 = .ok (.iload_n 2, 1) := by decide +kernel
theorem d_No_receiveReady_8 : decode b_No_receiveReady 8 = .ok (.iaload, 1) := by decide +kernel
theorem d_No_receiveReady_9 : decode b_No_receiveReady 9 = .ok (.istore_n 3, 1) := by decide +kernel
theorem d_No_receiveReady_10 : decode b_No_receiveReady 10 = .ok (.aload_n 0, 1) := by decide +kernel
theorem d_No_receiveReady_11 : decode b_No_receiveReady 11 = .ok (.getfield 32, 3) := by decide +kernel
theorem d_No_receiveReady_14 : decode b_No_receiveReady 14 = .ok (.iload_n 1, 1) := by decide +kernel
theorem d_No_receiveReady_15 : decode b_No_receiveReady 15 = .ok (.iload_n 3, 1) := by decide +kernel
theorem d_No_receiveReady_16 : decode b_No_receiveReady 16 = .ok (.iload_n 2, 1) := by decide +kernel
theorem d_No_receiveReady_17 : decode b_No_receiveReady 17 = .ok (.invokevirtual 90, 3) := by decide +kernel
theorem d_No_receiveReady_20 : decode b_No_receiveReady 20 = .ok (.istore 4, 2) := by decide +kernel
theorem d_No_receiveReady_22 : decode b_No_receiveReady 22 = .ok (.iload 4, 2) := by decide +kernel
theorem d_No_receiveReady_24 : decode b_No_receiveReady 24 = .ok (.iconst 2, 1) := by decide +kernel
theorem d_No_receiveReady_25 : decode b_No_receiveReady 25 = .ok (.if_icmp .lt 9, 3) := by decide +kernel
theorem d_No_receiveReady_28 : decode b_No_receiveReady 28 = .ok (.aload_n 0, 1) := by decide +kernel
theorem d_No_receiveReady_29 : decode b_No_receiveReady 29 = .ok (.iload_n 3, 1) := by decide +kernel
theorem d_No_receiveReady_30 : decode b_No_receiveReady 30 = .ok (.iload_n 2, 1) := by decide +kernel
theorem d_No_receiveReady_31 : decode b_No_receiveReady 31 = .ok (.invokevirtual 94, 3) := by decide +kernel
theorem d_No_receiveReady_34 : decode b_No_receiveReady 34 = .ok (.iload 4, 2) := by decide +kernel
theorem d_No_receiveReady_36 : decode b_No_receiveReady 36 = .ok (.iconst 3, 1) := by decide +kernel
theorem d_No_receiveReady_37 : decode b_No_receiveReady 37 = .ok (.if_icmp .lt 23, 3) := by decide +kernel
theorem d_No_receiveReady_40 : decode b_No_receiveReady 40 = .ok (.aload_n 0, 1) := by decide +kernel
theorem d_No_receiveReady_41 : decode b_No_receiveReady 41 = .ok (.getfield 59, 3) := by decide +kernel
theorem d_No_receiveReady_44 : decode b_No_receiveReady 44 = .ok (.getfield 98, 3) := by decide +kernel
theorem d_No_receiveReady_47 : decode b_No_receiveReady 47 = .ok (.iload_n 3, 1) := by decide +kernel
theorem d_No_receiveReady_48 : decode b_No_receiveReady 48 = .ok (.iaload, 1) := by decide +kernel
theorem d_No_receiveReady_49 : decode b_No_receiveReady 49 = .ok (.ifCond .ne 11, 3) := by decide +kernel
theorem d_No_receiveReady_52 : decode b_No_receiveReady 52 = .ok (.aload_n 0, 1) := by decide +kernel
theorem d_No_receiveReady_53 : decode b_No_receiveReady 53 = .ok (.getfield 59, 3) := by decide +kernel
theorem d_No_receiveReady_56 : decode b_No_receiveReady 56 = .ok (.iload_n 2, 1) := by decide +kernel
theorem d_No_receiveReady_57 : decode b_No_receiveReady 57 = .ok (.invokevirtual 101, 3) := by decide +kernel
theorem d_No_receiveReady_60 : decode b_No_receiveReady 60 = .ok (.return_, 1) := by decide +kernel
theorem d_No_broadcastReadyOnce_0 : decode b_No_broadcastReadyOnce 0 = .ok (.aload_n 0, 1) := by decide +kernel
theorem d_No_broadcastReadyOnce_1 : decode b_No_broadcastReadyOnce 1 = .ok (.getfield 105, 3) := by decide +kernel
theorem d_No_broadcastReadyOnce_4 : decode b_No_broadcastReadyOnce 4 = .ok (.iload_n 1, 1) := by decide +kernel
theorem d_No_broadcastReadyOnce_5 : decode b_No_broadcastReadyOnce 5 = .ok (.invokestatic 76, 3) := by decide +kernel
theorem d_No_broadcastReadyOnce_8 : decode b_No_broadcastReadyOnce 8 = .ok (.ifCond .ne 29, 3) := by decide +kernel
theorem d_No_broadcastReadyOnce_11 : decode b_No_broadcastReadyOnce 11 = .ok (.aload_n 0, 1) := by decide +kernel
theorem d_No_broadcastReadyOnce_12 : decode b_No_broadcastReadyOnce 12 = .ok (.dup, 1) := by decide +kernel
theorem d_No_broadcastReadyOnce_13 : decode b_No_broadcastReadyOnce 13 = .ok (.getfield 105, 3) := by decide +kernel
theorem d_No_broadcastReadyOnce_16 : decode b_No_broadcastReadyOnce 16 = .ok (.iload_n 1, 1) := by decide +kernel
theorem d_No_broadcastReadyOnce_17 : decode b_No_broadcastReadyOnce 17 = .ok (.invokestatic 80, 3) := by decide +kernel
theorem d_No_broadcastReadyOnce_20 : decode b_No_broadcastReadyOnce 20 = .ok (.lor, 1) := by decide +kernel
theorem d_No_broadcastReadyOnce_21 : decode b_No_broadcastReadyOnce 21 = .ok (.putfield 105, 3) := by decide +kernel
theorem d_No_broadcastReadyOnce_24 : decode b_No_broadcastReadyOnce 24 = .ok (.aload_n 0, 1) := by decide +kernel
theorem d_No_broadcastReadyOnce_25 : decode b_No_broadcastReadyOnce 25 = .ok (.getfield 50, 3) := by decide +kernel
theorem d_No_broadcastReadyOnce_28 : decode b_No_broadcastReadyOnce 28 = .ok (.iconst 2, 1) := by decide +kernel
theorem d_No_broadcastReadyOnce_29 : decode b_No_broadcastReadyOnce 29 = .ok (.aload_n 0, 1) := by decide +kernel
theorem d_No_broadcastReadyOnce_30 : decode b_No_broadcastReadyOnce 30 = .ok (.getfield 39, 3) := by decide +kernel
theorem d_No_broadcastReadyOnce_33 : decode b_No_broadcastReadyOnce 33 = .ok (.iload_n 2, 1) := by decide +kernel
theorem d_No_broadcastReadyOnce_34 : decode b_No_broadcastReadyOnce 34 = .ok (.invokevirtual 84, 3) := by decide +kernel
theorem d_No_broadcastReadyOnce_37 : decode b_No_broadcastReadyOnce 37 = .ok (.return_, 1) := by decide +kernel
theorem d_No_goOn_0 : decode b_No_goOn 0 = .ok (.aload_n 0, 1) := by decide +kernel
theorem d_No_goOn_1 : decode b_No_goOn 1 = .ok (.getfield 108, 3) := by decide +kernel
theorem d_No_goOn_4 : decode b_No_goOn 4 = .ok (.bipush 12, 2) := by decide +kernel
theorem d_No_goOn_6 : decode b_No_goOn 6 = .ok (.if_icmp .ge 75, 3) := by decide +kernel
theorem d_No_goOn_9 : decode b_No_goOn 9 = .ok (.aload_n 0, 1) := by decide +kernel
theorem d_No_goOn_10 : decode b_No_goOn 10 = .ok (.getfield 108, 3) := by decide +kernel
theorem d_No_goOn_13 : decode b_No_goOn 13 = .ok (.ifCond .eq 17, 3) := by decide +kernel
theorem d_No_goOn_16 : decode b_No_goOn 16 = .ok (.aload_n 0, 1) := by decide +kernel
theorem d_No_goOn_17 : decode b_No_goOn 17 = .ok (.getfield 59, 3) := by decide +kernel
theorem d_No_goOn_20 : decode b_No_goOn 20 = .ok (.aload_n 0, 1) := by decide +kernel
theorem d_No_goOn_21 : decode b_No_goOn 21 = .ok (.getfield 108, 3) := by decide +kernel
theorem d_No_goOn_24 : decode b_No_goOn 24 = .ok (.invokevirtual 111, 3) := by decide +kernel
theorem d_No_goOn_27 : decode b_No_goOn 27 = .ok (.ifCond .eq 54, 3) := by decide +kernel
theorem d_No_goOn_30 : decode b_No_goOn 30 = .ok (.aload_n 0, 1) := by decide +kernel
theorem d_No_goOn_31 : decode b_No_goOn 31 = .ok (.getfield 108, 3) := by decide +kernel
theorem d_No_goOn_34 : decode b_No_goOn 34 = .ok (.iconst 4, 1) := by decide +kernel
theorem d_No_goOn_35 : decode b_No_goOn 35 = .ok (.idiv, 1) := by decide +kernel
theorem d_No_goOn_36 : decode b_No_goOn 36 = .ok (.istore_n 1, 1) := by decide +kernel
theorem d_No_goOn_37 : decode b_No_goOn 37 = .ok (.iload_n 1, 1) := by decide +kernel
theorem d_No_goOn_38 : decode b_No_goOn 38 = .ok (.ifCond .le 26, 3) := by decide +kernel
theorem d_No_goOn_41 : decode b_No_goOn 41 = .ok (.aload_n 0, 1) := by decide +kernel
theorem d_No_goOn_42 : decode b_No_goOn 42 = .ok (.getfield 108, 3) := by decide +kernel
theorem d_No_goOn_45 : decode b_No_goOn 45 = .ok (.iconst 4, 1) := by decide +kernel
theorem d_No_goOn_46 : decode b_No_goOn 46 = .ok (.iload_n 1, 1) := by decide +kernel
