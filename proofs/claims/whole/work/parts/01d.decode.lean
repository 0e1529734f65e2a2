theorem d_Sh_makeCheckpoint_0 : decode b_Sh_makeCheckpoint 0 = .ok (.aload_n 0, 1) := by decide +kernel
theorem d_Sh_makeCheckpoint_1 : decode b_Sh_makeCheckpoint 1 = .ok (.getfield 9, 3) := by decide +kernel
theorem d_Sh_makeCheckpoint_4 : decode b_Sh_makeCheckpoint 4 = .ok (.iconst 0, 1) := by decide +kernel
theorem d_Sh_makeCheckpoint_5 : decode b_Sh_makeCheckpoint 5 = .ok (.aload_n 0, 1) := by decide +kernel
theorem d_Sh_makeCheckpoint_6 : decode b_Sh_makeCheckpoint 6 = .ok (.getfield 18, 3) := by decide +kernel
theorem d_Sh_makeCheckpoint_9 : decode b_Sh_makeCheckpoint 9 = .ok (.iconst 0, 1) := by decide +kernel
theorem d_Sh_makeCheckpoint_10 : decode b_Sh_makeCheckpoint 10 = .ok (.iconst 2, 1) := by decide +kernel
theorem d_Sh_makeCheckpoint_11 : decode b_Sh_makeCheckpoint 11 = .ok (.invokestatic 79, 3) := by decide +kernel
theorem d_Sh_makeCheckpoint_14 : decode b_Sh_makeCheckpoint 14 = .ok (.aload_n 0, 1) := by decide +kernel
theorem d_Sh_makeCheckpoint_15 : decode b_Sh_makeCheckpoint 15 = .ok (.getfield 15, 3) := by decide +kernel
theorem d_Sh_makeCheckpoint_18 : decode b_Sh_makeCheckpoint 18 = .ok (.iconst 0, 1) := by decide +kernel
theorem d_Sh_makeCheckpoint_19 : decode b_Sh_makeCheckpoint 19 = .ok (.aload_n 0, 1) := by decide +kernel
theorem d_Sh_makeCheckpoint_20 : decode b_Sh_makeCheckpoint 20 = .ok (.getfield 21, 3) := by decide +kernel
theorem d_Sh_makeCheckpoint_23 : decode b_Sh_makeCheckpoint 23 = .ok (.iconst 0, 1) := by decide +kernel
theorem d_Sh_makeCheckpoint_24 : decode b_Sh_makeCheckpoint 24 = .ok (.iconst 2, 1) := by decide +kernel
theorem d_Sh_makeCheckpoint_25 : decode b_Sh_makeCheckpoint 25 = .ok (.invokestatic 79, 3) := by decide +kernel
theorem d_Sh_makeCheckpoint_28 : decode b_Sh_makeCheckpoint 28 = .ok (.aload_n 0, 1) := by decide +kernel
theorem d_Sh_makeCheckpoint_29 : decode b_Sh_makeCheckpoint 29 = .ok (.aload_n 0, 1) := by decide +kernel
theorem d_Sh_makeCheckpoint_30 : decode b_Sh_makeCheckpoint 30 = .ok (.getfield 57, 3) := by decide +kernel
theorem d_Sh_makeCheckpoint_33 : decode b_Sh_makeCheckpoint 33 = .ok (.putfield 85, 3) := by decide +kernel
theorem d_Sh_makeCheckpoint_36 : decode b_Sh_makeCheckpoint 36 = .ok (.iconst 0, 1) := by decide +kernel
theorem d_Sh_makeCheckpoint_37 : decode b_Sh_makeCheckpoint 37 = .ok (.istore_n 1, 1) := by decide +kernel
theorem d_Sh_makeCheckpoint_38 : decode b_Sh_makeCheckpoint 38 = .ok (.aload_n 0, 1) := by decide +kernel
theorem d_Sh_makeCheckpoint_39 : decode b_Sh_makeCheckpoint 39 = .ok (.getfield 34, 3) := by decide +kernel
theorem d_Sh_makeCheckpoint_42 : decode b_Sh_makeCheckpoint 42 = .ok (.astore_n 2, 1) := by decide +kernel
theorem d_Sh_makeCheckpoint_43 : decode b_Sh_makeCheckpoint 43 = .ok (.aload_n 2, 1) := by decide +kernel
theorem d_Sh_makeCheckpoint_44 : decode b_Sh_makeCheckpoint 44 = .ok (.arraylength, 1) := by decide +kernel
theorem d_Sh_makeCheckpoint_45 : decode b_Sh_makeCheckpoint 45 = .ok (.istore_n 3, 1) := by decide +kernel
theorem d_Sh_makeCheckpoint_46 : decode b_Sh_makeCheckpoint 46 = .ok (.iconst 0, 1) := by decide +kernel
theorem d_Sh_makeCheckpoint_47 : decode b_Sh_makeCheckpoint 47 = .ok (.istore 4, 2) := by decide +kernel
theorem d_Sh_makeCheckpoint_49 : decode b_Sh_makeCheckpoint 49 = .ok (.iload 4, 2) := by decide +kernel
theorem d_Sh_makeCheckpoint_51 : decode b_Sh_makeCheckpoint 51 = .ok (.iload_n 3, 1) := by decide +kernel
theorem d_Sh_makeCheckpoint_52 : decode b_Sh_makeCheckpoint 52 = .ok (.if_icmp .ge 23, 3) := by decide +kernel
theorem d_Sh_makeCheckpoint_55 : decode b_Sh_makeCheckpoint 55 = .ok (.aload_n 2, 1) := by decide +kernel
theorem d_Sh_makeCheckpoint_56 : decode b_Sh_makeCheckpoint 56 = .ok (.iload 4, 2) := by decide +kernel
theorem d_Sh_makeCheckpoint_58 : decode b_Sh_makeCheckpoint 58 = .ok (.aaload, 1) := by decide +kernel
theorem d_Sh_makeCheckpoint_59 : decode b_Sh_makeCheckpoint 59 = .ok (.astore 5, 2) := by decide +kernel
theorem d_Sh_makeCheckpoint_61 : decode b_Sh_makeCheckpoint 61 = .ok (.iload_n 1, 1) := by decide +kernel
theorem d_Sh_makeCheckpoint_62 : decode b_Sh_makeCheckpoint 62 = .ok (.aload 5, 2) := by decide +kernel
theorem d_Sh_makeCheckpoint_64 : decode b_Sh_makeCheckpoint 64 = .ok (.invokevirtual 88, 3) := by decide +kernel
theorem d_Sh_makeCheckpoint_67 : decode b_Sh_makeCheckpoint 67 = .ok (.iadd, 1) := by decide +kernel
theorem d_Sh_makeCheckpoint_68 : decode b_Sh_makeCheckpoint 68 = .ok (.istore_n 1, 1) := by decide +kernel
theorem d_Sh_makeCheckpoint_69 : decode b_Sh_makeCheckpoint 69 = .ok (.iinc 4 1, 3) := by decide +kernel
theorem d_Sh_makeCheckpoint_72 : decode b_Sh_makeCheckpoint 72 = .ok (.goto (-23), 3) := by decide +kernel
theorem d_Sh_makeCheckpoint_75 : decode b_Sh_makeCheckpoint 75 = .ok (.iload_n 1, 1) := by decide +kernel
theorem d_Sh_makeCheckpoint_76 : decode b_Sh_makeCheckpoint 76 = .ok (.ireturn, 1) := by decide +kernel
theorem d_Sh_goBackToCheckpoint_0 : decode b_Sh_goBackToCheckpoint 0 = .ok (.aload_n 0, 1) := by decide +kernel
theorem d_Sh_goBackToCheckpoint_1 : decode b_Sh_goBackToCheckpoint 1 = .ok (.getfield 18, 3) := by decide +kernel
theorem d_Sh_goBackToCheckpoint_4 : decode b_Sh_goBackToCheckpoint 4 = .ok (.iconst 0, 1) := by decide +kernel
theorem d_Sh_goBackToCheckpoint_5 : decode b_Sh_goBackToCheckpoint 5 = .ok (.aload_n 0, 1) := by decide +kernel
theorem d_Sh_goBackToCheckpoint_6 : decode b_Sh_goBackToCheckpoint 6 = .ok (.getfield 9, 3) := by decide +kernel
theorem d_Sh_goBackToCheckpoint_9 : decode b_Sh_goBackToCheckpoint 9 = .ok (.iconst 0, 1) := by decide +kernel
theorem d_Sh_goBackToCheckpoint_10 : decode b_Sh_goBackToCheckpoint 10 = .ok (.iconst 2, 1) := by decide +kernel
theorem d_Sh_goBackToCheckpoint_11 : decode b_Sh_goBackToCheckpoint 11 = .ok (.invokestatic 79, 3) := by decide +kernel
theorem d_Sh_goBackToCheckpoint_14 : decode b_Sh_goBackToCheckpoint 14 = .ok (.aload_n 0, 1) := by decide +kernel
theorem d_Sh_goBackToCheckpoint_15 : decode b_Sh_goBackToCheckpoint 15 = .ok (.getfield 21, 3) := by decide +kernel
theorem d_Sh_goBackToCheckpoint_18 : decode b_Sh_goBackToCheckpoint 18 = .ok (.iconst 0, 1) := by decide +kernel
theorem d_Sh_goBackToCheckpoint_19 : decode b_Sh_goBackToCheckpoint 19 = .ok (.aload_n 0, 1) := by decide +kernel
theorem d_Sh_goBackToCheckpoint_20 : decode b_Sh_goBackToCheckpoint 20 = .ok (.getfield 15, 3) := by decide +kernel
theorem d_Sh_goBackToCheckpoint_23 : decode b_Sh_goBackToCheckpoint 23 = .ok (.iconst 0, 1) := by decide +kernel
theorem d_Sh_goBackToCheckpoint_24 : decode b_Sh_goBackToCheckpoint 24 = .ok (.iconst 2, 1) := by decide +kernel
theorem d_Sh_goBackToCheckpoint_25 : decode b_Sh_goBackToCheckpoint 25 = .ok (.invokestatic 79, 3) := by decide +kernel
theorem d_Sh_goBackToCheckpoint_28 : decode b_Sh_goBackToCheckpoint 28 = .ok (.aload_n 0, 1) := by decide +kernel
theorem d_Sh_goBackToCheckpoint_29 : decode b_Sh_goBackToCheckpoint 29 = .ok (.aload_n 0, 1) := by decide +kernel
theorem d_Sh_goBackToCheckpoint_30 : decode b_Sh_goBackToCheckpoint 30 = .ok (.getfield 85, 3) := by decide +kernel
theorem d_Sh_goBackToCheckpoint_33 : decode b_Sh_goBackToCheckpoint 33 = .ok (.putfield 57, 3) := by decide +kernel
theorem d_Sh_goBackToCheckpoint_36 : decode b_Sh_goBackToCheckpoint 36 = .ok (.aload_n 0, 1) := by decide +kernel
theorem d_Sh_goBackToCheckpoint_37 : decode b_Sh_goBackToCheckpoint 37 = .ok (.getfield 34, 3) := by decide +kernel
theorem d_Sh_goBackToCheckpoint_40 : decode b_Sh_goBackToCheckpoint 40 = .ok (.astore_n 1, 1) := by decide +kernel
theorem d_Sh_goBackToCheckpoint_41 : decode b_Sh_goBackToCheckpoint 41 = .ok (.aload_n 1, 1) := by decide +kernel
theorem d_Sh_goBackToCheckpoint_42 : decode b_Sh_goBackToCheckpoint 42 = .ok (.arraylength, 1) := by decide +kernel
theorem d_Sh_goBackToCheckpoint_43 : decode b_Sh_goBackToCheckpoint 43 = .ok (.istore_n 2, 1) := by decide +kernel
theorem d_Sh_goBackToCheckpoint_44 : decode b_Sh_goBackToCheckpoint 44 = .ok (.iconst 0, 1) := by decide +kernel
theorem d_Sh_goBackToCheckpoint_45 : decode b_Sh_goBackToCheckpoint 45 = .ok (.istore_n 3, 1) := by decide +kernel
theorem d_Sh_goBackToCheckpoint_46 : decode b_Sh_goBackToCheckpoint 46 = .ok (.iload_n 3, 1) := by decide +kernel
theorem d_Sh_goBackToCheckpoint_47 : decode b_Sh_goBackToCheckpoint 47 = .ok (.iload_n 2, 1) := by decide +kernel
theorem d_Sh_goBackToCheckpoint_48 : decode b_Sh_goBackToCheckpoint 48 = .ok (.if_icmp .ge 23, 3) := by decide +kernel
theorem d_Sh_goBackToCheckpoint_51 : decode b_Sh_goBackToCheckpoint 51 = .ok (.aload_n 1, 1) := by decide +kernel
theorem d_Sh_goBackToCheckpoint_52 : decode b_Sh_goBackToCheckpoint 52 = .ok (.iload_n 3, 1) := by decide +kernel
theorem d_Sh_goBackToCheckpoint_53 : decode b_Sh_goBackToCheckpoint 53 = .ok (.aaload, 1) := by decide +kernel
theorem d_Sh_goBackToCheckpoint_54 : decode b_Sh_goBackToCheckpoint 54 = .ok (.astore 4, 2) := by decide +kernel
theorem d_Sh_goBackToCheckpoint_56 : decode b_Sh_goBackToCheckpoint 56 = .ok (.aload 4, 2) := by decide +kernel
theorem d_Sh_goBackToCheckpoint_58 : decode b_Sh_goBackToCheckpoint 58 = .ok (.aload_n 0, 1) := by decide +kernel
theorem d_Sh_goBackToCheckpoint_59 : decode b_Sh_goBackToCheckpoint 59 = .ok (.getfield 85, 3) := by decide +kernel
theorem d_Sh_goBackToCheckpoint_62 : decode b_Sh_goBackToCheckpoint 62 = .ok (.invokevirtual 91, 3) := by decide +kernel
theorem d_Sh_goBackToCheckpoint_65 : decode b_Sh_goBackToCheckpoint 65 = .ok (.iinc 3 1, 3) := by decide +kernel
theorem d_Sh_goBackToCheckpoint_68 : decode b_Sh_goBackToCheckpoint 68 = .ok (.goto (-22), 3) := by decide +kernel
theorem d_Sh_goBackToCheckpoint_71 : decode b_Sh_goBackToCheckpoint 71 = .ok (.aload_n 0, 1) := by decide +kernel
theorem d_Sh_goBackToCheckpoint_72 : decode b_Sh_goBackToCheckpoint 72 = .ok (.iconst 1, 1) := by decide +kernel
theorem d_Sh_goBackToCheckpoint_73 : decode b_Sh_goBackToCheckpoint 73 = .ok (.putfield 24, 3) := by decide +kernel
theorem d_Sh_goBackToCheckpoint_76 : decode b_Sh_goBackToCheckpoint 76 = .ok (.return_, 1) := by decide +kernel
theorem d_Gs_init_0 : decode b_Gs_init 0 = .ok (.aload_n 0, 1) := by decide +kernel
theorem d_Gs_init_1 : decode b_Gs_init 1 = .ok (.invokespecial 1, 3) := by decide +kernel
theorem d_Gs_init_4 : decode b_Gs_init 4 = .ok (.iload_n 1, 1) := by decide +kernel
theorem d_Gs_init_5 : decode b_Gs_init 5 = .ok (.iconst 1, 1) := by decide +kernel
theorem d_Gs_init_6 : decode b_Gs_init 6 = .ok (.if_icmp .lt 12, 3) := by decide +kernel
theorem d_Gs_init_9 : decode b_Gs_init 9 = .ok (.iload_n 1, 1) := by decide +kernel
theorem d_Gs_init_10 : decode b_Gs_init 10 = .ok (.iconst 4, 1) := by decide +kernel
theorem d_Gs_init_11 : decode b_Gs_init 11 = .ok (.if_icmp .gt 7, 3) := by decide +kernel
theorem d_Gs_init_14 : decode b_Gs_init 14 = .ok (.iload_n 1, 1) := by decide +kernel
theorem d_Gs_init_15 : decode b_Gs_init 15 = .ok (.goto 4, 3) := by decide +kernel
theorem d_Gs_init_18 : decode b_Gs_init 18 = .ok (.iconst 2, 1) := by decide +kernel
theorem d_Gs_init_19 : decode b_Gs_init 19 = .ok (.istore 4, 2) := by decide +kernel
theorem d_Gs_init_21 : decode b_Gs_init 21 = .ok (.iload_n 3, 1) := by decide +kernel
theorem d_Gs_init_22 : decode b_Gs_init 22 = .ok (.ifCond .lt 12, 3) := by decide +kernel
theorem d_Gs_init_25 : decode b_Gs_init 25 = .ok (.iload_n 3, 1) := by decide +kernel
theorem d_Gs_init_26 : decode b_Gs_init 26 = .ok (.iconst 2, 1) := by decide +kernel
theorem d_Gs_init_27 : decode b_Gs_init 27 = .ok (.if_icmp .gt 7, 3) := by decide +kernel
theorem d_Gs_init_30 : decode b_Gs_init 30 = .ok (.iload_n 3, 1) := by decide +kernel
theorem d_Gs_init_31 : decode b_Gs_init 31 = .ok (.goto 4, 3) := by decide +kernel
theorem d_Gs_init_34 : decode b_Gs_init 34 = .ok (.iconst 0, 1) := by decide +kernel
theorem d_Gs_init_35 : decode b_Gs_init 35 = .ok (.istore 5, 2) := by decide +kernel
theorem d_Gs_init_37 : decode b_Gs_init 37 = .ok (.aload_n 0, 1) := by decide +kernel
theorem d_Gs_init_38 : decode b_Gs_init 38 = .ok (.iload_n 2, 1) := by decide +kernel
theorem d_Gs_init_39 : decode b_Gs_init 39 = .ok (.ifCond .lt 12, 3) := by decide +kernel
theorem d_Gs_init_42 : decode b_Gs_init 42 = .ok (.iload_n 2, 1) := by decide +kernel
theorem d_Gs_init_43 : decode b_Gs_init 43 = .ok (.iconst 3, 1) := by decide +kernel
theorem d_Gs_init_44 : decode b_Gs_init 44 = .ok (.if_icmp .gt 7, 3) := by decide +kernel
theorem d_Gs_init_47 : decode b_Gs_init 47 = .ok (.iload_n 2, 1) := by decide +kernel
theorem d_Gs_init_48 : decode b_Gs_init 48 = .ok (.goto 4, 3) := by decide +kernel
theorem d_Gs_init_51 : decode b_Gs_init 51 = .ok (.iconst 0, 1) := by decide +kernel
theorem d_Gs_init_52 : decode b_Gs_init 52 = .ok (.putfield 7, 3) := by decide +kernel
theorem d_Gs_init_55 : decode b_Gs_init 55 = .ok (.aload_n 0, 1) := by decide +kernel
theorem d_Gs_init_56 : decode b_Gs_init 56 = .ok (.iload 4, 2) := by decide +kernel
theorem d_Gs_init_58 : decode b_Gs_init 58 = .ok (.newarray .int, 2) := by decide +kernel
theorem d_Gs_init_60 : decode b_Gs_init 60 = .ok (.putfield 13, 3) := by decide +kernel
theorem d_Gs_init_63 : decode b_Gs_init 63 = .ok (.aload_n 0, 1) := by decide +kernel
theorem d_Gs_init_64 : decode b_Gs_init 64 = .ok (.iconst 3, 1) := by decide +kernel
theorem d_Gs_init_65 : decode b_Gs_init 65 = .ok (.anewarray 17, 3) := by decide +kernel
theorem d_Gs_init_68 : decode b_Gs_init 68 = .ok (.putfield 19, 3) := by decide +kernel
theorem d_Gs_init_71 : decode b_Gs_init 71 = .ok (.iconst 0, 1) := by decide +kernel
theorem d_Gs_init_72 : decode b_Gs_init 72 = .ok (.istore 6, 2) := by decide +kernel
theorem d_Gs_init_74 : decode b_Gs_init 74 = .ok (.iload 6, 2) := by decide +kernel
theorem d_Gs_init_76 : decode b_Gs_init 76 = .ok (.iconst 3, 1) := by decide +kernel
theorem d_Gs_init_77 : decode b_Gs_init 77 = .ok (.if_icmp .ge 29, 3) := by decide +kernel
theorem d_Gs_init_80 : decode b_Gs_init 80 = .ok (.aload_n 0, 1) := by decide +kernel
theorem d_Gs_init_81 : decode b_Gs_init 81 = .ok (.getfield 19, 3) := by decide +kernel
theorem d_Gs_init_84 : decode b_Gs_init 84 = .ok (.iload 6, 2) := by decide +kernel
theorem d_Gs_init_86 : decode b_Gs_init 86 = .ok (.new 17, 3) := by decide +kernel
theorem d_Gs_init_89 : decode b_Gs_init 89 = .ok (.dup, 1) := by decide +kernel
theorem d_Gs_init_90 : decode b_Gs_init 90 = .ok (.iload 6, 2) := by decide +kernel
theorem d_Gs_init_92 : decode b_Gs_init 92 = .ok (.iload 4, 2) := by decide +kernel
theorem d_Gs_init_94 : decode b_Gs_init 94 = .ok (.iload 5, 2) := by decide +kernel
theorem d_Gs_init_96 : decode b_Gs_init 96 = .ok (.invokespecial 23, 3) := by decide +kernel
theorem d_Gs_init_99 : decode b_Gs_init 99 = .ok (.aastore, 1) := by decide +kernel
theorem d_Gs_init_100 : decode b_Gs_init 100 = .ok (.iinc 6 1, 3) := by decide +kernel
theorem d_Gs_init_103 : decode b_Gs_init 103 = .ok (.goto (-29), 3) := by decide +kernel
theorem d_Gs_init_106 : decode b_Gs_init 106 = .ok (.aload_n 0, 1) := by decide +kernel
theorem d_Gs_init_107 : decode b_Gs_init 107 = .ok (.new 26, 3) := by decide +kernel
theorem d_Gs_init_110 : decode b_Gs_init 110 = .ok (.dup, 1) := by decide +kernel
theorem d_Gs_init_111 : decode b_Gs_init 111 = .ok (.invokespecial 28, 3) := by decide +kernel
theorem d_Gs_init_114 : decode b_Gs_init 114 = .ok (.putfield 29, 3) := by decide +kernel
theorem d_Gs_init_117 : decode b_Gs_init 117 = .ok (.return_, 1) := by decide +kernel
theorem d_Gs_add_0 : decode b_Gs_add 0 = .ok (.aload_n 0, 1) := by decide +kernel
theorem d_Gs_add_1 : decode b_Gs_add 1 = .ok (.iload_n 1, 1) := by decide +kernel
theorem d_Gs_add_2 : decode b_Gs_add 2 = .ok (.invokevirtual 33, 3) := by decide +kernel
theorem d_Gs_add_5 : decode b_Gs_add 5 = .ok (.ifCond .eq 30, 3) := by decide +kernel
theorem d_Gs_add_8 : decode b_Gs_add 8 = .ok (.iload_n 2, 1) := by decide +kernel
theorem d_Gs_add_9 : decode b_Gs_add 9 = .ok (.invokestatic 37, 3) := by decide +kernel
theorem d_Gs_add_12 : decode b_Gs_add 12 = .ok (.ifCond .eq 23, 3) := by decide +kernel
theorem d_Gs_add_15 : decode b_Gs_add 15 = .ok (.iload_n 3, 1) := by decide +kernel
theorem d_Gs_add_16 : decode b_Gs_add 16 = .ok (.bipush (-99), 2) := by decide +kernel
theorem d_Gs_add_18 : decode b_Gs_add 18 = .ok (.if_icmp .lt 17, 3) := by decide +kernel
theorem d_Gs_add_21 : decode b_Gs_add 21 = .ok (.iload_n 3, 1) := by decide +kernel
theorem d_Gs_add_22 : decode b_Gs_add 22 = .ok (.bipush 99, 2) := by decide +kernel
theorem d_Gs_add_24 : decode b_Gs_add 24 = .ok (.if_icmp .gt 11, 3) := by decide +kernel
theorem d_Gs_add_27 : decode b_Gs_add 27 = .ok (.aload_n 0, 1) := by decide +kernel
theorem d_Gs_add_28 : decode b_Gs_add 28 = .ok (.iload_n 1, 1) := by decide +kernel
theorem d_Gs_add_29 : decode b_Gs_add 29 = .ok (.invokevirtual 40, 3) := by decide +kernel
theorem d_Gs_add_32 : decode b_Gs_add 32 = .ok (.ifCond .eq 5, 3) := by decide +kernel
theorem d_Gs_add_35 : decode b_Gs_add 35 = .ok (.iconst 0, 1) := by decide +kernel
theorem d_Gs_add_36 : decode b_Gs_add 36 = .ok (.ireturn, 1) := by decide +kernel
theorem d_Gs_add_37 : decode b_Gs_add 37 = .ok (.aload_n 0, 1) := by decide +kernel
theorem d_Gs_add_38 : decode b_Gs_add 38 = .ok (.iload_n 1, 1) := by decide +kernel
theorem d_Gs_add_39 : decode b_Gs_add 39 = .ok (.iload_n 2, 1) := by decide +kernel
theorem d_Gs_add_40 : decode b_Gs_add 40 = .ok (.iconst 3, 1) := by decide +kernel
theorem d_Gs_add_41 : decode b_Gs_add 41 = .ok (.irem, 1) := by decide +kernel
theorem d_Gs_add_42 : decode b_Gs_add 42 = .ok (.invokevirtual 43, 3) := by decide +kernel
theorem d_Gs_add_45 : decode b_Gs_add 45 = .ok (.astore 4, 2) := by decide +kernel
theorem d_Gs_add_47 : decode b_Gs_add 47 = .ok (.aload 4, 2) := by decide +kernel
theorem d_Gs_add_49 : decode b_Gs_add 49 = .ok (.invokevirtual 47, 3) := by decide +kernel
theorem d_Gs_add_52 : decode b_Gs_add 52 = .ok (.bipush 20, 2) := by decide +kernel
theorem d_Gs_add_54 : decode b_Gs_add 54 = .ok (.if_icmp .lt 5, 3) := by decide +kernel
theorem d_Gs_add_57 : decode b_Gs_add 57 = .ok (.iconst 0, 1) := by decide +kernel
theorem d_Gs_add_58 : decode b_Gs_add 58 = .ok (.ireturn, 1) := by decide +kernel
theorem d_Gs_add_59 : decode b_Gs_add 59 = .ok (.aload_n 0, 1) := by decide +kernel
theorem d_Gs_add_60 : decode b_Gs_add 60 = .ok (.aload 4, 2) := by decide +kernel
theorem d_Gs_add_62 : decode b_Gs_add 62 = .ok (.iload_n 2, 1) := by decide +kernel
theorem d_Gs_add_63 : decode b_Gs_add 63 = .ok (.iconst 3, 1) := by decide +kernel
theorem d_Gs_add_64 : decode b_Gs_add 64 = .ok (.idiv, 1) := by decide +kernel
theorem d_Gs_add_65 : decode b_Gs_add 65 = .ok (.iload_n 3, 1) := by decide +kernel
theorem d_Gs_add_66 : decode b_Gs_add 66 = .ok (.invokevirtual 53, 3) := by decide +kernel
theorem d_Gs_add_69 : decode b_Gs_add 69 = .ok (.iconst 1, 1) := by decide +kernel
theorem d_Gs_add_70 : decode b_Gs_add 70 = .ok (.ireturn, 1) := by decide +kernel
theorem d_Gs_advance_0 : decode b_Gs_advance 0 = .ok (.aload_n 0, 1) := by decide +kernel
theorem d_Gs_advance_1 : decode b_Gs_advance 1 = .ok (.iload_n 1, 1) := by decide +kernel
theorem d_Gs_advance_2 : decode b_Gs_advance 2 = .ok (.invokevirtual 33, 3) := by decide +kernel
theorem d_Gs_advance_5 : decode b_Gs_advance 5 = .ok (.ifCond .eq 19, 3) := by decide +kernel
theorem d_Gs_advance_8 : decode b_Gs_advance 8 = .ok (.aload_n 0, 1) := by decide +kernel
theorem d_Gs_advance_9 : decode b_Gs_advance 9 = .ok (.iload_n 1, 1) := by decide +kernel
theorem d_Gs_advance_10 : decode b_Gs_advance 10 = .ok (.invokevirtual 40, 3) := by decide +kernel
theorem d_Gs_advance_13 : decode b_Gs_advance 13 = .ok (.ifCond .ne 11, 3) := by decide +kernel
theorem d_Gs_advance_16 : decode b_Gs_advance 16 = .ok (.aload_n 0, 1) := by decide +kernel
theorem d_Gs_advance_17 : decode b_Gs_advance 17 = .ok (.iload_n 1, 1) := by decide +kernel
theorem d_Gs_advance_18 : decode b_Gs_advance 18 = .ok (.invokevirtual 57, 3) := by decide +kernel
theorem d_Gs_advance_21 : decode b_Gs_advance 21 = .ok (.ifCond .eq 5, 3) := by decide +kernel
theorem d_Gs_advance_24 : decode b_Gs_advance 24 = .ok (.iconst 0, 1) := by decide +kernel
theorem d_Gs_advance_25 : decode b_Gs_advance 25 = .ok (.ireturn, 1) := by decide +kernel
theorem d_Gs_advance_26 : decode b_Gs_advance 26 = .ok (.iconst 0, 1) := by decide +kernel
theorem d_Gs_advance_27 : decode b_Gs_advance 27 = .ok (.istore_n 2, 1) := by decide +kernel
theorem d_Gs_advance_28 : decode b_Gs_advance 28 = .ok (.iload_n 2, 1) := by decide +kernel
theorem d_Gs_advance_29 : decode b_Gs_advance 29 = .ok (.iconst 3, 1) := by decide +kernel
theorem d_Gs_advance_30 : decode b_Gs_advance 30 = .ok (.if_icmp .ge 21, 3) := by decide +kernel
theorem d_Gs_advance_33 : decode b_Gs_advance 33 = .ok (.aload_n 0, 1) := by decide +kernel
theorem d_Gs_advance_34 : decode b_Gs_advance 34 = .ok (.aload_n 0, 1) := by decide +kernel
theorem d_Gs_advance_35 : decode b_Gs_advance 35 = .ok (.iload_n 1, 1) := by decide +kernel
theorem d_Gs_advance_36 : decode b_Gs_advance 36 = .ok (.iload_n 2, 1) := by decide +kernel
theorem d_Gs_advance_37 : decode b_Gs_advance 37 = .ok (.invokevirtual 43, 3) := by decide +kernel
theorem d_Gs_advance_40 : decode b_Gs_advance 40 = .ok (.iconst (-1), 1) := by decide +kernel
theorem d_Gs_advance_41 : decode b_Gs_advance 41 = .ok (.iconst 0, 1) := by decide +kernel
theorem d_Gs_advance_42 : decode b_Gs_advance 42 = .ok (.invokevirtual 53, 3) := by decide +kernel
theorem d_Gs_advance_45 : decode b_Gs_advance 45 = .ok (.iinc 2 1, 3) := by decide +kernel
theorem d_Gs_advance_48 : decode b_Gs_advance 48 = .ok (.goto (-20), 3) := by decide +kernel
theorem d_Gs_advance_51 : decode b_Gs_advance 51 = .ok (.aload_n 0, 1) := by decide +kernel
theorem d_Gs_advance_52 : decode b_Gs_advance 52 = .ok (.getfield 13, 3) := by decide +kernel
theorem d_Gs_advance_55 : decode b_Gs_advance 55 = .ok (.iload_n 1, 1) := by decide +kernel
theorem d_Gs_advance_56 : decode b_Gs_advance 56 = .ok (.dup2, 1) := by decide +kernel
theorem d_Gs_advance_57 : decode b_Gs_advance 57 = .ok (.iaload, 1) := by decide +kernel
theorem d_Gs_advance_58 : decode b_Gs_advance 58 = .ok (.iconst 1, 1) := by decide +kernel
theorem d_Gs_advance_59 : decode b_Gs_advance 59 = .ok (.iadd, 1) := by decide +kernel
theorem d_Gs_advance_60 : decode b_Gs_advance 60 = .ok (.iastore, 1) := by decide +kernel
theorem d_Gs_advance_61 : decode b_Gs_advance 61 = .ok (.iconst 1, 1) := by decide +kernel
theorem d_Gs_advance_62 : decode b_Gs_advance 62 = .ok (.ireturn, 1) := by decide +kernel
theorem d_Gs_ready_0 : decode b_Gs_ready 0 = .ok (.aload_n 0, 1) := by decide +kernel
theorem d_Gs_ready_1 : decode b_Gs_ready 1 = .ok (.iload_n 1, 1) := by decide +kernel
theorem d_Gs_ready_2 : decode b_Gs_ready 2 = .ok (.invokevirtual 33, 3) := by decide +kernel
theorem d_Gs_ready_5 : decode b_Gs_ready 5 = .ok (.ifCond .eq 10, 3) := by decide +kernel
theorem d_Gs_ready_8 : decode b_Gs_ready 8 = .ok (.iload_n 2, 1) := by decide +kernel
theorem d_Gs_ready_9 : decode b_Gs_ready 9 = .ok (.invokestatic 37, 3) := by decide +kernel
theorem d_Gs_ready_12 : decode b_Gs_ready 12 = .ok (.ifCond .ne 5, 3) := by decide +kernel
theorem d_Gs_ready_15 : decode b_Gs_ready 15 = .ok (.iconst 0, 1) := by decide +kernel
theorem d_Gs_ready_16 : decode b_Gs_ready 16 = .ok (.ireturn, 1) := by decide +kernel
theorem d_Gs_ready_17 : decode b_Gs_ready 17 = .ok (.aload_n 0, 1) := by decide +kernel
theorem d_Gs_ready_18 : decode b_Gs_ready 18 = .ok (.getfield 19, 3) := by decide +kernel
theorem d_Gs_ready_21 : decode b_Gs_ready 21 = .ok (.iload_n 2, 1) := by decide +kernel
theorem d_Gs_ready_22 : decode b_Gs_ready 22 = .ok (.iconst 3, 1) := by decide +kernel
theorem d_Gs_ready_23 : decode b_Gs_ready 23 = .ok (.irem, 1) := by decide +kernel
theorem d_Gs_ready_24 : decode b_Gs_ready 24 = .ok (.aaload, 1) := by decide +kernel
theorem d_Gs_ready_25 : decode b_Gs_ready 25 = .ok (.astore_n 3, 1) := by decide +kernel
theorem d_Gs_ready_26 : decode b_Gs_ready 26 = .ok (.aload_n 3, 1) := by decide +kernel
theorem d_Gs_ready_27 : decode b_Gs_ready 27 = .ok (.getfield 60, 3) := by decide +kernel
theorem d_Gs_ready_30 : decode b_Gs_ready 30 = .ok (.ifCond .eq 25, 3) := by decide +kernel
theorem d_Gs_ready_33 : decode b_Gs_ready 33 = .ok (.aload_n 3, 1) := by decide +kernel
theorem d_Gs_ready_34 : decode b_Gs_ready 34 = .ok (.getfield 64, 3) := by decide +kernel
theorem d_Gs_ready_37 : decode b_Gs_ready 37 = .ok (.aload_n 0, 1) := by decide +kernel
theorem d_Gs_ready_38 : decode b_Gs_ready 38 = .ok (.getfield 13, 3) := by decide +kernel
theorem d_Gs_ready_41 : decode b_Gs_ready 41 = .ok (.iload_n 1, 1) := by decide +kernel
theorem d_Gs_ready_42 : decode b_Gs_ready 42 = .ok (.iaload, 1) := by decide +kernel
theorem d_Gs_ready_43 : decode b_Gs_ready 43 = .ok (.aload_n 0, 1) := by decide +kernel
theorem d_Gs_ready_44 : decode b_Gs_ready 44 = .ok (.getfield 7, 3) := by decide +kernel
theorem d_Gs_ready_47 : decode b_Gs_ready 47 = .ok (.isub, 1) := by decide +kernel
theorem d_Gs_ready_48 : decode b_Gs_ready 48 = .ok (.if_icmp .lt 7, 3) := by decide +kernel
theorem d_Gs_ready_51 : decode b_Gs_ready 51 = .ok (.iconst 1, 1) := by decide +kernel
theorem d_Gs_ready_52 : decode b_Gs_ready 52 = .ok (.goto 4, 3) := by decide +kernel
theorem d_Gs_ready_55 : decode b_Gs_ready 55 = .ok (.iconst 0, 1) := by decide +kernel
theorem d_Gs_ready_56 : decode b_Gs_ready 56 = .ok (.ireturn, 1) := by decide +kernel
theorem d_Gs_pull_0 : decode b_Gs_pull 0 = .ok (.aload_n 0, 1) := by decide +kernel
theorem d_Gs_pull_1 : decode b_Gs_pull 1 = .ok (.iload_n 1, 1) := by decide +kernel
theorem d_Gs_pull_2 : decode b_Gs_pull 2 = .ok (.iload_n 2, 1) := by decide +kernel
theorem d_Gs_pull_3 : decode b_Gs_pull 3 = .ok (.invokevirtual 67, 3) := by decide +kernel
theorem d_Gs_pull_6 : decode b_Gs_pull 6 = .ok (.ifCond .eq 21, 3) := by decide +kernel
theorem d_Gs_pull_9 : decode b_Gs_pull 9 = .ok (.aload_n 0, 1) := by decide +kernel
theorem d_Gs_pull_10 : decode b_Gs_pull 10 = .ok (.getfield 19, 3) := by decide +kernel
theorem d_Gs_pull_13 : decode b_Gs_pull 13 = .ok (.iload_n 2, 1) := by decide +kernel
theorem d_Gs_pull_14 : decode b_Gs_pull 14 = .ok (.iconst 3, 1) := by decide +kernel
theorem d_Gs_pull_15 : decode b_Gs_pull 15 = .ok (.irem, 1) := by decide +kernel
theorem d_Gs_pull_16 : decode b_Gs_pull 16 = .ok (.aaload, 1) := by decide +kernel
theorem d_Gs_pull_17 : decode b_Gs_pull 17 = .ok (.getfield 71, 3) := by decide +kernel
theorem d_Gs_pull_20 : decode b_Gs_pull 20 = .ok (.iload_n 2, 1) := by decide +kernel
theorem d_Gs_pull_21 : decode b_Gs_pull 21 = .ok (.iconst 3, 1) := by decide +kernel
theorem d_Gs_pull_22 : decode b_Gs_pull 22 = .ok (.idiv, 1) := by decide +kernel
theorem d_Gs_pull_23 : decode b_Gs_pull 23 = .ok (.iaload, 1) := by decide +kernel
theorem d_Gs_pull_24 : decode b_Gs_pull 24 = .ok (.goto 4, 3) := by decide +kernel
theorem d_Gs_pull_27 : decode b_Gs_pull 27 = .ok (.iconst 0, 1) := by decide +kernel
theorem d_Gs_pull_28 : decode b_Gs_pull 28 = .ok (.ireturn, 1) := by decide +kernel
theorem d_Gs_clock_0 : decode b_Gs_clock 0 = .ok (.aload_n 0, 1) := by decide +kernel
theorem d_Gs_clock_1 : decode b_Gs_clock 1 = .ok (.iload_n 1, 1) := by decide +kernel
theorem d_Gs_clock_2 : decode b_Gs_clock 2 = .ok (.invokevirtual 33, 3) := by decide +kernel
theorem d_Gs_clock_5 : decode b_Gs_clock 5 = .ok (.ifCond .eq 12, 3) := by decide +kernel
theorem d_Gs_clock_8 : decode b_Gs_clock 8 = .ok (.aload_n 0, 1) := by decide +kernel
theorem d_Gs_clock_9 : decode b_Gs_clock 9 = .ok (.getfield 13, 3) := by decide +kernel
theorem d_Gs_clock_12 : decode b_Gs_clock 12 = .ok (.iload_n 1, 1) := by decide +kernel
theorem d_Gs_clock_13 : decode b_Gs_clock 13 = .ok (.iaload, 1) := by decide +kernel
theorem d_Gs_clock_14 : decode b_Gs_clock 14 = .ok (.goto 4, 3) := by decide +kernel
theorem d_Gs_clock_17 : decode b_Gs_clock 17 = .ok (.iconst (-1), 1) := by decide +kernel
theorem d_Gs_clock_18 : decode b_Gs_clock 18 = .ok (.ireturn, 1) := by decide +kernel
theorem d_Gs_deliver_0 : decode b_Gs_deliver 0 = .ok (.aload_n 0, 1) := by decide +kernel
theorem d_Gs_deliver_1 : decode b_Gs_deliver 1 = .ok (.getfield 29, 3) := by decide +kernel
theorem d_Gs_deliver_4 : decode b_Gs_deliver 4 = .ok (.iload_n 1, 1) := by decide +kernel
theorem d_Gs_deliver_5 : decode b_Gs_deliver 5 = .ok (.invokevirtual 74, 3) := by decide +kernel
theorem d_Gs_deliver_8 : decode b_Gs_deliver 8 = .ok (.ifCond .ne 5, 3) := by decide +kernel
theorem d_Gs_deliver_11 : decode b_Gs_deliver 11 = .ok (.iconst (-1), 1) := by decide +kernel
theorem d_Gs_deliver_12 : decode b_Gs_deliver 12 = .ok (.ireturn, 1) := by decide +kernel
theorem d_Gs_deliver_13 : decode b_Gs_deliver 13 = .ok (.aload_n 0, 1) := by decide +kernel
theorem d_Gs_deliver_14 : decode b_Gs_deliver 14 = .ok (.getfield 29, 3) := by decide +kernel
theorem d_Gs_deliver_17 : decode b_Gs_deliver 17 = .ok (.getfield 77, 3) := by decide +kernel
theorem d_Gs_deliver_20 : decode b_Gs_deliver 20 = .ok (.iload_n 1, 1) := by decide +kernel
theorem d_Gs_deliver_21 : decode b_Gs_deliver 21 = .ok (.iaload, 1) := by decide +kernel
theorem d_Gs_deliver_22 : decode b_Gs_deliver 22 = .ok (.istore_n 2, 1) := by decide +kernel
theorem d_Gs_deliver_23 : decode b_Gs_deliver 23 = .ok (.aload_n 0, 1) := by decide +kernel
theorem d_Gs_deliver_24 : decode b_Gs_deliver 24 = .ok (.getfield 29, 3) := by decide +kernel
theorem d_Gs_deliver_27 : decode b_Gs_deliver 27 = .ok (.iload_n 1, 1) := by decide +kernel
theorem d_Gs_deliver_28 : decode b_Gs_deliver 28 = .ok (.invokevirtual 80, 3) := by decide +kernel
theorem d_Gs_deliver_31 : decode b_Gs_deliver 31 = .ok (.aload_n 0, 1) := by decide +kernel
theorem d_Gs_deliver_32 : decode b_Gs_deliver 32 = .ok (.getfield 19, 3) := by decide +kernel
theorem d_Gs_deliver_35 : decode b_Gs_deliver 35 = .ok (.iload_n 2, 1) := by decide +kernel
theorem d_Gs_deliver_36 : decode b_Gs_deliver 36 = .ok (.invokestatic 84, 3) := by decide +kernel
theorem d_Gs_deliver_39 : decode b_Gs_deliver 39 = .ok (.aaload, 1) := by decide +kernel
theorem d_Gs_deliver_40 : decode b_Gs_deliver 40 = .ok (.astore_n 3, 1) := by decide +kernel
theorem d_Gs_deliver_41 : decode b_Gs_deliver 41 = .ok (.aload_n 3, 1) := by decide +kernel
theorem d_Gs_deliver_42 : decode b_Gs_deliver 42 = .ok (.getfield 88, 3) := by decide +kernel
theorem d_Gs_deliver_45 : decode b_Gs_deliver 45 = .ok (.iload_n 2, 1) := by decide +kernel
theorem d_Gs_deliver_46 : decode b_Gs_deliver 46 = .ok (.invokestatic 92, 3) := by decide +kernel
theorem d_Gs_deliver_49 : decode b_Gs_deliver 49 = .ok (.aaload, 1) := by decide +kernel
theorem d_Gs_deliver_50 : decode b_Gs_deliver 50 = .ok (.astore 4, 2) := by decide +kernel
theorem d_Gs_deliver_52 : decode b_Gs_deliver 52 = .ok (.iload_n 2, 1) := by decide +kernel
theorem d_Gs_deliver_53 : decode b_Gs_deliver 53 = .ok (.invokestatic 95, 3) := by decide +kernel
theorem d_Gs_deliver_56 : decode b_Gs_deliver 56 = .ok (.iconst 1, 1) := by decide +kernel
theorem d_Gs_deliver_57 : decode b_Gs_deliver 57 = .ok (.if_icmp .ne 21, 3) := by decide +kernel
theorem d_Gs_deliver_60 : decode b_Gs_deliver 60 = .ok (.aload 4, 2) := by decide +kernel
theorem d_Gs_deliver_62 : decode b_Gs_deliver 62 = .ok (.iload_n 2, 1) := by decide +kernel
theorem d_Gs_deliver_63 : decode b_Gs_deliver 63 = .ok (.invokestatic 98, 3) := by decide +kernel
theorem d_Gs_deliver_66 : decode b_Gs_deliver 66 = .ok (.invokevirtual 101, 3) := by decide +kernel
theorem d_Gs_deliver_69 : decode b_Gs_deliver 69 = .ok (.ifCond .eq 7, 3) := by decide +kernel
theorem d_Gs_deliver_72 : decode b_Gs_deliver 72 = .ok (.iconst 4, 1) := by decide +kernel
theorem d_Gs_deliver_73 : decode b_Gs_deliver 73 = .ok (.goto 4, 3) := by decide +kernel
theorem d_Gs_deliver_76 : decode b_Gs_deliver 76 = .ok (.iconst 5, 1) := by decide +kernel
theorem d_Gs_deliver_77 : decode b_Gs_deliver 77 = .ok (.ireturn, 1) := by decide +kernel
theorem d_Gs_deliver_78 : decode b_Gs_deliver 78 = .ok (.aload_n 0, 1) := by decide +kernel
theorem d_Gs_deliver_79 : decode b_Gs_deliver 79 = .ok (.aload_n 3, 1) := by decide +kernel
theorem d_Gs_deliver_80 : decode b_Gs_deliver 80 = .ok (.aload 4, 2) := by decide +kernel
theorem d_Gs_deliver_82 : decode b_Gs_deliver 82 = .ok (.iload_n 2, 1) := by decide +kernel
theorem d_Gs_deliver_83 : decode b_Gs_deliver 83 = .ok (.invokestatic 98, 3) := by decide +kernel
theorem d_Gs_deliver_86 : decode b_Gs_deliver 86 = .ok (.invokevirtual 104, 3) := by decide +kernel
theorem d_Gs_deliver_89 : decode b_Gs_deliver 89 = .ok (.ireturn, 1) := by decide +kernel
theorem d_Gs_drop_0 : decode b_Gs_drop 0 = .ok (.aload_n 0, 1) := by decide +kernel
theorem d_Gs_drop_1 : decode b_Gs_drop 1 = .ok (.getfield 29, 3) := by decide +kernel
theorem d_Gs_drop_4 : decode b_Gs_drop 4 = .ok (.iload_n 1, 1) := by decide +kernel
theorem d_Gs_drop_5 : decode b_Gs_drop 5 = .ok (.invokevirtual 74, 3) := by decide +kernel
theorem d_Gs_drop_8 : decode b_Gs_drop 8 = .ok (.ifCond .ne 5, 3) := by decide +kernel
theorem d_Gs_drop_11 : decode b_Gs_drop 11 = .ok (.iconst 0, 1) := by decide +kernel
theorem d_Gs_drop_12 : decode b_Gs_drop 12 = .ok (.ireturn, 1) := by decide +kernel
theorem d_Gs_drop_13 : decode b_Gs_drop 13 = .ok (.aload_n 0, 1) := by decide +kernel
theorem d_Gs_drop_14 : decode b_Gs_drop 14 = .ok (.getfield 29, 3) := by decide +kernel
theorem d_Gs_drop_17 : decode b_Gs_drop 17 = .ok (.iload_n 1, 1) := by decide +kernel
theorem d_Gs_drop_18 : decode b_Gs_drop 18 = .ok (.invokevirtual 80, 3) := by decide +kernel
theorem d_Gs_drop_21 : decode b_Gs_drop 21 = .ok (.iconst 1, 1) := by decide +kernel
theorem d_Gs_drop_22 : decode b_Gs_drop 22 = .ok (.ireturn, 1) := by decide +kernel
theorem d_Gs_copy_0 : decode b_Gs_copy 0 = .ok (.aload_n 0, 1) := by decide +kernel
theorem d_Gs_copy_1 : decode b_Gs_copy 1 = .ok (.getfield 29, 3) := by decide +kernel
theorem d_Gs_copy_4 : decode b_Gs_copy 4 = .ok (.iload_n 1, 1) := by decide +kernel
theorem d_Gs_copy_5 : decode b_Gs_copy 5 = .ok (.invokevirtual 74, 3) := by decide +kernel
theorem d_Gs_copy_8 : decode b_Gs_copy 8 = .ok (.ifCond .eq 13, 3) := by decide +kernel
theorem d_Gs_copy_11 : decode b_Gs_copy 11 = .ok (.aload_n 0, 1) := by decide +kernel
theorem d_Gs_copy_12 : decode b_Gs_copy 12 = .ok (.getfield 29, 3) := by decide +kernel
theorem d_Gs_copy_15 : decode b_Gs_copy 15 = .ok (.invokevirtual 108, 3) := by decide +kernel
theorem d_Gs_copy_18 : decode b_Gs_copy 18 = .ok (.ifCond .eq 5, 3) := by decide +kernel
theorem d_Gs_copy_21 : decode b_Gs_copy 21 = .ok (.iconst 0, 1) := by decide +kernel
theorem d_Gs_copy_22 : decode b_Gs_copy 22 = .ok (.ireturn, 1) := by decide +kernel
theorem d_Gs_copy_23 : decode b_Gs_copy 23 = .ok (.aload_n 0, 1) := by decide +kernel
theorem d_Gs_copy_24 : decode b_Gs_copy 24 = .ok (.getfield 29, 3) := by decide +kernel
theorem d_Gs_copy_27 : decode b_Gs_copy 27 = .ok (.aload_n 0, 1) := by decide +kernel
theorem d_Gs_copy_28 : decode b_Gs_copy 28 = .ok (.getfield 29, 3) := by decide +kernel
theorem d_Gs_copy_31 : decode b_Gs_copy 31 = .ok (.getfield 77, 3) := by decide +kernel
theorem d_Gs_copy_34 : decode b_Gs_copy 34 = .ok (.iload_n 1, 1) := by decide +kernel
theorem d_Gs_copy_35 : decode b_Gs_copy 35 = .ok (.iaload, 1) := by decide +kernel
theorem d_Gs_copy_36 : decode b_Gs_copy 36 = .ok (.invokevirtual 112, 3) := by decide +kernel
theorem d_Gs_copy_39 : decode b_Gs_copy 39 = .ok (.iconst 1, 1) := by decide +kernel
theorem d_Gs_copy_40 : decode b_Gs_copy 40 = .ok (.ireturn, 1) := by decide +kernel
theorem d_Gs_tick_0 : decode b_Gs_tick 0 = .ok (.aload_n 0, 1) := by decide +kernel
theorem d_Gs_tick_1 : decode b_Gs_tick 1 = .ok (.dup, 1) := by decide +kernel
theorem d_Gs_tick_2 : decode b_Gs_tick 2 = .ok (.getfield 115, 3) := by decide +kernel
theorem d_Gs_tick_5 : decode b_Gs_tick 5 = .ok (.iconst 1, 1) := by decide +kernel
theorem d_Gs_tick_6 : decode b_Gs_tick 6 = .ok (.iadd, 1) := by decide +kernel
theorem d_Gs_tick_7 : decode b_Gs_tick 7 = .ok (.putfield 115, 3) := by decide +kernel
theorem d_Gs_tick_10 : decode b_Gs_tick 10 = .ok (.iconst 0, 1) := by decide +kernel
theorem d_Gs_tick_11 : decode b_Gs_tick 11 = .ok (.istore_n 1, 1) := by decide +kernel
theorem d_Gs_tick_12 : decode b_Gs_tick 12 = .ok (.iconst 0, 1) := by decide +kernel
theorem d_Gs_tick_13 : decode b_Gs_tick 13 = .ok (.istore_n 2, 1) := by decide +kernel
theorem d_Gs_tick_14 : decode b_Gs_tick 14 = .ok (.iload_n 2, 1) := by decide +kernel
theorem d_Gs_tick_15 : decode b_Gs_tick 15 = .ok (.aload_n 0, 1) := by decide +kernel
theorem d_Gs_tick_16 : decode b_Gs_tick 16 = .ok (.getfield 13, 3) := by decide +kernel
theorem d_Gs_tick_19 : decode b_Gs_tick 19 = .ok (.arraylength, 1) := by decide +kernel
theorem d_Gs_tick_20 : decode b_Gs_tick 20 = .ok (.if_icmp .ge 56, 3) := by decide +kernel
theorem d_Gs_tick_23 : decode b_Gs_tick 23 = .ok (.iconst 0, 1) := by decide +kernel
theorem d_Gs_tick_24 : decode b_Gs_tick 24 = .ok (.istore_n 3, 1) := by decide +kernel
theorem d_Gs_tick_25 : decode b_Gs_tick 25 = .ok (.iload_n 3, 1) := by decide +kernel
theorem d_Gs_tick_26 : decode b_Gs_tick 26 = .ok (.iconst 3, 1) := by decide +kernel
theorem d_Gs_tick_27 : decode b_Gs_tick 27 = .ok (.if_icmp .ge 43, 3) := by decide +kernel
theorem d_Gs_tick_30 : decode b_Gs_tick 30 = .ok (.aload_n 0, 1) := by decide +kernel
theorem d_Gs_tick_31 : decode b_Gs_tick 31 = .ok (.iload_n 2, 1) := by decide +kernel
theorem d_Gs_tick_32 : decode b_Gs_tick 32 = .ok (.iload_n 3, 1) := by decide +kernel
theorem d_Gs_tick_33 : decode b_Gs_tick 33 = .ok (.invokevirtual 43, 3) := by decide +kernel
theorem d_Gs_tick_36 : decode b_Gs_tick 36 = .ok (.astore 4, 2) := by decide +kernel
theorem d_Gs_tick_38 : decode b_Gs_tick 38 = .ok (.aload 4, 2) := by decide +kernel
theorem d_Gs_tick_40 : decode b_Gs_tick 40 = .ok (.aload_n 0, 1) := by decide +kernel
theorem d_Gs_tick_41 : decode b_Gs_tick 41 = .ok (.getfield 115, 3) := by decide +kernel
theorem d_Gs_tick_44 : decode b_Gs_tick 44 = .ok (.invokevirtual 118, 3) := by decide +kernel
theorem d_Gs_tick_47 : decode b_Gs_tick 47 = .ok (.ifCond .eq 17, 3) := by decide +kernel
theorem d_Gs_tick_50 : decode b_Gs_tick 50 = .ok (.aload_n 0, 1) := by decide +kernel
theorem d_Gs_tick_51 : decode b_Gs_tick 51 = .ok (.aload 4, 2) := by decide +kernel
theorem d_Gs_tick_53 : decode b_Gs_tick 53 = .ok (.aload 4, 2) := by decide +kernel
theorem d_Gs_tick_55 : decode b_Gs_tick 55 = .ok (.getfield 121, 3) := by decide +kernel
theorem d_Gs_tick_58 : decode b_Gs_tick 58 = .ok (.invokevirtual 124, 3) := by decide +kernel
theorem d_Gs_tick_61 : decode b_Gs_tick 61 = .ok (.iinc 1 1, 3) := by decide +kernel
theorem d_Gs_tick_64 : decode b_Gs_tick 64 = .ok (.iinc 3 1, 3) := by decide +kernel
theorem d_Gs_tick_67 : decode b_Gs_tick 67 = .ok (.goto (-42), 3) := by decide +kernel
theorem d_Gs_tick_70 : decode b_Gs_tick 70 = .ok (.iinc 2 1, 3) := by decide +kernel
theorem d_Gs_tick_73 : decode b_Gs_tick 73 = .ok (.goto (-59), 3) := by decide +kernel
theorem d_Gs_tick_76 : decode b_Gs_tick 76 = .ok (.aload_n 0, 1) := by decide +kernel
theorem d_Gs_tick_77 : decode b_Gs_tick 77 = .ok (.dup, 1) := by decide +kernel
theorem d_Gs_tick_78 : decode b_Gs_tick 78 = .ok (.getfield 128, 3) := by decide +kernel
theorem d_Gs_tick_81 : decode b_Gs_tick 81 = .ok (.iload_n 1, 1) := by decide +kernel
theorem d_Gs_tick_82 : decode b_Gs_tick 82 = .ok (.iadd, 1) := by decide +kernel
theorem d_Gs_tick_83 : decode b_Gs_tick 83 = .ok (.putfield 128, 3) := by decide +kernel
theorem d_Gs_tick_86 : decode b_Gs_tick 86 = .ok (.iload_n 1, 1) := by decide +kernel
theorem d_Gs_tick_87 : decode b_Gs_tick 87 = .ok (.ireturn, 1) := by decide +kernel
theorem d_Gs_run_0 : decode b_Gs_run 0 = .ok (.iload_n 1, 1) := by decide +kernel
theorem d_Gs_run_1 : decode b_Gs_run 1 = .ok (.iconst 1, 1) := by decide +kernel
theorem d_Gs_run_2 : decode b_Gs_run 2 = .ok (.if_icmp .lt 9, 3) := by decide +kernel
theorem d_Gs_run_5 : decode b_Gs_run 5 = .ok (.iload_n 1, 1) := by decide +kernel
theorem d_Gs_run_6 : decode b_Gs_run 6 = .ok (.bipush 20, 2) := by decide +kernel
theorem d_Gs_run_8 : decode b_Gs_run 8 = .ok (.if_icmp .le 5, 3) := by decide +kernel
theorem d_Gs_run_11 : decode b_Gs_run 11 = .ok (.iconst (-1), 1) := by decide +kernel
theorem d_Gs_run_12 : decode b_Gs_run 12 = .ok (.ireturn, 1) := by decide +kernel
theorem d_Gs_run_13 : decode b_Gs_run 13 = .ok (.iconst 0, 1) := by decide +kernel
theorem d_Gs_run_14 : decode b_Gs_run 14 = .ok (.istore_n 2, 1) := by decide +kernel
theorem d_Gs_run_15 : decode b_Gs_run 15 = .ok (.iconst 0, 1) := by decide +kernel
theorem d_Gs_run_16 : decode b_Gs_run 16 = .ok (.istore_n 3, 1) := by decide +kernel
theorem d_Gs_run_17 : decode b_Gs_run 17 = .ok (.iload_n 3, 1) := by decide +kernel
theorem d_Gs_run_18 : decode b_Gs_run 18 = .ok (.iload_n 1, 1) := by decide +kernel
theorem d_Gs_run_19 : decode b_Gs_run 19 = .ok (.if_icmp .ge 36, 3) := by decide +kernel
theorem d_Gs_run_22 : decode b_Gs_run 22 = .ok (.aload_n 0, 1) := by decide +kernel
theorem d_Gs_run_23 : decode b_Gs_run 23 = .ok (.getfield 29, 3) := by decide +kernel
theorem d_Gs_run_26 : decode b_Gs_run 26 = .ok (.getfield 131, 3) := by decide +kernel
theorem d_Gs_run_29 : decode b_Gs_run 29 = .ok (.ifCond .le 15, 3) := by decide +kernel
theorem d_Gs_run_32 : decode b_Gs_run 32 = .ok (.aload_n 0, 1) := by decide +kernel
theorem d_Gs_run_33 : decode b_Gs_run 33 = .ok (.iconst 0, 1) := by decide +kernel
theorem d_Gs_run_34 : decode b_Gs_run 34 = .ok (.invokevirtual 134, 3) := by decide +kernel
theorem d_Gs_run_37 : decode b_Gs_run 37 = .ok (.pop, 1) := by decide +kernel
theorem d_Gs_run_38 : decode b_Gs_run 38 = .ok (.iinc 2 1, 3) := by decide +kernel
theorem d_Gs_run_41 : decode b_Gs_run 41 = .ok (.goto 8, 3) := by decide +kernel
theorem d_Gs_run_44 : decode b_Gs_run 44 = .ok (.aload_n 0, 1) := by decide +kernel
theorem d_Gs_run_45 : decode b_Gs_run 45 = .ok (.invokevirtual 137, 3) := by decide +kernel
theorem d_Gs_run_48 : decode b_Gs_run 48 = .ok (.pop, 1) := by decide +kernel
theorem d_Gs_run_49 : decode b_Gs_run 49 = .ok (.iinc 3 1, 3) := by decide +kernel
theorem d_Gs_run_52 : decode b_Gs_run 52 = .ok (.goto (-35), 3) := by decide +kernel
theorem d_Gs_run_55 : decode b_Gs_run 55 = .ok (.iload_n 2, 1) := by decide +kernel
theorem d_Gs_run_56 : decode b_Gs_run 56 = .ok (.ireturn, 1) := by decide +kernel
theorem d_Gs_kill_0 : decode b_Gs_kill 0 = .ok (.aload_n 0, 1) := by decide +kernel
theorem d_Gs_kill_1 : decode b_Gs_kill 1 = .ok (.iload_n 1, 1) := by decide +kernel
theorem d_Gs_kill_2 : decode b_Gs_kill 2 = .ok (.invokevirtual 140, 3) := by decide +kernel
theorem d_Gs_kill_5 : decode b_Gs_kill 5 = .ok (.ifCond .ne 5, 3) := by decide +kernel
theorem d_Gs_kill_8 : decode b_Gs_kill 8 = .ok (.iconst 0, 1) := by decide +kernel
theorem d_Gs_kill_9 : decode b_Gs_kill 9 = .ok (.ireturn, 1) := by decide +kernel
theorem d_Gs_kill_10 : decode b_Gs_kill 10 = .ok (.aload_n 0, 1) := by decide +kernel
theorem d_Gs_kill_11 : decode b_Gs_kill 11 = .ok (.getfield 19, 3) := by decide +kernel
theorem d_Gs_kill_14 : decode b_Gs_kill 14 = .ok (.iload_n 1, 1) := by decide +kernel
theorem d_Gs_kill_15 : decode b_Gs_kill 15 = .ok (.aaload, 1) := by decide +kernel
theorem d_Gs_kill_16 : decode b_Gs_kill 16 = .ok (.iconst 0, 1) := by decide +kernel
theorem d_Gs_kill_17 : decode b_Gs_kill 17 = .ok (.putfield 60, 3) := by decide +kernel
theorem d_Gs_kill_20 : decode b_Gs_kill 20 = .ok (.aload_n 0, 1) := by decide +kernel
theorem d_Gs_kill_21 : decode b_Gs_kill 21 = .ok (.getfield 29, 3) := by decide +kernel
theorem d_Gs_kill_24 : decode b_Gs_kill 24 = .ok (.iload_n 1, 1) := by decide +kernel
theorem d_Gs_kill_25 : decode b_Gs_kill 25 = .ok (.invokevirtual 143, 3) := by decide +kernel
theorem d_Gs_kill_28 : decode b_Gs_kill 28 = .ok (.iconst 1, 1) := by decide +kernel
theorem d_Gs_kill_29 : decode b_Gs_kill 29 = .ok (.ireturn, 1) := by decide +kernel
theorem d_Gs_recover_0 : decode b_Gs_recover 0 = .ok (.iload_n 1, 1) := by decide +kernel
theorem d_Gs_recover_1 : decode b_Gs_recover 1 = .ok (.invokestatic 146, 3) := by decide +kernel
theorem d_Gs_recover_4 : decode b_Gs_recover 4 = .ok (.ifCond .eq 15, 3) := by decide +kernel
theorem d_Gs_recover_7 : decode b_Gs_recover 7 = .ok (.aload_n 0, 1) := by decide +kernel
theorem d_Gs_recover_8 : decode b_Gs_recover 8 = .ok (.getfield 19, 3) := by decide +kernel
theorem d_Gs_recover_11 : decode b_Gs_recover 11 = .ok (.iload_n 1, 1) := by decide +kernel
theorem d_Gs_recover_12 : decode b_Gs_recover 12 = .ok (.aaload, 1) := by decide +kernel
theorem d_Gs_recover_13 : decode b_Gs_recover 13 = .ok (.getfield 60, 3) := by decide +kernel
theorem d_Gs_recover_16 : decode b_Gs_recover 16 = .ok (.ifCond .eq 5, 3) := by decide +kernel
theorem d_Gs_recover_19 : decode b_Gs_recover 19 = .ok (.iconst 0, 1) := by decide +kernel
theorem d_Gs_recover_20 : decode b_Gs_recover 20 = .ok (.ireturn, 1) := by decide +kernel
theorem d_Gs_recover_21 : decode b_Gs_recover 21 = .ok (.aload_n 0, 1) := by decide +kernel
theorem d_Gs_recover_22 : decode b_Gs_recover 22 = .ok (.getfield 19, 3) := by decide +kernel
theorem d_Gs_recover_25 : decode b_Gs_recover 25 = .ok (.iload_n 1, 1) := by decide +kernel
theorem d_Gs_recover_26 : decode b_Gs_recover 26 = .ok (.aaload, 1) := by decide +kernel
theorem d_Gs_recover_27 : decode b_Gs_recover 27 = .ok (.invokevirtual 149, 3) := by decide +kernel
theorem d_Gs_recover_30 : decode b_Gs_recover 30 = .ok (.aload_n 0, 1) := by decide +kernel
theorem d_Gs_recover_31 : decode b_Gs_recover 31 = .ok (.dup, 1) := by decide +kernel
theorem d_Gs_recover_32 : decode b_Gs_recover 32 = .ok (.getfield 152, 3) := by decide +kernel
theorem d_Gs_recover_35 : decode b_Gs_recover 35 = .ok (.iconst 1, 1) := by decide +kernel
theorem d_Gs_recover_36 : decode b_Gs_recover 36 = .ok (.iadd, 1) := by decide +kernel
theorem d_Gs_recover_37 : decode b_Gs_recover 37 = .ok (.putfield 152, 3) := by decide +kernel
theorem d_Gs_recover_40 : decode b_Gs_recover 40 = .ok (.iconst 1, 1) := by decide +kernel
theorem d_Gs_recover_41 : decode b_Gs_recover 41 = .ok (.ireturn, 1) := by decide +kernel
theorem d_Gs_checkpoint_0 : decode b_Gs_checkpoint 0 = .ok (.aload_n 0, 1) := by decide +kernel
theorem d_Gs_checkpoint_1 : decode b_Gs_checkpoint 1 = .ok (.iload_n 1, 1) := by decide +kernel
theorem d_Gs_checkpoint_2 : decode b_Gs_checkpoint 2 = .ok (.invokevirtual 140, 3) := by decide +kernel
theorem d_Gs_checkpoint_5 : decode b_Gs_checkpoint 5 = .ok (.ifCond .ne 5, 3) := by decide +kernel
theorem d_Gs_checkpoint_8 : decode b_Gs_checkpoint 8 = .ok (.iconst (-1), 1) := by decide +kernel
theorem d_Gs_checkpoint_9 : decode b_Gs_checkpoint 9 = .ok (.ireturn, 1) := by decide +kernel
theorem d_Gs_checkpoint_10 : decode b_Gs_checkpoint 10 = .ok (.aload_n 0, 1) := by decide +kernel
theorem d_Gs_checkpoint_11 : decode b_Gs_checkpoint 11 = .ok (.dup, 1) := by decide +kernel
theorem d_Gs_checkpoint_12 : decode b_Gs_checkpoint 12 = .ok (.getfield 155, 3) := by decide +kernel
theorem d_Gs_checkpoint_15 : decode b_Gs_checkpoint 15 = .ok (.iconst 1, 1) := by decide +kernel
theorem d_Gs_checkpoint_16 : decode b_Gs_checkpoint 16 = .ok (.iadd, 1) := by decide +kernel
theorem d_Gs_checkpoint_17 : decode b_Gs_checkpoint 17 = .ok (.putfield 155, 3) := by decide +kernel
theorem d_Gs_checkpoint_20 : decode b_Gs_checkpoint 20 = .ok (.aload_n 0, 1) := by decide +kernel
theorem d_Gs_checkpoint_21 : decode b_Gs_checkpoint 21 = .ok (.getfield 19, 3) := by decide +kernel
theorem d_Gs_checkpoint_24 : decode b_Gs_checkpoint 24 = .ok (.iload_n 1, 1) := by decide +kernel
theorem d_Gs_checkpoint_25 : decode b_Gs_checkpoint 25 = .ok (.aaload, 1) := by decide +kernel
theorem d_Gs_checkpoint_26 : decode b_Gs_checkpoint 26 = .ok (.invokevirtual 158, 3) := by decide +kernel
theorem d_Gs_checkpoint_29 : decode b_Gs_checkpoint 29 = .ok (.ireturn, 1) := by decide +kernel
theorem d_Gs_done_0 : decode b_Gs_done 0 = .ok (.aload_n 0, 1) := by decide +kernel
theorem d_Gs_done_1 : decode b_Gs_done 1 = .ok (.iload_n 1, 1) := by decide +kernel
theorem d_Gs_done_2 : decode b_Gs_done 2 = .ok (.invokevirtual 140, 3) := by decide +kernel
theorem d_Gs_done_5 : decode b_Gs_done 5 = .ok (.ifCond .eq 15, 3) := by decide +kernel
theorem d_Gs_done_8 : decode b_Gs_done 8 = .ok (.aload_n 0, 1) := by decide +kernel
theorem d_Gs_done_9 : decode b_Gs_done 9 = .ok (.getfield 19, 3) := by decide +kernel
theorem d_Gs_done_12 : decode b_Gs_done 12 = .ok (.iload_n 1, 1) := by decide +kernel
theorem d_Gs_done_13 : decode b_Gs_done 13 = .ok (.aaload, 1) := by decide +kernel
theorem d_Gs_done_14 : decode b_Gs_done 14 = .ok (.getfield 64, 3) := by decide +kernel
theorem d_Gs_done_17 : decode b_Gs_done 17 = .ok (.goto 4, 3) := by decide +kernel
theorem d_Gs_done_20 : decode b_Gs_done 20 = .ok (.iconst (-1), 1) := by decide +kernel
theorem d_Gs_done_21 : decode b_Gs_done 21 = .ok (.ireturn, 1) := by decide +kernel
theorem d_Gs_early_0 : decode b_Gs_early 0 = .ok (.aload_n 0, 1) := by decide +kernel
theorem d_Gs_early_1 : decode b_Gs_early 1 = .ok (.iload_n 1, 1) := by decide +kernel
theorem d_Gs_early_2 : decode b_Gs_early 2 = .ok (.invokevirtual 140, 3) := by decide +kernel
theorem d_Gs_early_5 : decode b_Gs_early 5 = .ok (.ifCond .eq 15, 3) := by decide +kernel
theorem d_Gs_early_8 : decode b_Gs_early 8 = .ok (.aload_n 0, 1) := by decide +kernel
theorem d_Gs_early_9 : decode b_Gs_early 9 = .ok (.getfield 19, 3) := by decide +kernel
theorem d_Gs_early_12 : decode b_Gs_early 12 = .ok (.iload_n 1, 1) := by decide +kernel
theorem d_Gs_early_13 : decode b_Gs_early 13 = .ok (.aaload, 1) := by decide +kernel
theorem d_Gs_early_14 : decode b_Gs_early 14 = .ok (.invokevirtual 161, 3) := by decide +kernel
theorem d_Gs_early_17 : decode b_Gs_early 17 = .ok (.goto 4, 3) := by decide +kernel
theorem d_Gs_early_20 : decode b_Gs_early 20 = .ok (.iconst (-1), 1) := by decide +kernel
theorem d_Gs_early_21 : decode b_Gs_early 21 = .ok (.ireturn, 1) := by decide +kernel
theorem d_Gs_kept_0 : decode b_Gs_kept 0 = .ok (.aload_n 0, 1) := by decide +kernel
theorem d_Gs_kept_1 : decode b_Gs_kept 1 = .ok (.iload_n 1, 1) := by decide +kernel
theorem d_Gs_kept_2 : decode b_Gs_kept 2 = .ok (.invokevirtual 33, 3) := by decide +kernel
theorem d_Gs_kept_5 : decode b_Gs_kept 5 = .ok (.ifCond .eq 22, 3) := by decide +kernel
theorem d_Gs_kept_8 : decode b_Gs_kept 8 = .ok (.iload_n 2, 1) := by decide +kernel
theorem d_Gs_kept_9 : decode b_Gs_kept 9 = .ok (.invokestatic 146, 3) := by decide +kernel
theorem d_Gs_kept_12 : decode b_Gs_kept 12 = .ok (.ifCond .eq 15, 3) := by decide +kernel
theorem d_Gs_kept_15 : decode b_Gs_kept 15 = .ok (.aload_n 0, 1) := by decide +kernel
theorem d_Gs_kept_16 : decode b_Gs_kept 16 = .ok (.iload_n 1, 1) := by decide +kernel
theorem d_Gs_kept_17 : decode b_Gs_kept 17 = .ok (.iload_n 2, 1) := by decide +kernel
theorem d_Gs_kept_18 : decode b_Gs_kept 18 = .ok (.invokevirtual 43, 3) := by decide +kernel
theorem d_Gs_kept_21 : decode b_Gs_kept 21 = .ok (.invokevirtual 47, 3) := by decide +kernel
theorem d_Gs_kept_24 : decode b_Gs_kept 24 = .ok (.goto 4, 3) := by decide +kernel
theorem d_Gs_kept_27 : decode b_Gs_kept 27 = .ok (.iconst (-1), 1) := by decide +kernel
theorem d_Gs_kept_28 : decode b_Gs_kept 28 = .ok (.ireturn, 1) := by decide +kernel
theorem d_Gs_unconfirmed_0 : decode b_Gs_unconfirmed 0 = .ok (.aload_n 0, 1) := by decide +kernel
theorem d_Gs_unconfirmed_1 : decode b_Gs_unconfirmed 1 = .ok (.iload_n 1, 1) := by decide +kernel
theorem d_Gs_unconfirmed_2 : decode b_Gs_unconfirmed 2 = .ok (.invokevirtual 33, 3) := by decide +kernel
theorem d_Gs_unconfirmed_5 : decode b_Gs_unconfirmed 5 = .ok (.ifCond .eq 22, 3) := by decide +kernel
theorem d_Gs_unconfirmed_8 : decode b_Gs_unconfirmed 8 = .ok (.iload_n 2, 1) := by decide +kernel
theorem d_Gs_unconfirmed_9 : decode b_Gs_unconfirmed 9 = .ok (.invokestatic 146, 3) := by decide +kernel
theorem d_Gs_unconfirmed_12 : decode b_Gs_unconfirmed 12 = .ok (.ifCond .eq 15, 3) := by decide +kernel
theorem d_Gs_unconfirmed_15 : decode b_Gs_unconfirmed 15 = .ok (.aload_n 0, 1) := by decide +kernel
theorem d_Gs_unconfirmed_16 : decode b_Gs_unconfirmed 16 = .ok (.iload_n 1, 1) := by decide +kernel
theorem d_Gs_unconfirmed_17 : decode b_Gs_unconfirmed 17 = .ok (.iload_n 2, 1) := by decide +kernel
theorem d_Gs_unconfirmed_18 : decode b_Gs_unconfirmed 18 = .ok (.invokevirtual 43, 3) := by decide +kernel
theorem d_Gs_unconfirmed_21 : decode b_Gs_unconfirmed 21 = .ok (.invokevirtual 164, 3) := by decide +kernel
theorem d_Gs_unconfirmed_24 : decode b_Gs_unconfirmed 24 = .ok (.goto 4, 3) := by decide +kernel
theorem d_Gs_unconfirmed_27 : decode b_Gs_unconfirmed 27 = .ok (.iconst (-1), 1) := by decide +kernel
theorem d_Gs_unconfirmed_28 : decode b_Gs_unconfirmed 28 = .ok (.ireturn, 1) := by decide +kernel
theorem d_Gs_packets_0 : decode b_Gs_packets 0 = .ok (.aload_n 0, 1) := by decide +kernel
theorem d_Gs_packets_1 : decode b_Gs_packets 1 = .ok (.getfield 29, 3) := by decide +kernel
theorem d_Gs_packets_4 : decode b_Gs_packets 4 = .ok (.getfield 131, 3) := by decide +kernel
theorem d_Gs_packets_7 : decode b_Gs_packets 7 = .ok (.ireturn, 1) := by decide +kernel
theorem d_Gs_packet_0 : decode b_Gs_packet 0 = .ok (.aload_n 0, 1) := by decide +kernel
theorem d_Gs_packet_1 : decode b_Gs_packet 1 = .ok (.getfield 29, 3) := by decide +kernel
theorem d_Gs_packet_4 : decode b_Gs_packet 4 = .ok (.iload_n 1, 1) := by decide +kernel
theorem d_Gs_packet_5 : decode b_Gs_packet 5 = .ok (.invokevirtual 74, 3) := by decide +kernel
theorem d_Gs_packet_8 : decode b_Gs_packet 8 = .ok (.ifCond .eq 15, 3) := by decide +kernel
theorem d_Gs_packet_11 : decode b_Gs_packet 11 = .ok (.aload_n 0, 1) := by decide +kernel
theorem d_Gs_packet_12 : decode b_Gs_packet 12 = .ok (.getfield 29, 3) := by decide +kernel
theorem d_Gs_packet_15 : decode b_Gs_packet 15 = .ok (.getfield 77, 3) := by decide +kernel
theorem d_Gs_packet_18 : decode b_Gs_packet 18 = .ok (.iload_n 1, 1) := by decide +kernel
theorem d_Gs_packet_19 : decode b_Gs_packet 19 = .ok (.iaload, 1) := by decide +kernel
theorem d_Gs_packet_20 : decode b_Gs_packet 20 = .ok (.goto 4, 3) := by decide +kernel
theorem d_Gs_packet_23 : decode b_Gs_packet 23 = .ok (.iconst (-1), 1) := by decide +kernel
theorem d_Gs_packet_24 : decode b_Gs_packet 24 = .ok (.ireturn, 1) := by decide +kernel
theorem d_Gs_count_0 : decode b_Gs_count 0 = .ok (.iload_n 1, 1) := by decide +kernel
theorem d_Gs_count_1 : decode b_Gs_count 1 = .ok (.tableswitch 75 0 5 #[39, 47, 55, 60, 65, 70], 39) := by decide +kernel
theorem d_Gs_count_40 : decode b_Gs_count 40 = .ok (.aload_n 0, 1) := by decide +kernel
theorem d_Gs_count_41 : decode b_Gs_count 41 = .ok (.getfield 29, 3) := by decide +kernel
theorem d_Gs_count_44 : decode b_Gs_count 44 = .ok (.getfield 167, 3) := by decide +kernel
theorem d_Gs_count_47 : decode b_Gs_count 47 = .ok (.ireturn, 1) := by decide +kernel
theorem d_Gs_count_48 : decode b_Gs_count 48 = .ok (.aload_n 0, 1) := by decide +kernel
theorem d_Gs_count_49 : decode b_Gs_count 49 = .ok (.getfield 29, 3) := by decide +kernel
theorem d_Gs_count_52 : decode b_Gs_count 52 = .ok (.getfield 170, 3) := by decide +kernel
theorem d_Gs_count_55 : decode b_Gs_count 55 = .ok (.ireturn, 1) := by decide +kernel
theorem d_Gs_count_56 : decode b_Gs_count 56 = .ok (.aload_n 0, 1) := by decide +kernel
theorem d_Gs_count_57 : decode b_Gs_count 57 = .ok (.getfield 128, 3) := by decide +kernel
theorem d_Gs_count_60 : decode b_Gs_count 60 = .ok (.ireturn, 1) := by decide +kernel
theorem d_Gs_count_61 : decode b_Gs_count 61 = .ok (.aload_n 0, 1) := by decide +kernel
theorem d_Gs_count_62 : decode b_Gs_count 62 = .ok (.getfield 173, 3) := by decide +kernel
theorem d_Gs_count_65 : decode b_Gs_count 65 = .ok (.ireturn, 1) := by decide +kernel
theorem d_Gs_count_66 : decode b_Gs_count 66 = .ok (.aload_n 0, 1) := by decide +kernel
theorem d_Gs_count_67 : decode b_Gs_count 67 = .ok (.getfield 155, 3) := by decide +kernel
theorem d_Gs_count_70 : decode b_Gs_count 70 = .ok (.ireturn, 1) := by decide +kernel
theorem d_Gs_count_71 : decode b_Gs_count 71 = .ok (.aload_n 0, 1) := by decide +kernel
theorem d_Gs_count_72 : decode b_Gs_count 72 = .ok (.getfield 152, 3) := by decide +kernel
theorem d_Gs_count_75 : decode b_Gs_count 75 = .ok (.ireturn, 1) := by decide +kernel
theorem d_Gs_count_76 : decode b_Gs_count 76 = .ok (.iconst (-1), 1) := by decide +kernel
theorem d_Gs_count_77 : decode b_Gs_count 77 = .ok (.ireturn, 1) := by decide +kernel
theorem d_Gs_isWorker_0 : decode b_Gs_isWorker 0 = .ok (.iload_n 1, 1) := by decide +kernel
theorem d_Gs_isWorker_1 : decode b_Gs_isWorker 1 = .ok (.ifCond .lt 16, 3) := by decide +kernel
theorem d_Gs_isWorker_4 : decode b_Gs_isWorker 4 = .ok (.iload_n 1, 1) := by decide +kernel
theorem d_Gs_isWorker_5 : decode b_Gs_isWorker 5 = .ok (.aload_n 0, 1) := by decide +kernel
theorem d_Gs_isWorker_6 : decode b_Gs_isWorker 6 = .ok (.getfield 13, 3) := by decide +kernel
theorem d_Gs_isWorker_9 : decode b_Gs_isWorker 9 = .ok (.arraylength, 1) := by decide +kernel
theorem d_Gs_isWorker_10 : decode b_Gs_isWorker 10 = .ok (.if_icmp .ge 7, 3) := by decide +kernel
theorem d_Gs_isWorker_13 : decode b_Gs_isWorker 13 = .ok (.iconst 1, 1) := by decide +kernel
theorem d_Gs_isWorker_14 : decode b_Gs_isWorker 14 = .ok (.goto 4, 3) := by decide +kernel
theorem d_Gs_isWorker_17 : decode b_Gs_isWorker 17 = .ok (.iconst 0, 1) := by decide +kernel
theorem d_Gs_isWorker_18 : decode b_Gs_isWorker 18 = .ok (.ireturn, 1) := by decide +kernel
theorem d_Gs_isKey_0 : decode b_Gs_isKey 0 = .ok (.iload_n 0, 1) := by decide +kernel
theorem d_Gs_isKey_1 : decode b_Gs_isKey 1 = .ok (.ifCond .lt 13, 3) := by decide +kernel
theorem d_Gs_isKey_4 : decode b_Gs_isKey 4 = .ok (.iload_n 0, 1) := by decide +kernel
theorem d_Gs_isKey_5 : decode b_Gs_isKey 5 = .ok (.bipush 6, 2) := by decide +kernel
theorem d_Gs_isKey_7 : decode b_Gs_isKey 7 = .ok (.if_icmp .ge 7, 3) := by decide +kernel
theorem d_Gs_isKey_10 : decode b_Gs_isKey 10 = .ok (.iconst 1, 1) := by decide +kernel
theorem d_Gs_isKey_11 : decode b_Gs_isKey 11 = .ok (.goto 4, 3) := by decide +kernel
theorem d_Gs_isKey_14 : decode b_Gs_isKey 14 = .ok (.iconst 0, 1) := by decide +kernel
theorem d_Gs_isKey_15 : decode b_Gs_isKey 15 = .ok (.ireturn, 1) := by decide +kernel
theorem d_Gs_isShard_0 : decode b_Gs_isShard 0 = .ok (.iload_n 0, 1) := by decide +kernel
theorem d_Gs_isShard_1 : decode b_Gs_isShard 1 = .ok (.ifCond .lt 12, 3) := by decide +kernel
theorem d_Gs_isShard_4 : decode b_Gs_isShard 4 = .ok (.iload_n 0, 1) := by decide +kernel
theorem d_Gs_isShard_5 : decode b_Gs_isShard 5 = .ok (.iconst 3, 1) := by decide +kernel
theorem d_Gs_isShard_6 : decode b_Gs_isShard 6 = .ok (.if_icmp .ge 7, 3) := by decide +kernel
theorem d_Gs_isShard_9 : decode b_Gs_isShard 9 = .ok (.iconst 1, 1) := by decide +kernel
theorem d_Gs_isShard_10 : decode b_Gs_isShard 10 = .ok (.goto 4, 3) := by decide +kernel
theorem d_Gs_isShard_13 : decode b_Gs_isShard 13 = .ok (.iconst 0, 1) := by decide +kernel
theorem d_Gs_isShard_14 : decode b_Gs_isShard 14 = .ok (.ireturn, 1) := by decide +kernel
theorem d_Gs_isUp_0 : decode b_Gs_isUp 0 = .ok (.iload_n 1, 1) := by decide +kernel
theorem d_Gs_isUp_1 : decode b_Gs_isUp 1 = .ok (.invokestatic 146, 3) := by decide +kernel
theorem d_Gs_isUp_4 : decode b_Gs_isUp 4 = .ok (.ifCond .eq 19, 3) := by decide +kernel
theorem d_Gs_isUp_7 : decode b_Gs_isUp 7 = .ok (.aload_n 0, 1) := by decide +kernel
theorem d_Gs_isUp_8 : decode b_Gs_isUp 8 = .ok (.getfield 19, 3) := by decide +kernel
theorem d_Gs_isUp_11 : decode b_Gs_isUp 11 = .ok (.iload_n 1, 1) := by decide +kernel
theorem d_Gs_isUp_12 : decode b_Gs_isUp 12 = .ok (.aaload, 1) := by decide +kernel
theorem d_Gs_isUp_13 : decode b_Gs_isUp 13 = .ok (.getfield 60, 3) := by decide +kernel
theorem d_Gs_isUp_16 : decode b_Gs_isUp 16 = .ok (.ifCond .eq 7, 3) := by decide +kernel
theorem d_Gs_isUp_19 : decode b_Gs_isUp 19 = .ok (.iconst 1, 1) := by decide +kernel
theorem d_Gs_isUp_20 : decode b_Gs_isUp 20 = .ok (.goto 4, 3) := by decide +kernel
theorem d_Gs_isUp_23 : decode b_Gs_isUp 23 = .ok (.iconst 0, 1) := by decide +kernel
theorem d_Gs_isUp_24 : decode b_Gs_isUp 24 = .ok (.ireturn, 1) := by decide +kernel
theorem d_Gs_isHeld_0 : decode b_Gs_isHeld 0 = .ok (.aload_n 0, 1) := by decide +kernel
theorem d_Gs_isHeld_1 : decode b_Gs_isHeld 1 = .ok (.getfield 13, 3) := by decide +kernel
theorem d_Gs_isHeld_4 : decode b_Gs_isHeld 4 = .ok (.iload_n 1, 1) := by decide +kernel
theorem d_Gs_isHeld_5 : decode b_Gs_isHeld 5 = .ok (.iaload, 1) := by decide +kernel
theorem d_Gs_isHeld_6 : decode b_Gs_isHeld 6 = .ok (.istore_n 2, 1) := by decide +kernel
theorem d_Gs_isHeld_7 : decode b_Gs_isHeld 7 = .ok (.aload_n 0, 1) := by decide +kernel
theorem d_Gs_isHeld_8 : decode b_Gs_isHeld 8 = .ok (.getfield 13, 3) := by decide +kernel
theorem d_Gs_isHeld_11 : decode b_Gs_isHeld 11 = .ok (.astore_n 3, 1) := by decide +kernel
theorem d_Gs_isHeld_12 : decode b_Gs_isHeld 12 = .ok (.aload_n 3, 1) := by decide +kernel
theorem d_Gs_isHeld_13 : decode b_Gs_isHeld 13 = .ok (.arraylength, 1) := by decide +kernel
theorem d_Gs_isHeld_14 : decode b_Gs_isHeld 14 = .ok (.istore 4, 2) := by decide +kernel
theorem d_Gs_isHeld_16 : decode b_Gs_isHeld 16 = .ok (.iconst 0, 1) := by decide +kernel
theorem d_Gs_isHeld_17 : decode b_Gs_isHeld 17 = .ok (.istore 5, 2) := by decide +kernel
theorem d_Gs_isHeld_19 : decode b_Gs_isHeld 19 = .ok (.iload 5, 2) := by decide +kernel
theorem d_Gs_isHeld_21 : decode b_Gs_isHeld 21 = .ok (.iload 4, 2) := by decide +kernel
theorem d_Gs_isHeld_23 : decode b_Gs_isHeld 23 = .ok (.if_icmp .ge 22, 3) := by decide +kernel
theorem d_Gs_isHeld_26 : decode b_Gs_isHeld 26 = .ok (.aload_n 3, 1) := by decide +kernel
theorem d_Gs_isHeld_27 : decode b_Gs_isHeld 27 = .ok (.iload 5, 2) := by decide +kernel
theorem d_Gs_isHeld_29 : decode b_Gs_isHeld 29 = .ok (.iaload, 1) := by decide +kernel
theorem d_Gs_isHeld_30 : decode b_Gs_isHeld 30 = .ok (.istore 6, 2) := by decide +kernel
theorem d_Gs_isHeld_32 : decode b_Gs_isHeld 32 = .ok (.iload_n 2, 1) := by decide +kernel
theorem d_Gs_isHeld_33 : decode b_Gs_isHeld 33 = .ok (.iload 6, 2) := by decide +kernel
theorem d_Gs_isHeld_35 : decode b_Gs_isHeld 35 = .ok (.invokestatic 176, 3) := by decide +kernel
theorem d_Gs_isHeld_38 : decode b_Gs_isHeld 38 = .ok (.istore_n 2, 1) := by decide +kernel
theorem d_Gs_isHeld_39 : decode b_Gs_isHeld 39 = .ok (.iinc 5 1, 3) := by decide +kernel
theorem d_Gs_isHeld_42 : decode b_Gs_isHeld 42 = .ok (.goto (-23), 3) := by decide +kernel
theorem d_Gs_isHeld_45 : decode b_Gs_isHeld 45 = .ok (.aload_n 0, 1) := by decide +kernel
theorem d_Gs_isHeld_46 : decode b_Gs_isHeld 46 = .ok (.getfield 13, 3) := by decide +kernel
theorem d_Gs_isHeld_49 : decode b_Gs_isHeld 49 = .ok (.iload_n 1, 1) := by decide +kernel
theorem d_Gs_isHeld_50 : decode b_Gs_isHeld 50 = .ok (.iaload, 1) := by decide +kernel
theorem d_Gs_isHeld_51 : decode b_Gs_isHeld 51 = .ok (.iload_n 2, 1) := by decide +kernel
theorem d_Gs_isHeld_52 : decode b_Gs_isHeld 52 = .ok (.isub, 1) := by decide +kernel
theorem d_Gs_isHeld_53 : decode b_Gs_isHeld 53 = .ok (.aload_n 0, 1) := by decide +kernel
theorem d_Gs_isHeld_54 : decode b_Gs_isHeld 54 = .ok (.getfield 7, 3) := by decide +kernel
theorem d_Gs_isHeld_57 : decode b_Gs_isHeld 57 = .ok (.if_icmp .le 7, 3) := by decide +kernel
theorem d_Gs_isHeld_60 : decode b_Gs_isHeld 60 = .ok (.iconst 1, 1) := by decide +kernel
theorem d_Gs_isHeld_61 : decode b_Gs_isHeld 61 = .ok (.goto 4, 3) := by decide +kernel
theorem d_Gs_isHeld_64 : decode b_Gs_isHeld 64 = .ok (.iconst 0, 1) := by decide +kernel
theorem d_Gs_isHeld_65 : decode b_Gs_isHeld 65 = .ok (.ireturn, 1) := by decide +kernel
theorem d_Gs_keepsTooManyToEnd_0 : decode b_Gs_keepsTooManyToEnd 0 = .ok (.iconst 0, 1) := by decide +kernel
theorem d_Gs_keepsTooManyToEnd_1 : decode b_Gs_keepsTooManyToEnd 1 = .ok (.istore_n 2, 1) := by decide +kernel
theorem d_Gs_keepsTooManyToEnd_2 : decode b_Gs_keepsTooManyToEnd 2 = .ok (.iload_n 2, 1) := by decide +kernel
theorem d_Gs_keepsTooManyToEnd_3 : decode b_Gs_keepsTooManyToEnd 3 = .ok (.iconst 3, 1) := by decide +kernel
theorem d_Gs_keepsTooManyToEnd_4 : decode b_Gs_keepsTooManyToEnd 4 = .ok (.if_icmp .ge 25, 3) := by decide +kernel
theorem d_Gs_keepsTooManyToEnd_7 : decode b_Gs_keepsTooManyToEnd 7 = .ok (.aload_n 0, 1) := by decide +kernel
theorem d_Gs_keepsTooManyToEnd_8 : decode b_Gs_keepsTooManyToEnd 8 = .ok (.iload_n 1, 1) := by decide +kernel
theorem d_Gs_keepsTooManyToEnd_9 : decode b_Gs_keepsTooManyToEnd 9 = .ok (.iload_n 2, 1) := by decide +kernel
theorem d_Gs_keepsTooManyToEnd_10 : decode b_Gs_keepsTooManyToEnd 10 = .ok (.invokevirtual 43, 3) := by decide +kernel
theorem d_Gs_keepsTooManyToEnd_13 : decode b_Gs_keepsTooManyToEnd 13 = .ok (.invokevirtual 47, 3) := by decide +kernel
theorem d_Gs_keepsTooManyToEnd_16 : decode b_Gs_keepsTooManyToEnd 16 = .ok (.bipush 24, 2) := by decide +kernel
theorem d_Gs_keepsTooManyToEnd_18 : decode b_Gs_keepsTooManyToEnd 18 = .ok (.if_icmp .lt 5, 3) := by decide +kernel
theorem d_Gs_keepsTooManyToEnd_21 : decode b_Gs_keepsTooManyToEnd 21 = .ok (.iconst 1, 1) := by decide +kernel
theorem d_Gs_keepsTooManyToEnd_22 : decode b_Gs_keepsTooManyToEnd 22 = .ok (.ireturn, 1) := by decide +kernel
theorem d_Gs_keepsTooManyToEnd_23 : decode b_Gs_keepsTooManyToEnd 23 = .ok (.iinc 2 1, 3) := by decide +kernel
theorem d_Gs_keepsTooManyToEnd_26 : decode b_Gs_keepsTooManyToEnd 26 = .ok (.goto (-24), 3) := by decide +kernel
theorem d_Gs_keepsTooManyToEnd_29 : decode b_Gs_keepsTooManyToEnd 29 = .ok (.iconst 0, 1) := by decide +kernel
theorem d_Gs_keepsTooManyToEnd_30 : decode b_Gs_keepsTooManyToEnd 30 = .ok (.ireturn, 1) := by decide +kernel
