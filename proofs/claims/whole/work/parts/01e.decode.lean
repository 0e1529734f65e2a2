theorem d_Gs_linkOf_0 : decode b_Gs_linkOf 0 = .ok (.aload_n 0, 1) := by decide +kernel
theorem d_Gs_linkOf_1 : decode b_Gs_linkOf 1 = .ok (.getfield 19, 3) := by decide +kernel
theorem d_Gs_linkOf_4 : decode b_Gs_linkOf 4 = .ok (.iload_n 2, 1) := by decide +kernel
theorem d_Gs_linkOf_5 : decode b_Gs_linkOf 5 = .ok (.aaload, 1) := by decide +kernel
theorem d_Gs_linkOf_6 : decode b_Gs_linkOf 6 = .ok (.getfield 88, 3) := by decide +kernel
theorem d_Gs_linkOf_9 : decode b_Gs_linkOf 9 = .ok (.iload_n 1, 1) := by decide +kernel
theorem d_Gs_linkOf_10 : decode b_Gs_linkOf 10 = .ok (.aaload, 1) := by decide +kernel
theorem d_Gs_linkOf_11 : decode b_Gs_linkOf 11 = .ok (.areturn, 1) := by decide +kernel
theorem d_Gs_makeMessage_0 : decode b_Gs_makeMessage 0 = .ok (.aload_n 0, 1) := by decide +kernel
theorem d_Gs_makeMessage_1 : decode b_Gs_makeMessage 1 = .ok (.aload_n 1, 1) := by decide +kernel
theorem d_Gs_makeMessage_2 : decode b_Gs_makeMessage 2 = .ok (.aload_n 1, 1) := by decide +kernel
theorem d_Gs_makeMessage_3 : decode b_Gs_makeMessage 3 = .ok (.iload_n 2, 1) := by decide +kernel
theorem d_Gs_makeMessage_4 : decode b_Gs_makeMessage 4 = .ok (.iload_n 3, 1) := by decide +kernel
theorem d_Gs_makeMessage_5 : decode b_Gs_makeMessage 5 = .ok (.invokevirtual 182, 3) := by decide +kernel
theorem d_Gs_makeMessage_8 : decode b_Gs_makeMessage 8 = .ok (.invokevirtual 124, 3) := by decide +kernel
theorem d_Gs_makeMessage_11 : decode b_Gs_makeMessage 11 = .ok (.return_, 1) := by decide +kernel
theorem d_Gs_sendMessage_0 : decode b_Gs_sendMessage 0 = .ok (.aload_n 1, 1) := by decide +kernel
theorem d_Gs_sendMessage_1 : decode b_Gs_sendMessage 1 = .ok (.iload_n 2, 1) := by decide +kernel
theorem d_Gs_sendMessage_2 : decode b_Gs_sendMessage 2 = .ok (.aload_n 0, 1) := by decide +kernel
theorem d_Gs_sendMessage_3 : decode b_Gs_sendMessage 3 = .ok (.getfield 115, 3) := by decide +kernel
theorem d_Gs_sendMessage_6 : decode b_Gs_sendMessage 6 = .ok (.invokevirtual 185, 3) := by decide +kernel
theorem d_Gs_sendMessage_9 : decode b_Gs_sendMessage 9 = .ok (.aload_n 0, 1) := by decide +kernel
theorem d_Gs_sendMessage_10 : decode b_Gs_sendMessage 10 = .ok (.getfield 29, 3) := by decide +kernel
theorem d_Gs_sendMessage_13 : decode b_Gs_sendMessage 13 = .ok (.iconst 0, 1) := by decide +kernel
theorem d_Gs_sendMessage_14 : decode b_Gs_sendMessage 14 = .ok (.aload_n 1, 1) := by decide +kernel
theorem d_Gs_sendMessage_15 : decode b_Gs_sendMessage 15 = .ok (.iload_n 2, 1) := by decide +kernel
theorem d_Gs_sendMessage_16 : decode b_Gs_sendMessage 16 = .ok (.invokestatic 189, 3) := by decide +kernel
theorem d_Gs_sendMessage_19 : decode b_Gs_sendMessage 19 = .ok (.invokevirtual 112, 3) := by decide +kernel
theorem d_Gs_sendMessage_22 : decode b_Gs_sendMessage 22 = .ok (.return_, 1) := by decide +kernel
theorem d_Gs_arrive_0 : decode b_Gs_arrive 0 = .ok (.aload_n 1, 1) := by decide +kernel
theorem d_Gs_arrive_1 : decode b_Gs_arrive 1 = .ok (.getfield 60, 3) := by decide +kernel
theorem d_Gs_arrive_4 : decode b_Gs_arrive 4 = .ok (.ifCond .ne 5, 3) := by decide +kernel
theorem d_Gs_arrive_7 : decode b_Gs_arrive 7 = .ok (.iconst 3, 1) := by decide +kernel
theorem d_Gs_arrive_8 : decode b_Gs_arrive 8 = .ok (.ireturn, 1) := by decide +kernel
theorem d_Gs_arrive_9 : decode b_Gs_arrive 9 = .ok (.aload_n 2, 1) := by decide +kernel
theorem d_Gs_arrive_10 : decode b_Gs_arrive 10 = .ok (.iload_n 3, 1) := by decide +kernel
theorem d_Gs_arrive_11 : decode b_Gs_arrive 11 = .ok (.invokevirtual 193, 3) := by decide +kernel
theorem d_Gs_arrive_14 : decode b_Gs_arrive 14 = .ok (.istore 4, 2) := by decide +kernel
theorem d_Gs_arrive_16 : decode b_Gs_arrive 16 = .ok (.iload 4, 2) := by decide +kernel
theorem d_Gs_arrive_18 : decode b_Gs_arrive 18 = .ok (.ifCond .eq 16, 3) := by decide +kernel
theorem d_Gs_arrive_21 : decode b_Gs_arrive 21 = .ok (.aload_n 0, 1) := by decide +kernel
theorem d_Gs_arrive_22 : decode b_Gs_arrive 22 = .ok (.dup, 1) := by decide +kernel
theorem d_Gs_arrive_23 : decode b_Gs_arrive 23 = .ok (.getfield 173, 3) := by decide +kernel
theorem d_Gs_arrive_26 : decode b_Gs_arrive 26 = .ok (.iconst 1, 1) := by decide +kernel
theorem d_Gs_arrive_27 : decode b_Gs_arrive 27 = .ok (.iadd, 1) := by decide +kernel
theorem d_Gs_arrive_28 : decode b_Gs_arrive 28 = .ok (.putfield 173, 3) := by decide +kernel
theorem d_Gs_arrive_31 : decode b_Gs_arrive 31 = .ok (.goto 12, 3) := by decide +kernel
theorem d_Gs_arrive_34 : decode b_Gs_arrive 34 = .ok (.aload_n 2, 1) := by decide +kernel
theorem d_Gs_arrive_35 : decode b_Gs_arrive 35 = .ok (.iload_n 3, 1) := by decide +kernel
theorem d_Gs_arrive_36 : decode b_Gs_arrive 36 = .ok (.invokevirtual 196, 3) := by decide +kernel
theorem d_Gs_arrive_39 : decode b_Gs_arrive 39 = .ok (.aload_n 1, 1) := by decide +kernel
theorem d_Gs_arrive_40 : decode b_Gs_arrive 40 = .ok (.invokevirtual 199, 3) := by decide +kernel
theorem d_Gs_arrive_43 : decode b_Gs_arrive 43 = .ok (.aload_n 0, 1) := by decide +kernel
theorem d_Gs_arrive_44 : decode b_Gs_arrive 44 = .ok (.getfield 29, 3) := by decide +kernel
theorem d_Gs_arrive_47 : decode b_Gs_arrive 47 = .ok (.iconst 1, 1) := by decide +kernel
theorem d_Gs_arrive_48 : decode b_Gs_arrive 48 = .ok (.aload_n 2, 1) := by decide +kernel
theorem d_Gs_arrive_49 : decode b_Gs_arrive 49 = .ok (.aload_n 2, 1) := by decide +kernel
theorem d_Gs_arrive_50 : decode b_Gs_arrive 50 = .ok (.getfield 202, 3) := by decide +kernel
theorem d_Gs_arrive_53 : decode b_Gs_arrive 53 = .ok (.invokestatic 189, 3) := by decide +kernel
theorem d_Gs_arrive_56 : decode b_Gs_arrive 56 = .ok (.invokevirtual 112, 3) := by decide +kernel
theorem d_Gs_arrive_59 : decode b_Gs_arrive 59 = .ok (.iload 4, 2) := by decide +kernel
theorem d_Gs_arrive_61 : decode b_Gs_arrive 61 = .ok (.ifCond .eq 7, 3) := by decide +kernel
theorem d_Gs_arrive_64 : decode b_Gs_arrive 64 = .ok (.iconst 2, 1) := by decide +kernel
theorem d_Gs_arrive_65 : decode b_Gs_arrive 65 = .ok (.goto 4, 3) := by decide +kernel
theorem d_Gs_arrive_68 : decode b_Gs_arrive 68 = .ok (.iconst 1, 1) := by decide +kernel
theorem d_Gs_arrive_69 : decode b_Gs_arrive 69 = .ok (.ireturn, 1) := by decide +kernel
theorem d_Gs_bounded_0 : decode b_Gs_bounded 0 = .ok (.iload_n 0, 1) := by decide +kernel
theorem d_Gs_bounded_1 : decode b_Gs_bounded 1 = .ok (.bipush (-99), 2) := by decide +kernel
theorem d_Gs_bounded_3 : decode b_Gs_bounded 3 = .ok (.if_icmp .ge 6, 3) := by decide +kernel
theorem d_Gs_bounded_6 : decode b_Gs_bounded 6 = .ok (.bipush (-99), 2) := by decide +kernel
theorem d_Gs_bounded_8 : decode b_Gs_bounded 8 = .ok (.ireturn, 1) := by decide +kernel
theorem d_Gs_bounded_9 : decode b_Gs_bounded 9 = .ok (.iload_n 0, 1) := by decide +kernel
theorem d_Gs_bounded_10 : decode b_Gs_bounded 10 = .ok (.bipush 99, 2) := by decide +kernel
theorem d_Gs_bounded_12 : decode b_Gs_bounded 12 = .ok (.if_icmp .le 8, 3) := by decide +kernel
theorem d_Gs_bounded_15 : decode b_Gs_bounded 15 = .ok (.bipush 99, 2) := by decide +kernel
theorem d_Gs_bounded_17 : decode b_Gs_bounded 17 = .ok (.goto 4, 3) := by decide +kernel
theorem d_Gs_bounded_20 : decode b_Gs_bounded 20 = .ok (.iload_n 0, 1) := by decide +kernel
theorem d_Gs_bounded_21 : decode b_Gs_bounded 21 = .ok (.ireturn, 1) := by decide +kernel
theorem d_Md_init_0 : decode b_Md_init 0 = .ok (.aload_n 0, 1) := by decide +kernel
theorem d_Md_init_1 : decode b_Md_init 1 = .ok (.invokespecial 1, 3) := by decide +kernel
theorem d_Md_init_4 : decode b_Md_init 4 = .ok (.aload_n 0, 1) := by decide +kernel
theorem d_Md_init_5 : decode b_Md_init 5 = .ok (.iconst 4, 1) := by decide +kernel
theorem d_Md_init_6 : decode b_Md_init 6 = .ok (.newarray .int, 2) := by decide +kernel
theorem d_Md_init_8 : decode b_Md_init 8 = .ok (.putfield 7, 3) := by decide +kernel
theorem d_Md_init_11 : decode b_Md_init 11 = .ok (.aload_n 0, 1) := by decide +kernel
theorem d_Md_init_12 : decode b_Md_init 12 = .ok (.bipush 12, 2) := by decide +kernel
theorem d_Md_init_14 : decode b_Md_init 14 = .ok (.newarray .int, 2) := by decide +kernel
theorem d_Md_init_16 : decode b_Md_init 16 = .ok (.putfield 13, 3) := by decide +kernel
theorem d_Md_init_19 : decode b_Md_init 19 = .ok (.aload_n 0, 1) := by decide +kernel
theorem d_Md_init_20 : decode b_Md_init 20 = .ok (.bipush 12, 2) := by decide +kernel
theorem d_Md_init_22 : decode b_Md_init 22 = .ok (.newarray .int, 2) := by decide +kernel
theorem d_Md_init_24 : decode b_Md_init 24 = .ok (.putfield 16, 3) := by decide +kernel
theorem d_Md_init_27 : decode b_Md_init 27 = .ok (.aload_n 0, 1) := by decide +kernel
theorem d_Md_init_28 : decode b_Md_init 28 = .ok (.bipush 12, 2) := by decide +kernel
theorem d_Md_init_30 : decode b_Md_init 30 = .ok (.newarray .int, 2) := by decide +kernel
theorem d_Md_init_32 : decode b_Md_init 32 = .ok (.putfield 19, 3) := by decide +kernel
theorem d_Md_init_35 : decode b_Md_init 35 = .ok (.aload_n 0, 1) := by decide +kernel
theorem d_Md_init_36 : decode b_Md_init 36 = .ok (.sipush 6144, 3) := by decide +kernel
theorem d_Md_init_39 : decode b_Md_init 39 = .ok (.newarray .int, 2) := by decide +kernel
theorem d_Md_init_41 : decode b_Md_init 41 = .ok (.putfield 22, 3) := by decide +kernel
theorem d_Md_init_44 : decode b_Md_init 44 = .ok (.aload_n 0, 1) := by decide +kernel
theorem d_Md_init_45 : decode b_Md_init 45 = .ok (.sipush 6144, 3) := by decide +kernel
theorem d_Md_init_48 : decode b_Md_init 48 = .ok (.newarray .boolean, 2) := by decide +kernel
theorem d_Md_init_50 : decode b_Md_init 50 = .ok (.putfield 25, 3) := by decide +kernel
theorem d_Md_init_53 : decode b_Md_init 53 = .ok (.aload_n 0, 1) := by decide +kernel
theorem d_Md_init_54 : decode b_Md_init 54 = .ok (.sipush 384, 3) := by decide +kernel
theorem d_Md_init_57 : decode b_Md_init 57 = .ok (.newarray .int, 2) := by decide +kernel
theorem d_Md_init_59 : decode b_Md_init 59 = .ok (.putfield 29, 3) := by decide +kernel
theorem d_Md_init_62 : decode b_Md_init 62 = .ok (.aload_n 0, 1) := by decide +kernel
theorem d_Md_init_63 : decode b_Md_init 63 = .ok (.iconst 3, 1) := by decide +kernel
theorem d_Md_init_64 : decode b_Md_init 64 = .ok (.newarray .boolean, 2) := by decide +kernel
theorem d_Md_init_66 : decode b_Md_init 66 = .ok (.putfield 32, 3) := by decide +kernel
theorem d_Md_init_69 : decode b_Md_init 69 = .ok (.aload_n 0, 1) := by decide +kernel
theorem d_Md_init_70 : decode b_Md_init 70 = .ok (.iconst 3, 1) := by decide +kernel
theorem d_Md_init_71 : decode b_Md_init 71 = .ok (.newarray .int, 2) := by decide +kernel
theorem d_Md_init_73 : decode b_Md_init 73 = .ok (.putfield 35, 3) := by decide +kernel
theorem d_Md_init_76 : decode b_Md_init 76 = .ok (.aload_n 0, 1) := by decide +kernel
theorem d_Md_init_77 : decode b_Md_init 77 = .ok (.bipush 6, 2) := by decide +kernel
theorem d_Md_init_79 : decode b_Md_init 79 = .ok (.newarray .int, 2) := by decide +kernel
theorem d_Md_init_81 : decode b_Md_init 81 = .ok (.putfield 38, 3) := by decide +kernel
theorem d_Md_init_84 : decode b_Md_init 84 = .ok (.aload_n 0, 1) := by decide +kernel
theorem d_Md_init_85 : decode b_Md_init 85 = .ok (.bipush 24, 2) := by decide +kernel
theorem d_Md_init_87 : decode b_Md_init 87 = .ok (.newarray .boolean, 2) := by decide +kernel
theorem d_Md_init_89 : decode b_Md_init 89 = .ok (.putfield 41, 3) := by decide +kernel
theorem d_Md_init_92 : decode b_Md_init 92 = .ok (.aload_n 0, 1) := by decide +kernel
theorem d_Md_init_93 : decode b_Md_init 93 = .ok (.bipush 24, 2) := by decide +kernel
theorem d_Md_init_95 : decode b_Md_init 95 = .ok (.newarray .int, 2) := by decide +kernel
theorem d_Md_init_97 : decode b_Md_init 97 = .ok (.putfield 44, 3) := by decide +kernel
theorem d_Md_init_100 : decode b_Md_init 100 = .ok (.aload_n 0, 1) := by decide +kernel
theorem d_Md_init_101 : decode b_Md_init 101 = .ok (.bipush 24, 2) := by decide +kernel
theorem d_Md_init_103 : decode b_Md_init 103 = .ok (.newarray .int, 2) := by decide +kernel
theorem d_Md_init_105 : decode b_Md_init 105 = .ok (.putfield 47, 3) := by decide +kernel
theorem d_Md_init_108 : decode b_Md_init 108 = .ok (.aload_n 0, 1) := by decide +kernel
theorem d_Md_init_109 : decode b_Md_init 109 = .ok (.iload_n 1, 1) := by decide +kernel
theorem d_Md_init_110 : decode b_Md_init 110 = .ok (.iconst 1, 1) := by decide +kernel
theorem d_Md_init_111 : decode b_Md_init 111 = .ok (.if_icmp .lt 12, 3) := by decide +kernel
theorem d_Md_init_114 : decode b_Md_init 114 = .ok (.iload_n 1, 1) := by decide +kernel
theorem d_Md_init_115 : decode b_Md_init 115 = .ok (.iconst 4, 1) := by decide +kernel
theorem d_Md_init_116 : decode b_Md_init 116 = .ok (.if_icmp .gt 7, 3) := by decide +kernel
theorem d_Md_init_119 : decode b_Md_init 119 = .ok (.iload_n 1, 1) := by decide +kernel
theorem d_Md_init_120 : decode b_Md_init 120 = .ok (.goto 4, 3) := by decide +kernel
theorem d_Md_init_123 : decode b_Md_init 123 = .ok (.iconst 2, 1) := by decide +kernel
theorem d_Md_init_124 : decode b_Md_init 124 = .ok (.putfield 50, 3) := by decide +kernel
theorem d_Md_init_127 : decode b_Md_init 127 = .ok (.aload_n 0, 1) := by decide +kernel
theorem d_Md_init_128 : decode b_Md_init 128 = .ok (.iload_n 2, 1) := by decide +kernel
theorem d_Md_init_129 : decode b_Md_init 129 = .ok (.ifCond .lt 12, 3) := by decide +kernel
theorem d_Md_init_132 : decode b_Md_init 132 = .ok (.iload_n 2, 1) := by decide +kernel
theorem d_Md_init_133 : decode b_Md_init 133 = .ok (.iconst 3, 1) := by decide +kernel
theorem d_Md_init_134 : decode b_Md_init 134 = .ok (.if_icmp .gt 7, 3) := by decide +kernel
theorem d_Md_init_137 : decode b_Md_init 137 = .ok (.iload_n 2, 1) := by decide +kernel
theorem d_Md_init_138 : decode b_Md_init 138 = .ok (.goto 4, 3) := by decide +kernel
theorem d_Md_init_141 : decode b_Md_init 141 = .ok (.iconst 0, 1) := by decide +kernel
theorem d_Md_init_142 : decode b_Md_init 142 = .ok (.putfield 54, 3) := by decide +kernel
theorem d_Md_init_145 : decode b_Md_init 145 = .ok (.aload_n 0, 1) := by decide +kernel
theorem d_Md_init_146 : decode b_Md_init 146 = .ok (.iload_n 3, 1) := by decide +kernel
theorem d_Md_init_147 : decode b_Md_init 147 = .ok (.ifCond .lt 12, 3) := by decide +kernel
theorem d_Md_init_150 : decode b_Md_init 150 = .ok (.iload_n 3, 1) := by decide +kernel
theorem d_Md_init_151 : decode b_Md_init 151 = .ok (.iconst 2, 1) := by decide +kernel
theorem d_Md_init_152 : decode b_Md_init 152 = .ok (.if_icmp .gt 7, 3) := by decide +kernel
theorem d_Md_init_155 : decode b_Md_init 155 = .ok (.iload_n 3, 1) := by decide +kernel
theorem d_Md_init_156 : decode b_Md_init 156 = .ok (.goto 4, 3) := by decide +kernel
theorem d_Md_init_159 : decode b_Md_init 159 = .ok (.iconst 0, 1) := by decide +kernel
theorem d_Md_init_160 : decode b_Md_init 160 = .ok (.putfield 57, 3) := by decide +kernel
theorem d_Md_init_163 : decode b_Md_init 163 = .ok (.return_, 1) := by decide +kernel
theorem d_Md_isWorker_0 : decode b_Md_isWorker 0 = .ok (.iload_n 1, 1) := by decide +kernel
theorem d_Md_isWorker_1 : decode b_Md_isWorker 1 = .ok (.ifCond .lt 15, 3) := by decide +kernel
theorem d_Md_isWorker_4 : decode b_Md_isWorker 4 = .ok (.iload_n 1, 1) := by decide +kernel
theorem d_Md_isWorker_5 : decode b_Md_isWorker 5 = .ok (.aload_n 0, 1) := by decide +kernel
theorem d_Md_isWorker_6 : decode b_Md_isWorker 6 = .ok (.getfield 50, 3) := by decide +kernel
theorem d_Md_isWorker_9 : decode b_Md_isWorker 9 = .ok (.if_icmp .ge 7, 3) := by decide +kernel
theorem d_Md_isWorker_12 : decode b_Md_isWorker 12 = .ok (.iconst 1, 1) := by decide +kernel
theorem d_Md_isWorker_13 : decode b_Md_isWorker 13 = .ok (.goto 4, 3) := by decide +kernel
theorem d_Md_isWorker_16 : decode b_Md_isWorker 16 = .ok (.iconst 0, 1) := by decide +kernel
theorem d_Md_isWorker_17 : decode b_Md_isWorker 17 = .ok (.ireturn, 1) := by decide +kernel
theorem d_Md_isShard_0 : decode b_Md_isShard 0 = .ok (.iload_n 0, 1) := by decide +kernel
theorem d_Md_isShard_1 : decode b_Md_isShard 1 = .ok (.ifCond .lt 12, 3) := by decide +kernel
theorem d_Md_isShard_4 : decode b_Md_isShard 4 = .ok (.iload_n 0, 1) := by decide +kernel
theorem d_Md_isShard_5 : decode b_Md_isShard 5 = .ok (.iconst 2, 1) := by decide +kernel
theorem d_Md_isShard_6 : decode b_Md_isShard 6 = .ok (.if_icmp .gt 7, 3) := by decide +kernel
theorem d_Md_isShard_9 : decode b_Md_isShard 9 = .ok (.iconst 1, 1) := by decide +kernel
theorem d_Md_isShard_10 : decode b_Md_isShard 10 = .ok (.goto 4, 3) := by decide +kernel
theorem d_Md_isShard_13 : decode b_Md_isShard 13 = .ok (.iconst 0, 1) := by decide +kernel
theorem d_Md_isShard_14 : decode b_Md_isShard 14 = .ok (.ireturn, 1) := by decide +kernel
theorem d_Md_waits_0 : decode b_Md_waits 0 = .ok (.aload_n 0, 1) := by decide +kernel
theorem d_Md_waits_1 : decode b_Md_waits 1 = .ok (.getfield 7, 3) := by decide +kernel
theorem d_Md_waits_4 : decode b_Md_waits 4 = .ok (.iload_n 1, 1) := by decide +kernel
theorem d_Md_waits_5 : decode b_Md_waits 5 = .ok (.iaload, 1) := by decide +kernel
theorem d_Md_waits_6 : decode b_Md_waits 6 = .ok (.istore_n 2, 1) := by decide +kernel
theorem d_Md_waits_7 : decode b_Md_waits 7 = .ok (.iconst 0, 1) := by decide +kernel
theorem d_Md_waits_8 : decode b_Md_waits 8 = .ok (.istore_n 3, 1) := by decide +kernel
theorem d_Md_waits_9 : decode b_Md_waits 9 = .ok (.iload_n 3, 1) := by decide +kernel
theorem d_Md_waits_10 : decode b_Md_waits 10 = .ok (.aload_n 0, 1) := by decide +kernel
theorem d_Md_waits_11 : decode b_Md_waits 11 = .ok (.getfield 50, 3) := by decide +kernel
theorem d_Md_waits_14 : decode b_Md_waits 14 = .ok (.if_icmp .ge 30, 3) := by decide +kernel
theorem d_Md_waits_17 : decode b_Md_waits 17 = .ok (.aload_n 0, 1) := by decide +kernel
theorem d_Md_waits_18 : decode b_Md_waits 18 = .ok (.getfield 7, 3) := by decide +kernel
theorem d_Md_waits_21 : decode b_Md_waits 21 = .ok (.iload_n 3, 1) := by decide +kernel
theorem d_Md_waits_22 : decode b_Md_waits 22 = .ok (.iaload, 1) := by decide +kernel
theorem d_Md_waits_23 : decode b_Md_waits 23 = .ok (.iload_n 2, 1) := by decide +kernel
theorem d_Md_waits_24 : decode b_Md_waits 24 = .ok (.if_icmp .ge 12, 3) := by decide +kernel
theorem d_Md_waits_27 : decode b_Md_waits 27 = .ok (.aload_n 0, 1) := by decide +kernel
theorem d_Md_waits_28 : decode b_Md_waits 28 = .ok (.getfield 7, 3) := by decide +kernel
theorem d_Md_waits_31 : decode b_Md_waits 31 = .ok (.iload_n 3, 1) := by decide +kernel
theorem d_Md_waits_32 : decode b_Md_waits 32 = .ok (.iaload, 1) := by decide +kernel
theorem d_Md_waits_33 : decode b_Md_waits 33 = .ok (.goto 4, 3) := by decide +kernel
theorem d_Md_waits_36 : decode b_Md_waits 36 = .ok (.iload_n 2, 1) := by decide +kernel
theorem d_Md_waits_37 : decode b_Md_waits 37 = .ok (.istore_n 2, 1) := by decide +kernel
theorem d_Md_waits_38 : decode b_Md_waits 38 = .ok (.iinc 3 1, 3) := by decide +kernel
theorem d_Md_waits_41 : decode b_Md_waits 41 = .ok (.goto (-32), 3) := by decide +kernel
theorem d_Md_waits_44 : decode b_Md_waits 44 = .ok (.aload_n 0, 1) := by decide +kernel
theorem d_Md_waits_45 : decode b_Md_waits 45 = .ok (.getfield 7, 3) := by decide +kernel
theorem d_Md_waits_48 : decode b_Md_waits 48 = .ok (.iload_n 1, 1) := by decide +kernel
theorem d_Md_waits_49 : decode b_Md_waits 49 = .ok (.iaload, 1) := by decide +kernel
theorem d_Md_waits_50 : decode b_Md_waits 50 = .ok (.iload_n 2, 1) := by decide +kernel
theorem d_Md_waits_51 : decode b_Md_waits 51 = .ok (.isub, 1) := by decide +kernel
theorem d_Md_waits_52 : decode b_Md_waits 52 = .ok (.aload_n 0, 1) := by decide +kernel
theorem d_Md_waits_53 : decode b_Md_waits 53 = .ok (.getfield 54, 3) := by decide +kernel
theorem d_Md_waits_56 : decode b_Md_waits 56 = .ok (.if_icmp .le 7, 3) := by decide +kernel
theorem d_Md_waits_59 : decode b_Md_waits 59 = .ok (.iconst 1, 1) := by decide +kernel
theorem d_Md_waits_60 : decode b_Md_waits 60 = .ok (.goto 4, 3) := by decide +kernel
theorem d_Md_waits_63 : decode b_Md_waits 63 = .ok (.iconst 0, 1) := by decide +kernel
theorem d_Md_waits_64 : decode b_Md_waits 64 = .ok (.ireturn, 1) := by decide +kernel
theorem d_Md_send_0 : decode b_Md_send 0 = .ok (.aload_n 0, 1) := by decide +kernel
theorem d_Md_send_1 : decode b_Md_send 1 = .ok (.getfield 38, 3) := by decide +kernel
theorem d_Md_send_4 : decode b_Md_send 4 = .ok (.iconst 0, 1) := by decide +kernel
theorem d_Md_send_5 : decode b_Md_send 5 = .ok (.aload_n 0, 1) := by decide +kernel
theorem d_Md_send_6 : decode b_Md_send 6 = .ok (.getfield 38, 3) := by decide +kernel
theorem d_Md_send_9 : decode b_Md_send 9 = .ok (.iconst 0, 1) := by decide +kernel
theorem d_Md_send_10 : decode b_Md_send 10 = .ok (.iaload, 1) := by decide +kernel
theorem d_Md_send_11 : decode b_Md_send 11 = .ok (.iconst 1, 1) := by decide +kernel
theorem d_Md_send_12 : decode b_Md_send 12 = .ok (.iadd, 1) := by decide +kernel
theorem d_Md_send_13 : decode b_Md_send 13 = .ok (.iastore, 1) := by decide +kernel
theorem d_Md_send_14 : decode b_Md_send 14 = .ok (.aload_n 0, 1) := by decide +kernel
theorem d_Md_send_15 : decode b_Md_send 15 = .ok (.getfield 60, 3) := by decide +kernel
theorem d_Md_send_18 : decode b_Md_send 18 = .ok (.bipush 24, 2) := by decide +kernel
theorem d_Md_send_20 : decode b_Md_send 20 = .ok (.if_icmp .lt 18, 3) := by decide +kernel
theorem d_Md_send_23 : decode b_Md_send 23 = .ok (.aload_n 0, 1) := by decide +kernel
theorem d_Md_send_24 : decode b_Md_send 24 = .ok (.getfield 38, 3) := by decide +kernel
theorem d_Md_send_27 : decode b_Md_send 27 = .ok (.iconst 1, 1) := by decide +kernel
theorem d_Md_send_28 : decode b_Md_send 28 = .ok (.aload_n 0, 1) := by decide +kernel
theorem d_Md_send_29 : decode b_Md_send 29 = .ok (.getfield 38, 3) := by decide +kernel
theorem d_Md_send_32 : decode b_Md_send 32 = .ok (.iconst 1, 1) := by decide +kernel
theorem d_Md_send_33 : decode b_Md_send 33 = .ok (.iaload, 1) := by decide +kernel
theorem d_Md_send_34 : decode b_Md_send 34 = .ok (.iconst 1, 1) := by decide +kernel
theorem d_Md_send_35 : decode b_Md_send 35 = .ok (.iadd, 1) := by decide +kernel
theorem d_Md_send_36 : decode b_Md_send 36 = .ok (.iastore, 1) := by decide +kernel
theorem d_Md_send_37 : decode b_Md_send 37 = .ok (.return_, 1) := by decide +kernel
theorem d_Md_send_38 : decode b_Md_send 38 = .ok (.aload_n 0, 1) := by decide +kernel
theorem d_Md_send_39 : decode b_Md_send 39 = .ok (.getfield 41, 3) := by decide +kernel
theorem d_Md_send_42 : decode b_Md_send 42 = .ok (.aload_n 0, 1) := by decide +kernel
theorem d_Md_send_43 : decode b_Md_send 43 = .ok (.getfield 60, 3) := by decide +kernel
theorem d_Md_send_46 : decode b_Md_send 46 = .ok (.iload_n 1, 1) := by decide +kernel
theorem d_Md_send_47 : decode b_Md_send 47 = .ok (.bastore, 1) := by decide +kernel
theorem d_Md_send_48 : decode b_Md_send 48 = .ok (.aload_n 0, 1) := by decide +kernel
theorem d_Md_send_49 : decode b_Md_send 49 = .ok (.getfield 44, 3) := by decide +kernel
theorem d_Md_send_52 : decode b_Md_send 52 = .ok (.aload_n 0, 1) := by decide +kernel
theorem d_Md_send_53 : decode b_Md_send 53 = .ok (.getfield 60, 3) := by decide +kernel
theorem d_Md_send_56 : decode b_Md_send 56 = .ok (.iload_n 2, 1) := by decide +kernel
theorem d_Md_send_57 : decode b_Md_send 57 = .ok (.iastore, 1) := by decide +kernel
theorem d_Md_send_58 : decode b_Md_send 58 = .ok (.aload_n 0, 1) := by decide +kernel
theorem d_Md_send_59 : decode b_Md_send 59 = .ok (.getfield 47, 3) := by decide +kernel
theorem d_Md_send_62 : decode b_Md_send 62 = .ok (.aload_n 0, 1) := by decide +kernel
theorem d_Md_send_63 : decode b_Md_send 63 = .ok (.getfield 60, 3) := by decide +kernel
theorem d_Md_send_66 : decode b_Md_send 66 = .ok (.iload_n 3, 1) := by decide +kernel
theorem d_Md_send_67 : decode b_Md_send 67 = .ok (.iastore, 1) := by decide +kernel
theorem d_Md_send_68 : decode b_Md_send 68 = .ok (.aload_n 0, 1) := by decide +kernel
theorem d_Md_send_69 : decode b_Md_send 69 = .ok (.aload_n 0, 1) := by decide +kernel
theorem d_Md_send_70 : decode b_Md_send 70 = .ok (.getfield 60, 3) := by decide +kernel
theorem d_Md_send_73 : decode b_Md_send 73 = .ok (.iconst 1, 1) := by decide +kernel
theorem d_Md_send_74 : decode b_Md_send 74 = .ok (.iadd, 1) := by decide +kernel
theorem d_Md_send_75 : decode b_Md_send 75 = .ok (.putfield 60, 3) := by decide +kernel
theorem d_Md_send_78 : decode b_Md_send 78 = .ok (.return_, 1) := by decide +kernel
theorem d_Md_remove_0 : decode b_Md_remove 0 = .ok (.aload_n 0, 1) := by decide +kernel
theorem d_Md_remove_1 : decode b_Md_remove 1 = .ok (.aload_n 0, 1) := by decide +kernel
theorem d_Md_remove_2 : decode b_Md_remove 2 = .ok (.getfield 60, 3) := by decide +kernel
theorem d_Md_remove_5 : decode b_Md_remove 5 = .ok (.iconst 1, 1) := by decide +kernel
theorem d_Md_remove_6 : decode b_Md_remove 6 = .ok (.isub, 1) := by decide +kernel
theorem d_Md_remove_7 : decode b_Md_remove 7 = .ok (.putfield 60, 3) := by decide +kernel
theorem d_Md_remove_10 : decode b_Md_remove 10 = .ok (.iload_n 1, 1) := by decide +kernel
theorem d_Md_remove_11 : decode b_Md_remove 11 = .ok (.istore_n 2, 1) := by decide +kernel
theorem d_Md_remove_12 : decode b_Md_remove 12 = .ok (.iload_n 2, 1) := by decide +kernel
theorem d_Md_remove_13 : decode b_Md_remove 13 = .ok (.aload_n 0, 1) := by decide +kernel
theorem d_Md_remove_14 : decode b_Md_remove 14 = .ok (.getfield 60, 3) := by decide +kernel
theorem d_Md_remove_17 : decode b_Md_remove 17 = .ok (.if_icmp .ge 51, 3) := by decide +kernel
theorem d_Md_remove_20 : decode b_Md_remove 20 = .ok (.aload_n 0, 1) := by decide +kernel
theorem d_Md_remove_21 : decode b_Md_remove 21 = .ok (.getfield 41, 3) := by decide +kernel
theorem d_Md_remove_24 : decode b_Md_remove 24 = .ok (.iload_n 2, 1) := by decide +kernel
theorem d_Md_remove_25 : decode b_Md_remove 25 = .ok (.aload_n 0, 1) := by decide +kernel
theorem d_Md_remove_26 : decode b_Md_remove 26 = .ok (.getfield 41, 3) := by decide +kernel
theorem d_Md_remove_29 : decode b_Md_remove 29 = .ok (.iload_n 2, 1) := by decide +kernel
theorem d_Md_remove_30 : decode b_Md_remove 30 = .ok (.iconst 1, 1) := by decide +kernel
theorem d_Md_remove_31 : decode b_Md_remove 31 = .ok (.iadd, 1) := by decide +kernel
theorem d_Md_remove_32 : decode b_Md_remove 32 = .ok (.baload, 1) := by decide +kernel
theorem d_Md_remove_33 : decode b_Md_remove 33 = .ok (.bastore, 1) := by decide +kernel
theorem d_Md_remove_34 : decode b_Md_remove 34 = .ok (.aload_n 0, 1) := by decide +kernel
theorem d_Md_remove_35 : decode b_Md_remove 35 = .ok (.getfield 44, 3) := by decide +kernel
theorem d_Md_remove_38 : decode b_Md_remove 38 = .ok (.iload_n 2, 1) := by decide +kernel
theorem d_Md_remove_39 : decode b_Md_remove 39 = .ok (.aload_n 0, 1) := by decide +kernel
theorem d_Md_remove_40 : decode b_Md_remove 40 = .ok (.getfield 44, 3) := by decide +kernel
theorem d_Md_remove_43 : decode b_Md_remove 43 = .ok (.iload_n 2, 1) := by decide +kernel
theorem d_Md_remove_44 : decode b_Md_remove 44 = .ok (.iconst 1, 1) := by decide +kernel
theorem d_Md_remove_45 : decode b_Md_remove 45 = .ok (.iadd, 1) := by decide +kernel
theorem d_Md_remove_46 : decode b_Md_remove 46 = .ok (.iaload, 1) := by decide +kernel
theorem d_Md_remove_47 : decode b_Md_remove 47 = .ok (.iastore, 1) := by decide +kernel
theorem d_Md_remove_48 : decode b_Md_remove 48 = .ok (.aload_n 0, 1) := by decide +kernel
theorem d_Md_remove_49 : decode b_Md_remove 49 = .ok (.getfield 47, 3) := by decide +kernel
theorem d_Md_remove_52 : decode b_Md_remove 52 = .ok (.iload_n 2, 1) := by decide +kernel
theorem d_Md_remove_53 : decode b_Md_remove 53 = .ok (.aload_n 0, 1) := by decide +kernel
theorem d_Md_remove_54 : decode b_Md_remove 54 = .ok (.getfield 47, 3) := by decide +kernel
theorem d_Md_remove_57 : decode b_Md_remove 57 = .ok (.iload_n 2, 1) := by decide +kernel
theorem d_Md_remove_58 : decode b_Md_remove 58 = .ok (.iconst 1, 1) := by decide +kernel
theorem d_Md_remove_59 : decode b_Md_remove 59 = .ok (.iadd, 1) := by decide +kernel
theorem d_Md_remove_60 : decode b_Md_remove 60 = .ok (.iaload, 1) := by decide +kernel
theorem d_Md_remove_61 : decode b_Md_remove 61 = .ok (.iastore, 1) := by decide +kernel
theorem d_Md_remove_62 : decode b_Md_remove 62 = .ok (.iinc 2 1, 3) := by decide +kernel
theorem d_Md_remove_65 : decode b_Md_remove 65 = .ok (.goto (-53), 3) := by decide +kernel
theorem d_Md_remove_68 : decode b_Md_remove 68 = .ok (.return_, 1) := by decide +kernel
theorem d_Md_make_0 : decode b_Md_make 0 = .ok (.aload_n 0, 1) := by decide +kernel
theorem d_Md_make_1 : decode b_Md_make 1 = .ok (.getfield 13, 3) := by decide +kernel
theorem d_Md_make_4 : decode b_Md_make 4 = .ok (.iload_n 1, 1) := by decide +kernel
theorem d_Md_make_5 : decode b_Md_make 5 = .ok (.iaload, 1) := by decide +kernel
theorem d_Md_make_6 : decode b_Md_make 6 = .ok (.istore_n 3, 1) := by decide +kernel
theorem d_Md_make_7 : decode b_Md_make 7 = .ok (.aload_n 0, 1) := by decide +kernel
theorem d_Md_make_8 : decode b_Md_make 8 = .ok (.getfield 22, 3) := by decide +kernel
theorem d_Md_make_11 : decode b_Md_make 11 = .ok (.sipush 512, 3) := by decide +kernel
theorem d_Md_make_14 : decode b_Md_make 14 = .ok (.iload_n 1, 1) := by decide +kernel
theorem d_Md_make_15 : decode b_Md_make 15 = .ok (.imul, 1) := by decide +kernel
theorem d_Md_make_16 : decode b_Md_make 16 = .ok (.iload_n 3, 1) := by decide +kernel
theorem d_Md_make_17 : decode b_Md_make 17 = .ok (.iadd, 1) := by decide +kernel
theorem d_Md_make_18 : decode b_Md_make 18 = .ok (.iload_n 2, 1) := by decide +kernel
theorem d_Md_make_19 : decode b_Md_make 19 = .ok (.iastore, 1) := by decide +kernel
theorem d_Md_make_20 : decode b_Md_make 20 = .ok (.aload_n 0, 1) := by decide +kernel
theorem d_Md_make_21 : decode b_Md_make 21 = .ok (.getfield 29, 3) := by decide +kernel
theorem d_Md_make_24 : decode b_Md_make 24 = .ok (.bipush 32, 2) := by decide +kernel
theorem d_Md_make_26 : decode b_Md_make 26 = .ok (.iload_n 1, 1) := by decide +kernel
theorem d_Md_make_27 : decode b_Md_make 27 = .ok (.imul, 1) := by decide +kernel
theorem d_Md_make_28 : decode b_Md_make 28 = .ok (.iload_n 3, 1) := by decide +kernel
theorem d_Md_make_29 : decode b_Md_make 29 = .ok (.bipush 32, 2) := by decide +kernel
theorem d_Md_make_31 : decode b_Md_make 31 = .ok (.irem, 1) := by decide +kernel
theorem d_Md_make_32 : decode b_Md_make 32 = .ok (.iadd, 1) := by decide +kernel
theorem d_Md_make_33 : decode b_Md_make 33 = .ok (.aload_n 0, 1) := by decide +kernel
theorem d_Md_make_34 : decode b_Md_make 34 = .ok (.getfield 63, 3) := by decide +kernel
theorem d_Md_make_37 : decode b_Md_make 37 = .ok (.iastore, 1) := by decide +kernel
theorem d_Md_make_38 : decode b_Md_make 38 = .ok (.aload_n 0, 1) := by decide +kernel
theorem d_Md_make_39 : decode b_Md_make 39 = .ok (.getfield 13, 3) := by decide +kernel
theorem d_Md_make_42 : decode b_Md_make 42 = .ok (.iload_n 1, 1) := by decide +kernel
theorem d_Md_make_43 : decode b_Md_make 43 = .ok (.iload_n 3, 1) := by decide +kernel
theorem d_Md_make_44 : decode b_Md_make 44 = .ok (.iconst 1, 1) := by decide +kernel
theorem d_Md_make_45 : decode b_Md_make 45 = .ok (.iadd, 1) := by decide +kernel
theorem d_Md_make_46 : decode b_Md_make 46 = .ok (.iastore, 1) := by decide +kernel
theorem d_Md_make_47 : decode b_Md_make 47 = .ok (.aload_n 0, 1) := by decide +kernel
theorem d_Md_make_48 : decode b_Md_make 48 = .ok (.iconst 0, 1) := by decide +kernel
theorem d_Md_make_49 : decode b_Md_make 49 = .ok (.iload_n 1, 1) := by decide +kernel
theorem d_Md_make_50 : decode b_Md_make 50 = .ok (.iload_n 3, 1) := by decide +kernel
theorem d_Md_make_51 : decode b_Md_make 51 = .ok (.invokevirtual 66, 3) := by decide +kernel
theorem d_Md_make_54 : decode b_Md_make 54 = .ok (.return_, 1) := by decide +kernel
theorem d_Md_add_0 : decode b_Md_add 0 = .ok (.aload_n 0, 1) := by decide +kernel
theorem d_Md_add_1 : decode b_Md_add 1 = .ok (.iload_n 1, 1) := by decide +kernel
theorem d_Md_add_2 : decode b_Md_add 2 = .ok (.invokevirtual 70, 3) := by decide +kernel
theorem d_Md_add_5 : decode b_Md_add 5 = .ok (.ifCond .eq 32, 3) := by decide +kernel
theorem d_Md_add_8 : decode b_Md_add 8 = .ok (.iload_n 2, 1) := by decide +kernel
theorem d_Md_add_9 : decode b_Md_add 9 = .ok (.ifCond .lt 28, 3) := by decide +kernel
theorem d_Md_add_12 : decode b_Md_add 12 = .ok (.iload_n 2, 1) := by decide +kernel
theorem d_Md_add_13 : decode b_Md_add 13 = .ok (.iconst 5, 1) := by decide +kernel
theorem d_Md_add_14 : decode b_Md_add 14 = .ok (.if_icmp .gt 23, 3) := by decide +kernel
theorem d_Md_add_17 : decode b_Md_add 17 = .ok (.iload_n 3, 1) := by decide +kernel
theorem d_Md_add_18 : decode b_Md_add 18 = .ok (.bipush (-99), 2) := by decide +kernel
theorem d_Md_add_20 : decode b_Md_add 20 = .ok (.if_icmp .lt 17, 3) := by decide +kernel
theorem d_Md_add_23 : decode b_Md_add 23 = .ok (.iload_n 3, 1) := by decide +kernel
theorem d_Md_add_24 : decode b_Md_add 24 = .ok (.bipush 99, 2) := by decide +kernel
theorem d_Md_add_26 : decode b_Md_add 26 = .ok (.if_icmp .gt 11, 3) := by decide +kernel
theorem d_Md_add_29 : decode b_Md_add 29 = .ok (.aload_n 0, 1) := by decide +kernel
theorem d_Md_add_30 : decode b_Md_add 30 = .ok (.iload_n 1, 1) := by decide +kernel
theorem d_Md_add_31 : decode b_Md_add 31 = .ok (.invokevirtual 74, 3) := by decide +kernel
theorem d_Md_add_34 : decode b_Md_add 34 = .ok (.ifCond .eq 5, 3) := by decide +kernel
theorem d_Md_add_37 : decode b_Md_add 37 = .ok (.iconst 0, 1) := by decide +kernel
theorem d_Md_add_38 : decode b_Md_add 38 = .ok (.ireturn, 1) := by decide +kernel
theorem d_Md_add_39 : decode b_Md_add 39 = .ok (.iconst 3, 1) := by decide +kernel
theorem d_Md_add_40 : decode b_Md_add 40 = .ok (.iload_n 1, 1) := by decide +kernel
theorem d_Md_add_41 : decode b_Md_add 41 = .ok (.imul, 1) := by decide +kernel
theorem d_Md_add_42 : decode b_Md_add 42 = .ok (.iload_n 2, 1) := by decide +kernel
theorem d_Md_add_43 : decode b_Md_add 43 = .ok (.iconst 3, 1) := by decide +kernel
theorem d_Md_add_44 : decode b_Md_add 44 = .ok (.irem, 1) := by decide +kernel
theorem d_Md_add_45 : decode b_Md_add 45 = .ok (.iadd, 1) := by decide +kernel
theorem d_Md_add_46 : decode b_Md_add 46 = .ok (.istore 4, 2) := by decide +kernel
theorem d_Md_add_48 : decode b_Md_add 48 = .ok (.aload_n 0, 1) := by decide +kernel
theorem d_Md_add_49 : decode b_Md_add 49 = .ok (.getfield 13, 3) := by decide +kernel
theorem d_Md_add_52 : decode b_Md_add 52 = .ok (.iload 4, 2) := by decide +kernel
theorem d_Md_add_54 : decode b_Md_add 54 = .ok (.iaload, 1) := by decide +kernel
theorem d_Md_add_55 : decode b_Md_add 55 = .ok (.aload_n 0, 1) := by decide +kernel
theorem d_Md_add_56 : decode b_Md_add 56 = .ok (.getfield 16, 3) := by decide +kernel
theorem d_Md_add_59 : decode b_Md_add 59 = .ok (.iload 4, 2) := by decide +kernel
theorem d_Md_add_61 : decode b_Md_add 61 = .ok (.iaload, 1) := by decide +kernel
theorem d_Md_add_62 : decode b_Md_add 62 = .ok (.isub, 1) := by decide +kernel
theorem d_Md_add_63 : decode b_Md_add 63 = .ok (.bipush 20, 2) := by decide +kernel
theorem d_Md_add_65 : decode b_Md_add 65 = .ok (.if_icmp .lt 5, 3) := by decide +kernel
theorem d_Md_add_68 : decode b_Md_add 68 = .ok (.iconst 0, 1) := by decide +kernel
theorem d_Md_add_69 : decode b_Md_add 69 = .ok (.ireturn, 1) := by decide +kernel
theorem d_Md_add_70 : decode b_Md_add 70 = .ok (.aload_n 0, 1) := by decide +kernel
theorem d_Md_add_71 : decode b_Md_add 71 = .ok (.iload 4, 2) := by decide +kernel
theorem d_Md_add_73 : decode b_Md_add 73 = .ok (.sipush 1000, 3) := by decide +kernel
theorem d_Md_add_76 : decode b_Md_add 76 = .ok (.iload_n 2, 1) := by decide +kernel
theorem d_Md_add_77 : decode b_Md_add 77 = .ok (.imul, 1) := by decide +kernel
theorem d_Md_add_78 : decode b_Md_add 78 = .ok (.bipush 100, 2) := by decide +kernel
theorem d_Md_add_80 : decode b_Md_add 80 = .ok (.iadd, 1) := by decide +kernel
theorem d_Md_add_81 : decode b_Md_add 81 = .ok (.iload_n 3, 1) := by decide +kernel
theorem d_Md_add_82 : decode b_Md_add 82 = .ok (.iadd, 1) := by decide +kernel
theorem d_Md_add_83 : decode b_Md_add 83 = .ok (.invokevirtual 77, 3) := by decide +kernel
theorem d_Md_add_86 : decode b_Md_add 86 = .ok (.iconst 1, 1) := by decide +kernel
theorem d_Md_add_87 : decode b_Md_add 87 = .ok (.ireturn, 1) := by decide +kernel
theorem d_Md_advance_0 : decode b_Md_advance 0 = .ok (.aload_n 0, 1) := by decide +kernel
theorem d_Md_advance_1 : decode b_Md_advance 1 = .ok (.iload_n 1, 1) := by decide +kernel
theorem d_Md_advance_2 : decode b_Md_advance 2 = .ok (.invokevirtual 70, 3) := by decide +kernel
theorem d_Md_advance_5 : decode b_Md_advance 5 = .ok (.ifCond .eq 11, 3) := by decide +kernel
theorem d_Md_advance_8 : decode b_Md_advance 8 = .ok (.aload_n 0, 1) := by decide +kernel
theorem d_Md_advance_9 : decode b_Md_advance 9 = .ok (.iload_n 1, 1) := by decide +kernel
theorem d_Md_advance_10 : decode b_Md_advance 10 = .ok (.invokevirtual 74, 3) := by decide +kernel
theorem d_Md_advance_13 : decode b_Md_advance 13 = .ok (.ifCond .eq 5, 3) := by decide +kernel
theorem d_Md_advance_16 : decode b_Md_advance 16 = .ok (.iconst 0, 1) := by decide +kernel
theorem d_Md_advance_17 : decode b_Md_advance 17 = .ok (.ireturn, 1) := by decide +kernel
theorem d_Md_advance_18 : decode b_Md_advance 18 = .ok (.iconst 0, 1) := by decide +kernel
theorem d_Md_advance_19 : decode b_Md_advance 19 = .ok (.istore_n 2, 1) := by decide +kernel
theorem d_Md_advance_20 : decode b_Md_advance 20 = .ok (.iload_n 2, 1) := by decide +kernel
theorem d_Md_advance_21 : decode b_Md_advance 21 = .ok (.iconst 3, 1) := by decide +kernel
theorem d_Md_advance_22 : decode b_Md_advance 22 = .ok (.if_icmp .ge 37, 3) := by decide +kernel
theorem d_Md_advance_25 : decode b_Md_advance 25 = .ok (.aload_n 0, 1) := by decide +kernel
theorem d_Md_advance_26 : decode b_Md_advance 26 = .ok (.getfield 13, 3) := by decide +kernel
theorem d_Md_advance_29 : decode b_Md_advance 29 = .ok (.iconst 3, 1) := by decide +kernel
theorem d_Md_advance_30 : decode b_Md_advance 30 = .ok (.iload_n 1, 1) := by decide +kernel
theorem d_Md_advance_31 : decode b_Md_advance 31 = .ok (.imul, 1) := by decide +kernel
theorem d_Md_advance_32 : decode b_Md_advance 32 = .ok (.iload_n 2, 1) := by decide +kernel
theorem d_Md_advance_33 : decode b_Md_advance 33 = .ok (.iadd, 1) := by decide +kernel
theorem d_Md_advance_34 : decode b_Md_advance 34 = .ok (.iaload, 1) := by decide +kernel
theorem d_Md_advance_35 : decode b_Md_advance 35 = .ok (.aload_n 0, 1) := by decide +kernel
theorem d_Md_advance_36 : decode b_Md_advance 36 = .ok (.getfield 16, 3) := by decide +kernel
theorem d_Md_advance_39 : decode b_Md_advance 39 = .ok (.iconst 3, 1) := by decide +kernel
theorem d_Md_advance_40 : decode b_Md_advance 40 = .ok (.iload_n 1, 1) := by decide +kernel
theorem d_Md_advance_41 : decode b_Md_advance 41 = .ok (.imul, 1) := by decide +kernel
theorem d_Md_advance_42 : decode b_Md_advance 42 = .ok (.iload_n 2, 1) := by decide +kernel
theorem d_Md_advance_43 : decode b_Md_advance 43 = .ok (.iadd, 1) := by decide +kernel
theorem d_Md_advance_44 : decode b_Md_advance 44 = .ok (.iaload, 1) := by decide +kernel
theorem d_Md_advance_45 : decode b_Md_advance 45 = .ok (.isub, 1) := by decide +kernel
theorem d_Md_advance_46 : decode b_Md_advance 46 = .ok (.bipush 24, 2) := by decide +kernel
theorem d_Md_advance_48 : decode b_Md_advance 48 = .ok (.if_icmp .lt 5, 3) := by decide +kernel
theorem d_Md_advance_51 : decode b_Md_advance 51 = .ok (.iconst 0, 1) := by decide +kernel
theorem d_Md_advance_52 : decode b_Md_advance 52 = .ok (.ireturn, 1) := by decide +kernel
theorem d_Md_advance_53 : decode b_Md_advance 53 = .ok (.iinc 2 1, 3) := by decide +kernel
theorem d_Md_advance_56 : decode b_Md_advance 56 = .ok (.goto (-36), 3) := by decide +kernel
theorem d_Md_advance_59 : decode b_Md_advance 59 = .ok (.iconst 0, 1) := by decide +kernel
theorem d_Md_advance_60 : decode b_Md_advance 60 = .ok (.istore_n 2, 1) := by decide +kernel
theorem d_Md_advance_61 : decode b_Md_advance 61 = .ok (.iload_n 2, 1) := by decide +kernel
theorem d_Md_advance_62 : decode b_Md_advance 62 = .ok (.iconst 3, 1) := by decide +kernel
theorem d_Md_advance_63 : decode b_Md_advance 63 = .ok (.if_icmp .ge 20, 3) := by decide +kernel
theorem d_Md_advance_66 : decode b_Md_advance 66 = .ok (.aload_n 0, 1) := by decide +kernel
theorem d_Md_advance_67 : decode b_Md_advance 67 = .ok (.iconst 3, 1) := by decide +kernel
theorem d_Md_advance_68 : decode b_Md_advance 68 = .ok (.iload_n 1, 1) := by decide +kernel
theorem d_Md_advance_69 : decode b_Md_advance 69 = .ok (.imul, 1) := by decide +kernel
theorem d_Md_advance_70 : decode b_Md_advance 70 = .ok (.iload_n 2, 1) := by decide +kernel
theorem d_Md_advance_71 : decode b_Md_advance 71 = .ok (.iadd, 1) := by decide +kernel
theorem d_Md_advance_72 : decode b_Md_advance 72 = .ok (.ldc 81, 2) := by decide +kernel
theorem d_Md_advance_74 : decode b_Md_advance 74 = .ok (.invokevirtual 77, 3) := by decide +kernel
theorem d_Md_advance_77 : decode b_Md_advance 77 = .ok (.iinc 2 1, 3) := by decide +kernel
theorem d_Md_advance_80 : decode b_Md_advance 80 = .ok (.goto (-19), 3) := by decide +kernel
theorem d_Md_advance_83 : decode b_Md_advance 83 = .ok (.aload_n 0, 1) := by decide +kernel
theorem d_Md_advance_84 : decode b_Md_advance 84 = .ok (.getfield 7, 3) := by decide +kernel
theorem d_Md_advance_87 : decode b_Md_advance 87 = .ok (.iload_n 1, 1) := by decide +kernel
theorem d_Md_advance_88 : decode b_Md_advance 88 = .ok (.aload_n 0, 1) := by decide +kernel
theorem d_Md_advance_89 : decode b_Md_advance 89 = .ok (.getfield 7, 3) := by decide +kernel
theorem d_Md_advance_92 : decode b_Md_advance 92 = .ok (.iload_n 1, 1) := by decide +kernel
theorem d_Md_advance_93 : decode b_Md_advance 93 = .ok (.iaload, 1) := by decide +kernel
theorem d_Md_advance_94 : decode b_Md_advance 94 = .ok (.iconst 1, 1) := by decide +kernel
theorem d_Md_advance_95 : decode b_Md_advance 95 = .ok (.iadd, 1) := by decide +kernel
theorem d_Md_advance_96 : decode b_Md_advance 96 = .ok (.iastore, 1) := by decide +kernel
theorem d_Md_advance_97 : decode b_Md_advance 97 = .ok (.iconst 1, 1) := by decide +kernel
theorem d_Md_advance_98 : decode b_Md_advance 98 = .ok (.ireturn, 1) := by decide +kernel
theorem d_Md_turn_0 : decode b_Md_turn 0 = .ok (.iconst 0, 1) := by decide +kernel
theorem d_Md_turn_1 : decode b_Md_turn 1 = .ok (.istore_n 2, 1) := by decide +kernel
theorem d_Md_turn_2 : decode b_Md_turn 2 = .ok (.iload_n 2, 1) := by decide +kernel
theorem d_Md_turn_3 : decode b_Md_turn 3 = .ok (.aload_n 0, 1) := by decide +kernel
theorem d_Md_turn_4 : decode b_Md_turn 4 = .ok (.getfield 13, 3) := by decide +kernel
theorem d_Md_turn_7 : decode b_Md_turn 7 = .ok (.iload_n 1, 1) := by decide +kernel
theorem d_Md_turn_8 : decode b_Md_turn 8 = .ok (.iaload, 1) := by decide +kernel
theorem d_Md_turn_9 : decode b_Md_turn 9 = .ok (.if_icmp .ge 25, 3) := by decide +kernel
theorem d_Md_turn_12 : decode b_Md_turn 12 = .ok (.aload_n 0, 1) := by decide +kernel
theorem d_Md_turn_13 : decode b_Md_turn 13 = .ok (.getfield 25, 3) := by decide +kernel
theorem d_Md_turn_16 : decode b_Md_turn 16 = .ok (.sipush 512, 3) := by decide +kernel
theorem d_Md_turn_19 : decode b_Md_turn 19 = .ok (.iload_n 1, 1) := by decide +kernel
theorem d_Md_turn_20 : decode b_Md_turn 20 = .ok (.imul, 1) := by decide +kernel
theorem d_Md_turn_21 : decode b_Md_turn 21 = .ok (.iload_n 2, 1) := by decide +kernel
theorem d_Md_turn_22 : decode b_Md_turn 22 = .ok (.iadd, 1) := by decide +kernel
theorem d_Md_turn_23 : decode b_Md_turn 23 = .ok (.baload, 1) := by decide +kernel
theorem d_Md_turn_24 : decode b_Md_turn 24 = .ok (.ifCond .eq 10, 3) := by decide +kernel
theorem d_Md_turn_27 : decode b_Md_turn 27 = .ok (.iload_n 2, 1) := by decide +kernel
theorem d_Md_turn_28 : decode b_Md_turn 28 = .ok (.iconst 1, 1) := by decide +kernel
theorem d_Md_turn_29 : decode b_Md_turn 29 = .ok (.iadd, 1) := by decide +kernel
theorem d_Md_turn_30 : decode b_Md_turn 30 = .ok (.istore_n 2, 1) := by decide +kernel
theorem d_Md_turn_31 : decode b_Md_turn 31 = .ok (.goto (-29), 3) := by decide +kernel
theorem d_Md_turn_34 : decode b_Md_turn 34 = .ok (.iload_n 2, 1) := by decide +kernel
theorem d_Md_turn_35 : decode b_Md_turn 35 = .ok (.ireturn, 1) := by decide +kernel
theorem d_Md_clocksDone_0 : decode b_Md_clocksDone 0 = .ok (.sipush 1000, 3) := by decide +kernel
theorem d_Md_clocksDone_3 : decode b_Md_clocksDone 3 = .ok (.istore_n 2, 1) := by decide +kernel
theorem d_Md_clocksDone_4 : decode b_Md_clocksDone 4 = .ok (.iconst 0, 1) := by decide +kernel
theorem d_Md_clocksDone_5 : decode b_Md_clocksDone 5 = .ok (.istore_n 3, 1) := by decide +kernel
theorem d_Md_clocksDone_6 : decode b_Md_clocksDone 6 = .ok (.iload_n 3, 1) := by decide +kernel
theorem d_Md_clocksDone_7 : decode b_Md_clocksDone 7 = .ok (.aload_n 0, 1) := by decide +kernel
theorem d_Md_clocksDone_8 : decode b_Md_clocksDone 8 = .ok (.getfield 50, 3) := by decide +kernel
theorem d_Md_clocksDone_11 : decode b_Md_clocksDone 11 = .ok (.if_icmp .ge 85, 3) := by decide +kernel
theorem d_Md_clocksDone_14 : decode b_Md_clocksDone 14 = .ok (.aload_n 0, 1) := by decide +kernel
theorem d_Md_clocksDone_15 : decode b_Md_clocksDone 15 = .ok (.iconst 3, 1) := by decide +kernel
theorem d_Md_clocksDone_16 : decode b_Md_clocksDone 16 = .ok (.iload_n 3, 1) := by decide +kernel
theorem d_Md_clocksDone_17 : decode b_Md_clocksDone 17 = .ok (.imul, 1) := by decide +kernel
theorem d_Md_clocksDone_18 : decode b_Md_clocksDone 18 = .ok (.iload_n 1, 1) := by decide +kernel
theorem d_Md_clocksDone_19 : decode b_Md_clocksDone 19 = .ok (.iadd, 1) := by decide +kernel
theorem d_Md_clocksDone_20 : decode b_Md_clocksDone 20 = .ok (.invokevirtual 82, 3) := by decide +kernel
theorem d_Md_clocksDone_23 : decode b_Md_clocksDone 23 = .ok (.istore 4, 2) := by decide +kernel
theorem d_Md_clocksDone_25 : decode b_Md_clocksDone 25 = .ok (.iconst 0, 1) := by decide +kernel
theorem d_Md_clocksDone_26 : decode b_Md_clocksDone 26 = .ok (.istore 5, 2) := by decide +kernel
theorem d_Md_clocksDone_28 : decode b_Md_clocksDone 28 = .ok (.iconst 0, 1) := by decide +kernel
theorem d_Md_clocksDone_29 : decode b_Md_clocksDone 29 = .ok (.istore 6, 2) := by decide +kernel
theorem d_Md_clocksDone_31 : decode b_Md_clocksDone 31 = .ok (.iload 6, 2) := by decide +kernel
theorem d_Md_clocksDone_33 : decode b_Md_clocksDone 33 = .ok (.iload 4, 2) := by decide +kernel
theorem d_Md_clocksDone_35 : decode b_Md_clocksDone 35 = .ok (.if_icmp .ge 42, 3) := by decide +kernel
theorem d_Md_clocksDone_38 : decode b_Md_clocksDone 38 = .ok (.aload_n 0, 1) := by decide +kernel
theorem d_Md_clocksDone_39 : decode b_Md_clocksDone 39 = .ok (.getfield 22, 3) := by decide +kernel
theorem d_Md_clocksDone_42 : decode b_Md_clocksDone 42 = .ok (.sipush 512, 3) := by decide +kernel
theorem d_Md_clocksDone_45 : decode b_Md_clocksDone 45 = .ok (.iconst 3, 1) := by decide +kernel
theorem d_Md_clocksDone_46 : decode b_Md_clocksDone 46 = .ok (.iload_n 3, 1) := by decide +kernel
theorem d_Md_clocksDone_47 : decode b_Md_clocksDone 47 = .ok (.imul, 1) := by decide +kernel
theorem d_Md_clocksDone_48 : decode b_Md_clocksDone 48 = .ok (.iload_n 1, 1) := by decide +kernel
theorem d_Md_clocksDone_49 : decode b_Md_clocksDone 49 = .ok (.iadd, 1) := by decide +kernel
theorem d_Md_clocksDone_50 : decode b_Md_clocksDone 50 = .ok (.imul, 1) := by decide +kernel
theorem d_Md_clocksDone_51 : decode b_Md_clocksDone 51 = .ok (.iload 6, 2) := by decide +kernel
theorem d_Md_clocksDone_53 : decode b_Md_clocksDone 53 = .ok (.iadd, 1) := by decide +kernel
theorem d_Md_clocksDone_54 : decode b_Md_clocksDone 54 = .ok (.iaload, 1) := by decide +kernel
theorem d_Md_clocksDone_55 : decode b_Md_clocksDone 55 = .ok (.ldc 81, 2) := by decide +kernel
theorem d_Md_clocksDone_57 : decode b_Md_clocksDone 57 = .ok (.if_icmp .ne 10, 3) := by decide +kernel
theorem d_Md_clocksDone_60 : decode b_Md_clocksDone 60 = .ok (.iload 5, 2) := by decide +kernel
theorem d_Md_clocksDone_62 : decode b_Md_clocksDone 62 = .ok (.iconst 1, 1) := by decide +kernel
theorem d_Md_clocksDone_63 : decode b_Md_clocksDone 63 = .ok (.iadd, 1) := by decide +kernel
theorem d_Md_clocksDone_64 : decode b_Md_clocksDone 64 = .ok (.goto 5, 3) := by decide +kernel
theorem d_Md_clocksDone_67 : decode b_Md_clocksDone 67 = .ok (.iload 5, 2) := by decide +kernel
theorem d_Md_clocksDone_69 : decode b_Md_clocksDone 69 = .ok (.istore 5, 2) := by decide +kernel
theorem d_Md_clocksDone_71 : decode b_Md_clocksDone 71 = .ok (.iinc 6 1, 3) := by decide +kernel
theorem d_Md_clocksDone_74 : decode b_Md_clocksDone 74 = .ok (.goto (-43), 3) := by decide +kernel
theorem d_Md_clocksDone_77 : decode b_Md_clocksDone 77 = .ok (.iload 5, 2) := by decide +kernel
theorem d_Md_clocksDone_79 : decode b_Md_clocksDone 79 = .ok (.iload_n 2, 1) := by decide +kernel
theorem d_Md_clocksDone_80 : decode b_Md_clocksDone 80 = .ok (.if_icmp .ge 8, 3) := by decide +kernel
theorem d_Md_clocksDone_83 : decode b_Md_clocksDone 83 = .ok (.iload 5, 2) := by decide +kernel
theorem d_Md_clocksDone_85 : decode b_Md_clocksDone 85 = .ok (.goto 4, 3) := by decide +kernel
theorem d_Md_clocksDone_88 : decode b_Md_clocksDone 88 = .ok (.iload_n 2, 1) := by decide +kernel
theorem d_Md_clocksDone_89 : decode b_Md_clocksDone 89 = .ok (.istore_n 2, 1) := by decide +kernel
theorem d_Md_clocksDone_90 : decode b_Md_clocksDone 90 = .ok (.iinc 3 1, 3) := by decide +kernel
theorem d_Md_clocksDone_93 : decode b_Md_clocksDone 93 = .ok (.goto (-87), 3) := by decide +kernel
theorem d_Md_clocksDone_96 : decode b_Md_clocksDone 96 = .ok (.iload_n 2, 1) := by decide +kernel
theorem d_Md_clocksDone_97 : decode b_Md_clocksDone 97 = .ok (.ireturn, 1) := by decide +kernel
theorem d_Md_boundary_0 : decode b_Md_boundary 0 = .ok (.iconst 0, 1) := by decide +kernel
theorem d_Md_boundary_1 : decode b_Md_boundary 1 = .ok (.istore_n 3, 1) := by decide +kernel
theorem d_Md_boundary_2 : decode b_Md_boundary 2 = .ok (.iconst 0, 1) := by decide +kernel
theorem d_Md_boundary_3 : decode b_Md_boundary 3 = .ok (.istore 4, 2) := by decide +kernel
theorem d_Md_boundary_5 : decode b_Md_boundary 5 = .ok (.iload 4, 2) := by decide +kernel
theorem d_Md_boundary_7 : decode b_Md_boundary 7 = .ok (.aload_n 0, 1) := by decide +kernel
theorem d_Md_boundary_8 : decode b_Md_boundary 8 = .ok (.getfield 13, 3) := by decide +kernel
theorem d_Md_boundary_11 : decode b_Md_boundary 11 = .ok (.iload_n 1, 1) := by decide +kernel
theorem d_Md_boundary_12 : decode b_Md_boundary 12 = .ok (.iaload, 1) := by decide +kernel
theorem d_Md_boundary_13 : decode b_Md_boundary 13 = .ok (.if_icmp .ge 43, 3) := by decide +kernel
theorem d_Md_boundary_16 : decode b_Md_boundary 16 = .ok (.iload_n 3, 1) := by decide +kernel
theorem d_Md_boundary_17 : decode b_Md_boundary 17 = .ok (.iload_n 2, 1) := by decide +kernel
theorem d_Md_boundary_18 : decode b_Md_boundary 18 = .ok (.if_icmp .ge 38, 3) := by decide +kernel
theorem d_Md_boundary_21 : decode b_Md_boundary 21 = .ok (.aload_n 0, 1) := by decide +kernel
theorem d_Md_boundary_22 : decode b_Md_boundary 22 = .ok (.getfield 22, 3) := by decide +kernel
theorem d_Md_boundary_25 : decode b_Md_boundary 25 = .ok (.sipush 512, 3) := by decide +kernel
theorem d_Md_boundary_28 : decode b_Md_boundary 28 = .ok (.iload_n 1, 1) := by decide +kernel
theorem d_Md_boundary_29 : decode b_Md_boundary 29 = .ok (.imul, 1) := by decide +kernel
theorem d_Md_boundary_30 : decode b_Md_boundary 30 = .ok (.iload 4, 2) := by decide +kernel
theorem d_Md_boundary_32 : decode b_Md_boundary 32 = .ok (.iadd, 1) := by decide +kernel
theorem d_Md_boundary_33 : decode b_Md_boundary 33 = .ok (.iaload, 1) := by decide +kernel
theorem d_Md_boundary_34 : decode b_Md_boundary 34 = .ok (.ldc 81, 2) := by decide +kernel
theorem d_Md_boundary_36 : decode b_Md_boundary 36 = .ok (.if_icmp .ne 9, 3) := by decide +kernel
theorem d_Md_boundary_39 : decode b_Md_boundary 39 = .ok (.iload_n 3, 1) := by decide +kernel
theorem d_Md_boundary_40 : decode b_Md_boundary 40 = .ok (.iconst 1, 1) := by decide +kernel
theorem d_Md_boundary_41 : decode b_Md_boundary 41 = .ok (.iadd, 1) := by decide +kernel
theorem d_Md_boundary_42 : decode b_Md_boundary 42 = .ok (.goto 4, 3) := by decide +kernel
theorem d_Md_boundary_45 : decode b_Md_boundary 45 = .ok (.iload_n 3, 1) := by decide +kernel
theorem d_Md_boundary_46 : decode b_Md_boundary 46 = .ok (.istore_n 3, 1) := by decide +kernel
theorem d_Md_boundary_47 : decode b_Md_boundary 47 = .ok (.iload 4, 2) := by decide +kernel
theorem d_Md_boundary_49 : decode b_Md_boundary 49 = .ok (.iconst 1, 1) := by decide +kernel
theorem d_Md_boundary_50 : decode b_Md_boundary 50 = .ok (.iadd, 1) := by decide +kernel
theorem d_Md_boundary_51 : decode b_Md_boundary 51 = .ok (.istore 4, 2) := by decide +kernel
theorem d_Md_boundary_53 : decode b_Md_boundary 53 = .ok (.goto (-48), 3) := by decide +kernel
theorem d_Md_boundary_56 : decode b_Md_boundary 56 = .ok (.iload 4, 2) := by decide +kernel
theorem d_Md_boundary_58 : decode b_Md_boundary 58 = .ok (.ireturn, 1) := by decide +kernel
theorem d_Md_narrow_0 : decode b_Md_narrow 0 = .ok (.iload_n 0, 1) := by decide +kernel
theorem d_Md_narrow_1 : decode b_Md_narrow 1 = .ok (.bipush (-99), 2) := by decide +kernel
theorem d_Md_narrow_3 : decode b_Md_narrow 3 = .ok (.if_icmp .ge 8, 3) := by decide +kernel
theorem d_Md_narrow_6 : decode b_Md_narrow 6 = .ok (.bipush (-99), 2) := by decide +kernel
theorem d_Md_narrow_8 : decode b_Md_narrow 8 = .ok (.goto 15, 3) := by decide +kernel
theorem d_Md_narrow_11 : decode b_Md_narrow 11 = .ok (.iload_n 0, 1) := by decide +kernel
theorem d_Md_narrow_12 : decode b_Md_narrow 12 = .ok (.bipush 99, 2) := by decide +kernel
theorem d_Md_narrow_14 : decode b_Md_narrow 14 = .ok (.if_icmp .le 8, 3) := by decide +kernel
theorem d_Md_narrow_17 : decode b_Md_narrow 17 = .ok (.bipush 99, 2) := by decide +kernel
theorem d_Md_narrow_19 : decode b_Md_narrow 19 = .ok (.goto 4, 3) := by decide +kernel
theorem d_Md_narrow_22 : decode b_Md_narrow 22 = .ok (.iload_n 0, 1) := by decide +kernel
theorem d_Md_narrow_23 : decode b_Md_narrow 23 = .ok (.ireturn, 1) := by decide +kernel
theorem d_Md_contribution_0 : decode b_Md_contribution 0 = .ok (.iconst 3, 1) := by decide +kernel
theorem d_Md_contribution_1 : decode b_Md_contribution 1 = .ok (.iload_n 1, 1) := by decide +kernel
theorem d_Md_contribution_2 : decode b_Md_contribution 2 = .ok (.imul, 1) := by decide +kernel
theorem d_Md_contribution_3 : decode b_Md_contribution 3 = .ok (.iload_n 2, 1) := by decide +kernel
theorem d_Md_contribution_4 : decode b_Md_contribution 4 = .ok (.iconst 3, 1) := by decide +kernel
theorem d_Md_contribution_5 : decode b_Md_contribution 5 = .ok (.irem, 1) := by decide +kernel
theorem d_Md_contribution_6 : decode b_Md_contribution 6 = .ok (.iadd, 1) := by decide +kernel
theorem d_Md_contribution_7 : decode b_Md_contribution 7 = .ok (.istore 4, 2) := by decide +kernel
theorem d_Md_contribution_9 : decode b_Md_contribution 9 = .ok (.iconst 0, 1) := by decide +kernel
theorem d_Md_contribution_10 : decode b_Md_contribution 10 = .ok (.istore 5, 2) := by decide +kernel
theorem d_Md_contribution_12 : decode b_Md_contribution 12 = .ok (.iconst 0, 1) := by decide +kernel
theorem d_Md_contribution_13 : decode b_Md_contribution 13 = .ok (.istore 6, 2) := by decide +kernel
theorem d_Md_contribution_15 : decode b_Md_contribution 15 = .ok (.aload_n 0, 1) := by decide +kernel
theorem d_Md_contribution_16 : decode b_Md_contribution 16 = .ok (.iload 4, 2) := by decide +kernel
theorem d_Md_contribution_18 : decode b_Md_contribution 18 = .ok (.iload_n 3, 1) := by decide +kernel
theorem d_Md_contribution_19 : decode b_Md_contribution 19 = .ok (.invokevirtual 86, 3) := by decide +kernel
theorem d_Md_contribution_22 : decode b_Md_contribution 22 = .ok (.istore 7, 2) := by decide +kernel
theorem d_Md_contribution_24 : decode b_Md_contribution 24 = .ok (.iload 7, 2) := by decide +kernel
theorem d_Md_contribution_26 : decode b_Md_contribution 26 = .ok (.aload_n 0, 1) := by decide +kernel
theorem d_Md_contribution_27 : decode b_Md_contribution 27 = .ok (.getfield 13, 3) := by decide +kernel
theorem d_Md_contribution_30 : decode b_Md_contribution 30 = .ok (.iload 4, 2) := by decide +kernel
theorem d_Md_contribution_32 : decode b_Md_contribution 32 = .ok (.iaload, 1) := by decide +kernel
theorem d_Md_contribution_33 : decode b_Md_contribution 33 = .ok (.if_icmp .ge 76, 3) := by decide +kernel
theorem d_Md_contribution_36 : decode b_Md_contribution 36 = .ok (.iload 6, 2) := by decide +kernel
theorem d_Md_contribution_38 : decode b_Md_contribution 38 = .ok (.ifCond .ne 71, 3) := by decide +kernel
theorem d_Md_contribution_41 : decode b_Md_contribution 41 = .ok (.aload_n 0, 1) := by decide +kernel
theorem d_Md_contribution_42 : decode b_Md_contribution 42 = .ok (.getfield 22, 3) := by decide +kernel
theorem d_Md_contribution_45 : decode b_Md_contribution 45 = .ok (.sipush 512, 3) := by decide +kernel
theorem d_Md_contribution_48 : decode b_Md_contribution 48 = .ok (.iload 4, 2) := by decide +kernel
theorem d_Md_contribution_50 : decode b_Md_contribution 50 = .ok (.imul, 1) := by decide +kernel
theorem d_Md_contribution_51 : decode b_Md_contribution 51 = .ok (.iload 7, 2) := by decide +kernel
theorem d_Md_contribution_53 : decode b_Md_contribution 53 = .ok (.iadd, 1) := by decide +kernel
theorem d_Md_contribution_54 : decode b_Md_contribution 54 = .ok (.iaload, 1) := by decide +kernel
theorem d_Md_contribution_55 : decode b_Md_contribution 55 = .ok (.istore 8, 2) := by decide +kernel
theorem d_Md_contribution_57 : decode b_Md_contribution 57 = .ok (.iload 8, 2) := by decide +kernel
theorem d_Md_contribution_59 : decode b_Md_contribution 59 = .ok (.ldc 81, 2) := by decide +kernel
theorem d_Md_contribution_61 : decode b_Md_contribution 61 = .ok (.if_icmp .ne 7, 3) := by decide +kernel
theorem d_Md_contribution_64 : decode b_Md_contribution 64 = .ok (.iconst 1, 1) := by decide +kernel
theorem d_Md_contribution_65 : decode b_Md_contribution 65 = .ok (.goto 4, 3) := by decide +kernel
theorem d_Md_contribution_68 : decode b_Md_contribution 68 = .ok (.iconst 0, 1) := by decide +kernel
theorem d_Md_contribution_69 : decode b_Md_contribution 69 = .ok (.istore 6, 2) := by decide +kernel
theorem d_Md_contribution_71 : decode b_Md_contribution 71 = .ok (.iload 6, 2) := by decide +kernel
theorem d_Md_contribution_73 : decode b_Md_contribution 73 = .ok (.ifCond .ne 30, 3) := by decide +kernel
theorem d_Md_contribution_76 : decode b_Md_contribution 76 = .ok (.iload 8, 2) := by decide +kernel
theorem d_Md_contribution_78 : decode b_Md_contribution 78 = .ok (.sipush 1000, 3) := by decide +kernel
theorem d_Md_contribution_81 : decode b_Md_contribution 81 = .ok (.idiv, 1) := by decide +kernel
theorem d_Md_contribution_82 : decode b_Md_contribution 82 = .ok (.iload_n 2, 1) := by decide +kernel
theorem d_Md_contribution_83 : decode b_Md_contribution 83 = .ok (.if_icmp .ne 20, 3) := by decide +kernel
theorem d_Md_contribution_86 : decode b_Md_contribution 86 = .ok (.iload 5, 2) := by decide +kernel
theorem d_Md_contribution_88 : decode b_Md_contribution 88 = .ok (.iload 8, 2) := by decide +kernel
theorem d_Md_contribution_90 : decode b_Md_contribution 90 = .ok (.sipush 1000, 3) := by decide +kernel
theorem d_Md_contribution_93 : decode b_Md_contribution 93 = .ok (.irem, 1) := by decide +kernel
theorem d_Md_contribution_94 : decode b_Md_contribution 94 = .ok (.iadd, 1) := by decide +kernel
theorem d_Md_contribution_95 : decode b_Md_contribution 95 = .ok (.bipush 100, 2) := by decide +kernel
theorem d_Md_contribution_97 : decode b_Md_contribution 97 = .ok (.isub, 1) := by decide +kernel
theorem d_Md_contribution_98 : decode b_Md_contribution 98 = .ok (.invokestatic 90, 3) := by decide +kernel
theorem d_Md_contribution_101 : decode b_Md_contribution 101 = .ok (.istore 5, 2) := by decide +kernel
theorem d_Md_contribution_103 : decode b_Md_contribution 103 = .ok (.iinc 7 1, 3) := by decide +kernel
theorem d_Md_contribution_106 : decode b_Md_contribution 106 = .ok (.goto (-82), 3) := by decide +kernel
theorem d_Md_contribution_109 : decode b_Md_contribution 109 = .ok (.iload 5, 2) := by decide +kernel
theorem d_Md_contribution_111 : decode b_Md_contribution 111 = .ok (.ireturn, 1) := by decide +kernel
theorem d_Md_root_0 : decode b_Md_root 0 = .ok (.iconst 0, 1) := by decide +kernel
theorem d_Md_root_1 : decode b_Md_root 1 = .ok (.istore_n 1, 1) := by decide +kernel
theorem d_Md_root_2 : decode b_Md_root 2 = .ok (.iload_n 1, 1) := by decide +kernel
theorem d_Md_root_3 : decode b_Md_root 3 = .ok (.iconst 1, 1) := by decide +kernel
theorem d_Md_root_4 : decode b_Md_root 4 = .ok (.iadd, 1) := by decide +kernel
theorem d_Md_root_5 : decode b_Md_root 5 = .ok (.iload_n 1, 1) := by decide +kernel
theorem d_Md_root_6 : decode b_Md_root 6 = .ok (.iconst 1, 1) := by decide +kernel
theorem d_Md_root_7 : decode b_Md_root 7 = .ok (.iadd, 1) := by decide +kernel
theorem d_Md_root_8 : decode b_Md_root 8 = .ok (.imul, 1) := by decide +kernel
theorem d_Md_root_9 : decode b_Md_root 9 = .ok (.iload_n 0, 1) := by decide +kernel
theorem d_Md_root_10 : decode b_Md_root 10 = .ok (.if_icmp .gt 10, 3) := by decide +kernel
theorem d_Md_root_13 : decode b_Md_root 13 = .ok (.iload_n 1, 1) := by decide +kernel
theorem d_Md_root_14 : decode b_Md_root 14 = .ok (.iconst 1, 1) := by decide +kernel
theorem d_Md_root_15 : decode b_Md_root 15 = .ok (.iadd, 1) := by decide +kernel
theorem d_Md_root_16 : decode b_Md_root 16 = .ok (.istore_n 1, 1) := by decide +kernel
theorem d_Md_root_17 : decode b_Md_root 17 = .ok (.goto (-15), 3) := by decide +kernel
theorem d_Md_root_20 : decode b_Md_root 20 = .ok (.iload_n 1, 1) := by decide +kernel
theorem d_Md_root_21 : decode b_Md_root 21 = .ok (.ireturn, 1) := by decide +kernel
theorem d_Md_workOut_0 : decode b_Md_workOut 0 = .ok (.aload_n 0, 1) := by decide +kernel
theorem d_Md_workOut_1 : decode b_Md_workOut 1 = .ok (.iconst 0, 1) := by decide +kernel
theorem d_Md_workOut_2 : decode b_Md_workOut 2 = .ok (.putfield 93, 3) := by decide +kernel
theorem d_Md_workOut_5 : decode b_Md_workOut 5 = .ok (.aload_n 0, 1) := by decide +kernel
theorem d_Md_workOut_6 : decode b_Md_workOut 6 = .ok (.iconst 0, 1) := by decide +kernel
theorem d_Md_workOut_7 : decode b_Md_workOut 7 = .ok (.putfield 96, 3) := by decide +kernel
theorem d_Md_workOut_10 : decode b_Md_workOut 10 = .ok (.iconst 0, 1) := by decide +kernel
theorem d_Md_workOut_11 : decode b_Md_workOut 11 = .ok (.istore_n 3, 1) := by decide +kernel
theorem d_Md_workOut_12 : decode b_Md_workOut 12 = .ok (.iload_n 3, 1) := by decide +kernel
theorem d_Md_workOut_13 : decode b_Md_workOut 13 = .ok (.iload_n 2, 1) := by decide +kernel
theorem d_Md_workOut_14 : decode b_Md_workOut 14 = .ok (.if_icmp .ge 153, 3) := by decide +kernel
theorem d_Md_workOut_17 : decode b_Md_workOut 17 = .ok (.iconst 0, 1) := by decide +kernel
theorem d_Md_workOut_18 : decode b_Md_workOut 18 = .ok (.istore 4, 2) := by decide +kernel
theorem d_Md_workOut_20 : decode b_Md_workOut 20 = .ok (.iconst 0, 1) := by decide +kernel
theorem d_Md_workOut_21 : decode b_Md_workOut 21 = .ok (.istore 5, 2) := by decide +kernel
theorem d_Md_workOut_23 : decode b_Md_workOut 23 = .ok (.iload 5, 2) := by decide +kernel
theorem d_Md_workOut_25 : decode b_Md_workOut 25 = .ok (.aload_n 0, 1) := by decide +kernel
theorem d_Md_workOut_26 : decode b_Md_workOut 26 = .ok (.getfield 50, 3) := by decide +kernel
theorem d_Md_workOut_29 : decode b_Md_workOut 29 = .ok (.if_icmp .ge 29, 3) := by decide +kernel
theorem d_Md_workOut_32 : decode b_Md_workOut 32 = .ok (.aload_n 0, 1) := by decide +kernel
theorem d_Md_workOut_33 : decode b_Md_workOut 33 = .ok (.iload 5, 2) := by decide +kernel
theorem d_Md_workOut_35 : decode b_Md_workOut 35 = .ok (.iload_n 1, 1) := by decide +kernel
theorem d_Md_workOut_36 : decode b_Md_workOut 36 = .ok (.iload_n 3, 1) := by decide +kernel
theorem d_Md_workOut_37 : decode b_Md_workOut 37 = .ok (.invokevirtual 99, 3) := by decide +kernel
theorem d_Md_workOut_40 : decode b_Md_workOut 40 = .ok (.istore 6, 2) := by decide +kernel
theorem d_Md_workOut_42 : decode b_Md_workOut 42 = .ok (.iload 4, 2) := by decide +kernel
theorem d_Md_workOut_44 : decode b_Md_workOut 44 = .ok (.iload 6, 2) := by decide +kernel
theorem d_Md_workOut_46 : decode b_Md_workOut 46 = .ok (.iadd, 1) := by decide +kernel
theorem d_Md_workOut_47 : decode b_Md_workOut 47 = .ok (.invokestatic 90, 3) := by decide +kernel
theorem d_Md_workOut_50 : decode b_Md_workOut 50 = .ok (.istore 4, 2) := by decide +kernel
theorem d_Md_workOut_52 : decode b_Md_workOut 52 = .ok (.iinc 5 1, 3) := by decide +kernel
theorem d_Md_workOut_55 : decode b_Md_workOut 55 = .ok (.goto (-32), 3) := by decide +kernel
theorem d_Md_workOut_58 : decode b_Md_workOut 58 = .ok (.aload_n 0, 1) := by decide +kernel
theorem d_Md_workOut_59 : decode b_Md_workOut 59 = .ok (.getfield 57, 3) := by decide +kernel
theorem d_Md_workOut_62 : decode b_Md_workOut 62 = .ok (.ifCond .ne 17, 3) := by decide +kernel
theorem d_Md_workOut_65 : decode b_Md_workOut 65 = .ok (.aload_n 0, 1) := by decide +kernel
theorem d_Md_workOut_66 : decode b_Md_workOut 66 = .ok (.aload_n 0, 1) := by decide +kernel
theorem d_Md_workOut_67 : decode b_Md_workOut 67 = .ok (.getfield 93, 3) := by decide +kernel
theorem d_Md_workOut_70 : decode b_Md_workOut 70 = .ok (.iload 4, 2) := by decide +kernel
theorem d_Md_workOut_72 : decode b_Md_workOut 72 = .ok (.isub, 1) := by decide +kernel
theorem d_Md_workOut_73 : decode b_Md_workOut 73 = .ok (.putfield 93, 3) := by decide +kernel
theorem d_Md_workOut_76 : decode b_Md_workOut 76 = .ok (.goto 85, 3) := by decide +kernel
theorem d_Md_workOut_79 : decode b_Md_workOut 79 = .ok (.aload_n 0, 1) := by decide +kernel
theorem d_Md_workOut_80 : decode b_Md_workOut 80 = .ok (.getfield 57, 3) := by decide +kernel
theorem d_Md_workOut_83 : decode b_Md_workOut 83 = .ok (.iconst 1, 1) := by decide +kernel
theorem d_Md_workOut_84 : decode b_Md_workOut 84 = .ok (.if_icmp .ne 39, 3) := by decide +kernel
theorem d_Md_workOut_87 : decode b_Md_workOut 87 = .ok (.aload_n 0, 1) := by decide +kernel
theorem d_Md_workOut_88 : decode b_Md_workOut 88 = .ok (.aload_n 0, 1) := by decide +kernel
theorem d_Md_workOut_89 : decode b_Md_workOut 89 = .ok (.getfield 96, 3) := by decide +kernel
theorem d_Md_workOut_92 : decode b_Md_workOut 92 = .ok (.aload_n 0, 1) := by decide +kernel
theorem d_Md_workOut_93 : decode b_Md_workOut 93 = .ok (.getfield 96, 3) := by decide +kernel
theorem d_Md_workOut_96 : decode b_Md_workOut 96 = .ok (.iconst 4, 1) := by decide +kernel
theorem d_Md_workOut_97 : decode b_Md_workOut 97 = .ok (.idiv, 1) := by decide +kernel
theorem d_Md_workOut_98 : decode b_Md_workOut 98 = .ok (.isub, 1) := by decide +kernel
theorem d_Md_workOut_99 : decode b_Md_workOut 99 = .ok (.iload 4, 2) := by decide +kernel
theorem d_Md_workOut_101 : decode b_Md_workOut 101 = .ok (.iadd, 1) := by decide +kernel
theorem d_Md_workOut_102 : decode b_Md_workOut 102 = .ok (.putfield 96, 3) := by decide +kernel
theorem d_Md_workOut_105 : decode b_Md_workOut 105 = .ok (.aload_n 0, 1) := by decide +kernel
theorem d_Md_workOut_106 : decode b_Md_workOut 106 = .ok (.aload_n 0, 1) := by decide +kernel
theorem d_Md_workOut_107 : decode b_Md_workOut 107 = .ok (.getfield 93, 3) := by decide +kernel
theorem d_Md_workOut_110 : decode b_Md_workOut 110 = .ok (.aload_n 0, 1) := by decide +kernel
theorem d_Md_workOut_111 : decode b_Md_workOut 111 = .ok (.getfield 96, 3) := by decide +kernel
theorem d_Md_workOut_114 : decode b_Md_workOut 114 = .ok (.iconst 2, 1) := by decide +kernel
theorem d_Md_workOut_115 : decode b_Md_workOut 115 = .ok (.idiv, 1) := by decide +kernel
theorem d_Md_workOut_116 : decode b_Md_workOut 116 = .ok (.isub, 1) := by decide +kernel
theorem d_Md_workOut_117 : decode b_Md_workOut 117 = .ok (.putfield 93, 3) := by decide +kernel
theorem d_Md_workOut_120 : decode b_Md_workOut 120 = .ok (.goto 41, 3) := by decide +kernel
theorem d_Md_workOut_123 : decode b_Md_workOut 123 = .ok (.aload_n 0, 1) := by decide +kernel
theorem d_Md_workOut_124 : decode b_Md_workOut 124 = .ok (.aload_n 0, 1) := by decide +kernel
theorem d_Md_workOut_125 : decode b_Md_workOut 125 = .ok (.getfield 96, 3) := by decide +kernel
theorem d_Md_workOut_128 : decode b_Md_workOut 128 = .ok (.iload 4, 2) := by decide +kernel
theorem d_Md_workOut_130 : decode b_Md_workOut 130 = .ok (.iload 4, 2) := by decide +kernel
theorem d_Md_workOut_132 : decode b_Md_workOut 132 = .ok (.imul, 1) := by decide +kernel
theorem d_Md_workOut_133 : decode b_Md_workOut 133 = .ok (.iadd, 1) := by decide +kernel
theorem d_Md_workOut_134 : decode b_Md_workOut 134 = .ok (.putfield 96, 3) := by decide +kernel
theorem d_Md_workOut_137 : decode b_Md_workOut 137 = .ok (.aload_n 0, 1) := by decide +kernel
theorem d_Md_workOut_138 : decode b_Md_workOut 138 = .ok (.aload_n 0, 1) := by decide +kernel
theorem d_Md_workOut_139 : decode b_Md_workOut 139 = .ok (.getfield 93, 3) := by decide +kernel
theorem d_Md_workOut_142 : decode b_Md_workOut 142 = .ok (.bipush 64, 2) := by decide +kernel
theorem d_Md_workOut_144 : decode b_Md_workOut 144 = .ok (.iload 4, 2) := by decide +kernel
theorem d_Md_workOut_146 : decode b_Md_workOut 146 = .ok (.imul, 1) := by decide +kernel
theorem d_Md_workOut_147 : decode b_Md_workOut 147 = .ok (.iconst 1, 1) := by decide +kernel
theorem d_Md_workOut_148 : decode b_Md_workOut 148 = .ok (.aload_n 0, 1) := by decide +kernel
theorem d_Md_workOut_149 : decode b_Md_workOut 149 = .ok (.getfield 96, 3) := by decide +kernel
theorem d_Md_workOut_152 : decode b_Md_workOut 152 = .ok (.invokestatic 103, 3) := by decide +kernel
theorem d_Md_workOut_155 : decode b_Md_workOut 155 = .ok (.iadd, 1) := by decide +kernel
theorem d_Md_workOut_156 : decode b_Md_workOut 156 = .ok (.idiv, 1) := by decide +kernel
theorem d_Md_workOut_157 : decode b_Md_workOut 157 = .ok (.isub, 1) := by decide +kernel
theorem d_Md_workOut_158 : decode b_Md_workOut 158 = .ok (.putfield 93, 3) := by decide +kernel
theorem d_Md_workOut_161 : decode b_Md_workOut 161 = .ok (.iinc 3 1, 3) := by decide +kernel
theorem d_Md_workOut_164 : decode b_Md_workOut 164 = .ok (.goto (-152), 3) := by decide +kernel
theorem d_Md_workOut_167 : decode b_Md_workOut 167 = .ok (.return_, 1) := by decide +kernel
