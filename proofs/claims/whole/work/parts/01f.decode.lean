theorem d_Md_ready_0 : decode b_Md_ready 0 = .ok (.aload_n 0, 1) := by decide +kernel
theorem d_Md_ready_1 : decode b_Md_ready 1 = .ok (.iload_n 1, 1) := by decide +kernel
theorem d_Md_ready_2 : decode b_Md_ready 2 = .ok (.invokevirtual 70, 3) := by decide +kernel
theorem d_Md_ready_5 : decode b_Md_ready 5 = .ok (.ifCond .eq 48, 3) := by decide +kernel
theorem d_Md_ready_8 : decode b_Md_ready 8 = .ok (.iload_n 2, 1) := by decide +kernel
theorem d_Md_ready_9 : decode b_Md_ready 9 = .ok (.ifCond .lt 44, 3) := by decide +kernel
theorem d_Md_ready_12 : decode b_Md_ready 12 = .ok (.iload_n 2, 1) := by decide +kernel
theorem d_Md_ready_13 : decode b_Md_ready 13 = .ok (.iconst 5, 1) := by decide +kernel
theorem d_Md_ready_14 : decode b_Md_ready 14 = .ok (.if_icmp .gt 39, 3) := by decide +kernel
theorem d_Md_ready_17 : decode b_Md_ready 17 = .ok (.aload_n 0, 1) := by decide +kernel
theorem d_Md_ready_18 : decode b_Md_ready 18 = .ok (.getfield 32, 3) := by decide +kernel
theorem d_Md_ready_21 : decode b_Md_ready 21 = .ok (.iload_n 2, 1) := by decide +kernel
theorem d_Md_ready_22 : decode b_Md_ready 22 = .ok (.iconst 3, 1) := by decide +kernel
theorem d_Md_ready_23 : decode b_Md_ready 23 = .ok (.irem, 1) := by decide +kernel
theorem d_Md_ready_24 : decode b_Md_ready 24 = .ok (.baload, 1) := by decide +kernel
theorem d_Md_ready_25 : decode b_Md_ready 25 = .ok (.ifCond .ne 28, 3) := by decide +kernel
theorem d_Md_ready_28 : decode b_Md_ready 28 = .ok (.aload_n 0, 1) := by decide +kernel
theorem d_Md_ready_29 : decode b_Md_ready 29 = .ok (.iload_n 2, 1) := by decide +kernel
theorem d_Md_ready_30 : decode b_Md_ready 30 = .ok (.iconst 3, 1) := by decide +kernel
theorem d_Md_ready_31 : decode b_Md_ready 31 = .ok (.irem, 1) := by decide +kernel
theorem d_Md_ready_32 : decode b_Md_ready 32 = .ok (.invokevirtual 106, 3) := by decide +kernel
theorem d_Md_ready_35 : decode b_Md_ready 35 = .ok (.aload_n 0, 1) := by decide +kernel
theorem d_Md_ready_36 : decode b_Md_ready 36 = .ok (.getfield 7, 3) := by decide +kernel
theorem d_Md_ready_39 : decode b_Md_ready 39 = .ok (.iload_n 1, 1) := by decide +kernel
theorem d_Md_ready_40 : decode b_Md_ready 40 = .ok (.iaload, 1) := by decide +kernel
theorem d_Md_ready_41 : decode b_Md_ready 41 = .ok (.aload_n 0, 1) := by decide +kernel
theorem d_Md_ready_42 : decode b_Md_ready 42 = .ok (.getfield 54, 3) := by decide +kernel
theorem d_Md_ready_45 : decode b_Md_ready 45 = .ok (.isub, 1) := by decide +kernel
theorem d_Md_ready_46 : decode b_Md_ready 46 = .ok (.if_icmp .lt 7, 3) := by decide +kernel
theorem d_Md_ready_49 : decode b_Md_ready 49 = .ok (.iconst 1, 1) := by decide +kernel
theorem d_Md_ready_50 : decode b_Md_ready 50 = .ok (.goto 4, 3) := by decide +kernel
theorem d_Md_ready_53 : decode b_Md_ready 53 = .ok (.iconst 0, 1) := by decide +kernel
theorem d_Md_ready_54 : decode b_Md_ready 54 = .ok (.ireturn, 1) := by decide +kernel
theorem d_Md_pull_0 : decode b_Md_pull 0 = .ok (.aload_n 0, 1) := by decide +kernel
theorem d_Md_pull_1 : decode b_Md_pull 1 = .ok (.iload_n 1, 1) := by decide +kernel
theorem d_Md_pull_2 : decode b_Md_pull 2 = .ok (.iload_n 2, 1) := by decide +kernel
theorem d_Md_pull_3 : decode b_Md_pull 3 = .ok (.invokevirtual 109, 3) := by decide +kernel
theorem d_Md_pull_6 : decode b_Md_pull 6 = .ok (.ifCond .ne 5, 3) := by decide +kernel
theorem d_Md_pull_9 : decode b_Md_pull 9 = .ok (.iconst 0, 1) := by decide +kernel
theorem d_Md_pull_10 : decode b_Md_pull 10 = .ok (.ireturn, 1) := by decide +kernel
theorem d_Md_pull_11 : decode b_Md_pull 11 = .ok (.aload_n 0, 1) := by decide +kernel
theorem d_Md_pull_12 : decode b_Md_pull 12 = .ok (.iload_n 2, 1) := by decide +kernel
theorem d_Md_pull_13 : decode b_Md_pull 13 = .ok (.iconst 3, 1) := by decide +kernel
theorem d_Md_pull_14 : decode b_Md_pull 14 = .ok (.irem, 1) := by decide +kernel
theorem d_Md_pull_15 : decode b_Md_pull 15 = .ok (.invokevirtual 106, 3) := by decide +kernel
theorem d_Md_pull_18 : decode b_Md_pull 18 = .ok (.istore_n 3, 1) := by decide +kernel
theorem d_Md_pull_19 : decode b_Md_pull 19 = .ok (.aload_n 0, 1) := by decide +kernel
theorem d_Md_pull_20 : decode b_Md_pull 20 = .ok (.iload_n 2, 1) := by decide +kernel
theorem d_Md_pull_21 : decode b_Md_pull 21 = .ok (.iload_n 3, 1) := by decide +kernel
theorem d_Md_pull_22 : decode b_Md_pull 22 = .ok (.invokevirtual 113, 3) := by decide +kernel
theorem d_Md_pull_25 : decode b_Md_pull 25 = .ok (.aload_n 0, 1) := by decide +kernel
theorem d_Md_pull_26 : decode b_Md_pull 26 = .ok (.getfield 93, 3) := by decide +kernel
theorem d_Md_pull_29 : decode b_Md_pull 29 = .ok (.ireturn, 1) := by decide +kernel
theorem d_Md_clock_0 : decode b_Md_clock 0 = .ok (.aload_n 0, 1) := by decide +kernel
theorem d_Md_clock_1 : decode b_Md_clock 1 = .ok (.iload_n 1, 1) := by decide +kernel
theorem d_Md_clock_2 : decode b_Md_clock 2 = .ok (.invokevirtual 70, 3) := by decide +kernel
theorem d_Md_clock_5 : decode b_Md_clock 5 = .ok (.ifCond .eq 12, 3) := by decide +kernel
theorem d_Md_clock_8 : decode b_Md_clock 8 = .ok (.aload_n 0, 1) := by decide +kernel
theorem d_Md_clock_9 : decode b_Md_clock 9 = .ok (.getfield 7, 3) := by decide +kernel
theorem d_Md_clock_12 : decode b_Md_clock 12 = .ok (.iload_n 1, 1) := by decide +kernel
theorem d_Md_clock_13 : decode b_Md_clock 13 = .ok (.iaload, 1) := by decide +kernel
theorem d_Md_clock_14 : decode b_Md_clock 14 = .ok (.goto 4, 3) := by decide +kernel
theorem d_Md_clock_17 : decode b_Md_clock 17 = .ok (.iconst (-1), 1) := by decide +kernel
theorem d_Md_clock_18 : decode b_Md_clock 18 = .ok (.ireturn, 1) := by decide +kernel
theorem d_Md_deliver_0 : decode b_Md_deliver 0 = .ok (.iload_n 1, 1) := by decide +kernel
theorem d_Md_deliver_1 : decode b_Md_deliver 1 = .ok (.ifCond .lt 11, 3) := by decide +kernel
theorem d_Md_deliver_4 : decode b_Md_deliver 4 = .ok (.iload_n 1, 1) := by decide +kernel
theorem d_Md_deliver_5 : decode b_Md_deliver 5 = .ok (.aload_n 0, 1) := by decide +kernel
theorem d_Md_deliver_6 : decode b_Md_deliver 6 = .ok (.getfield 60, 3) := by decide +kernel
theorem d_Md_deliver_9 : decode b_Md_deliver 9 = .ok (.if_icmp .lt 5, 3) := by decide +kernel
theorem d_Md_deliver_12 : decode b_Md_deliver 12 = .ok (.iconst (-1), 1) := by decide +kernel
theorem d_Md_deliver_13 : decode b_Md_deliver 13 = .ok (.ireturn, 1) := by decide +kernel
theorem d_Md_deliver_14 : decode b_Md_deliver 14 = .ok (.aload_n 0, 1) := by decide +kernel
theorem d_Md_deliver_15 : decode b_Md_deliver 15 = .ok (.getfield 41, 3) := by decide +kernel
theorem d_Md_deliver_18 : decode b_Md_deliver 18 = .ok (.iload_n 1, 1) := by decide +kernel
theorem d_Md_deliver_19 : decode b_Md_deliver 19 = .ok (.baload, 1) := by decide +kernel
theorem d_Md_deliver_20 : decode b_Md_deliver 20 = .ok (.istore_n 2, 1) := by decide +kernel
theorem d_Md_deliver_21 : decode b_Md_deliver 21 = .ok (.aload_n 0, 1) := by decide +kernel
theorem d_Md_deliver_22 : decode b_Md_deliver 22 = .ok (.getfield 44, 3) := by decide +kernel
theorem d_Md_deliver_25 : decode b_Md_deliver 25 = .ok (.iload_n 1, 1) := by decide +kernel
theorem d_Md_deliver_26 : decode b_Md_deliver 26 = .ok (.iaload, 1) := by decide +kernel
theorem d_Md_deliver_27 : decode b_Md_deliver 27 = .ok (.istore_n 3, 1) := by decide +kernel
theorem d_Md_deliver_28 : decode b_Md_deliver 28 = .ok (.aload_n 0, 1) := by decide +kernel
theorem d_Md_deliver_29 : decode b_Md_deliver 29 = .ok (.getfield 47, 3) := by decide +kernel
theorem d_Md_deliver_32 : decode b_Md_deliver 32 = .ok (.iload_n 1, 1) := by decide +kernel
theorem d_Md_deliver_33 : decode b_Md_deliver 33 = .ok (.iaload, 1) := by decide +kernel
theorem d_Md_deliver_34 : decode b_Md_deliver 34 = .ok (.istore 4, 2) := by decide +kernel
theorem d_Md_deliver_36 : decode b_Md_deliver 36 = .ok (.aload_n 0, 1) := by decide +kernel
theorem d_Md_deliver_37 : decode b_Md_deliver 37 = .ok (.iload_n 1, 1) := by decide +kernel
theorem d_Md_deliver_38 : decode b_Md_deliver 38 = .ok (.invokevirtual 116, 3) := by decide +kernel
theorem d_Md_deliver_41 : decode b_Md_deliver 41 = .ok (.iload_n 2, 1) := by decide +kernel
theorem d_Md_deliver_42 : decode b_Md_deliver 42 = .ok (.ifCond .eq 54, 3) := by decide +kernel
theorem d_Md_deliver_45 : decode b_Md_deliver 45 = .ok (.iload 4, 2) := by decide +kernel
theorem d_Md_deliver_47 : decode b_Md_deliver 47 = .ok (.aload_n 0, 1) := by decide +kernel
theorem d_Md_deliver_48 : decode b_Md_deliver 48 = .ok (.getfield 19, 3) := by decide +kernel
theorem d_Md_deliver_51 : decode b_Md_deliver 51 = .ok (.iload_n 3, 1) := by decide +kernel
theorem d_Md_deliver_52 : decode b_Md_deliver 52 = .ok (.iaload, 1) := by decide +kernel
theorem d_Md_deliver_53 : decode b_Md_deliver 53 = .ok (.if_icmp .le 7, 3) := by decide +kernel
theorem d_Md_deliver_56 : decode b_Md_deliver 56 = .ok (.iconst 1, 1) := by decide +kernel
theorem d_Md_deliver_57 : decode b_Md_deliver 57 = .ok (.goto 4, 3) := by decide +kernel
theorem d_Md_deliver_60 : decode b_Md_deliver 60 = .ok (.iconst 0, 1) := by decide +kernel
theorem d_Md_deliver_61 : decode b_Md_deliver 61 = .ok (.istore 5, 2) := by decide +kernel
theorem d_Md_deliver_63 : decode b_Md_deliver 63 = .ok (.aload_n 0, 1) := by decide +kernel
theorem d_Md_deliver_64 : decode b_Md_deliver 64 = .ok (.getfield 19, 3) := by decide +kernel
theorem d_Md_deliver_67 : decode b_Md_deliver 67 = .ok (.iload_n 3, 1) := by decide +kernel
theorem d_Md_deliver_68 : decode b_Md_deliver 68 = .ok (.iload 5, 2) := by decide +kernel
theorem d_Md_deliver_70 : decode b_Md_deliver 70 = .ok (.ifCond .eq 8, 3) := by decide +kernel
theorem d_Md_deliver_73 : decode b_Md_deliver 73 = .ok (.iload 4, 2) := by decide +kernel
theorem d_Md_deliver_75 : decode b_Md_deliver 75 = .ok (.goto 9, 3) := by decide +kernel
theorem d_Md_deliver_78 : decode b_Md_deliver 78 = .ok (.aload_n 0, 1) := by decide +kernel
theorem d_Md_deliver_79 : decode b_Md_deliver 79 = .ok (.getfield 19, 3) := by decide +kernel
theorem d_Md_deliver_82 : decode b_Md_deliver 82 = .ok (.iload_n 3, 1) := by decide +kernel
theorem d_Md_deliver_83 : decode b_Md_deliver 83 = .ok (.iaload, 1) := by decide +kernel
theorem d_Md_deliver_84 : decode b_Md_deliver 84 = .ok (.iastore, 1) := by decide +kernel
theorem d_Md_deliver_85 : decode b_Md_deliver 85 = .ok (.iload 5, 2) := by decide +kernel
theorem d_Md_deliver_87 : decode b_Md_deliver 87 = .ok (.ifCond .eq 7, 3) := by decide +kernel
theorem d_Md_deliver_90 : decode b_Md_deliver 90 = .ok (.iconst 4, 1) := by decide +kernel
theorem d_Md_deliver_91 : decode b_Md_deliver 91 = .ok (.goto 4, 3) := by decide +kernel
theorem d_Md_deliver_94 : decode b_Md_deliver 94 = .ok (.iconst 5, 1) := by decide +kernel
theorem d_Md_deliver_95 : decode b_Md_deliver 95 = .ok (.ireturn, 1) := by decide +kernel
theorem d_Md_deliver_96 : decode b_Md_deliver 96 = .ok (.aload_n 0, 1) := by decide +kernel
theorem d_Md_deliver_97 : decode b_Md_deliver 97 = .ok (.getfield 32, 3) := by decide +kernel
theorem d_Md_deliver_100 : decode b_Md_deliver 100 = .ok (.iload_n 3, 1) := by decide +kernel
theorem d_Md_deliver_101 : decode b_Md_deliver 101 = .ok (.iconst 3, 1) := by decide +kernel
theorem d_Md_deliver_102 : decode b_Md_deliver 102 = .ok (.irem, 1) := by decide +kernel
theorem d_Md_deliver_103 : decode b_Md_deliver 103 = .ok (.baload, 1) := by decide +kernel
theorem d_Md_deliver_104 : decode b_Md_deliver 104 = .ok (.ifCond .eq 5, 3) := by decide +kernel
theorem d_Md_deliver_107 : decode b_Md_deliver 107 = .ok (.iconst 3, 1) := by decide +kernel
theorem d_Md_deliver_108 : decode b_Md_deliver 108 = .ok (.ireturn, 1) := by decide +kernel
theorem d_Md_deliver_109 : decode b_Md_deliver 109 = .ok (.aload_n 0, 1) := by decide +kernel
theorem d_Md_deliver_110 : decode b_Md_deliver 110 = .ok (.getfield 25, 3) := by decide +kernel
theorem d_Md_deliver_113 : decode b_Md_deliver 113 = .ok (.sipush 512, 3) := by decide +kernel
theorem d_Md_deliver_116 : decode b_Md_deliver 116 = .ok (.iload_n 3, 1) := by decide +kernel
theorem d_Md_deliver_117 : decode b_Md_deliver 117 = .ok (.imul, 1) := by decide +kernel
theorem d_Md_deliver_118 : decode b_Md_deliver 118 = .ok (.iload 4, 2) := by decide +kernel
theorem d_Md_deliver_120 : decode b_Md_deliver 120 = .ok (.iadd, 1) := by decide +kernel
theorem d_Md_deliver_121 : decode b_Md_deliver 121 = .ok (.baload, 1) := by decide +kernel
theorem d_Md_deliver_122 : decode b_Md_deliver 122 = .ok (.istore 5, 2) := by decide +kernel
theorem d_Md_deliver_124 : decode b_Md_deliver 124 = .ok (.aload_n 0, 1) := by decide +kernel
theorem d_Md_deliver_125 : decode b_Md_deliver 125 = .ok (.getfield 25, 3) := by decide +kernel
theorem d_Md_deliver_128 : decode b_Md_deliver 128 = .ok (.sipush 512, 3) := by decide +kernel
theorem d_Md_deliver_131 : decode b_Md_deliver 131 = .ok (.iload_n 3, 1) := by decide +kernel
theorem d_Md_deliver_132 : decode b_Md_deliver 132 = .ok (.imul, 1) := by decide +kernel
theorem d_Md_deliver_133 : decode b_Md_deliver 133 = .ok (.iload 4, 2) := by decide +kernel
theorem d_Md_deliver_135 : decode b_Md_deliver 135 = .ok (.iadd, 1) := by decide +kernel
theorem d_Md_deliver_136 : decode b_Md_deliver 136 = .ok (.iconst 1, 1) := by decide +kernel
theorem d_Md_deliver_137 : decode b_Md_deliver 137 = .ok (.bastore, 1) := by decide +kernel
theorem d_Md_deliver_138 : decode b_Md_deliver 138 = .ok (.aload_n 0, 1) := by decide +kernel
theorem d_Md_deliver_139 : decode b_Md_deliver 139 = .ok (.getfield 38, 3) := by decide +kernel
theorem d_Md_deliver_142 : decode b_Md_deliver 142 = .ok (.iconst 3, 1) := by decide +kernel
theorem d_Md_deliver_143 : decode b_Md_deliver 143 = .ok (.iload 5, 2) := by decide +kernel
theorem d_Md_deliver_145 : decode b_Md_deliver 145 = .ok (.ifCond .eq 14, 3) := by decide +kernel
theorem d_Md_deliver_148 : decode b_Md_deliver 148 = .ok (.aload_n 0, 1) := by decide +kernel
theorem d_Md_deliver_149 : decode b_Md_deliver 149 = .ok (.getfield 38, 3) := by decide +kernel
theorem d_Md_deliver_152 : decode b_Md_deliver 152 = .ok (.iconst 3, 1) := by decide +kernel
theorem d_Md_deliver_153 : decode b_Md_deliver 153 = .ok (.iaload, 1) := by decide +kernel
theorem d_Md_deliver_154 : decode b_Md_deliver 154 = .ok (.iconst 1, 1) := by decide +kernel
theorem d_Md_deliver_155 : decode b_Md_deliver 155 = .ok (.iadd, 1) := by decide +kernel
theorem d_Md_deliver_156 : decode b_Md_deliver 156 = .ok (.goto 9, 3) := by decide +kernel
theorem d_Md_deliver_159 : decode b_Md_deliver 159 = .ok (.aload_n 0, 1) := by decide +kernel
theorem d_Md_deliver_160 : decode b_Md_deliver 160 = .ok (.getfield 38, 3) := by decide +kernel
theorem d_Md_deliver_163 : decode b_Md_deliver 163 = .ok (.iconst 3, 1) := by decide +kernel
theorem d_Md_deliver_164 : decode b_Md_deliver 164 = .ok (.iaload, 1) := by decide +kernel
theorem d_Md_deliver_165 : decode b_Md_deliver 165 = .ok (.iastore, 1) := by decide +kernel
theorem d_Md_deliver_166 : decode b_Md_deliver 166 = .ok (.aload_n 0, 1) := by decide +kernel
theorem d_Md_deliver_167 : decode b_Md_deliver 167 = .ok (.iload_n 3, 1) := by decide +kernel
theorem d_Md_deliver_168 : decode b_Md_deliver 168 = .ok (.invokevirtual 82, 3) := by decide +kernel
theorem d_Md_deliver_171 : decode b_Md_deliver 171 = .ok (.istore 6, 2) := by decide +kernel
theorem d_Md_deliver_173 : decode b_Md_deliver 173 = .ok (.aload_n 0, 1) := by decide +kernel
theorem d_Md_deliver_174 : decode b_Md_deliver 174 = .ok (.iconst 1, 1) := by decide +kernel
theorem d_Md_deliver_175 : decode b_Md_deliver 175 = .ok (.iload_n 3, 1) := by decide +kernel
theorem d_Md_deliver_176 : decode b_Md_deliver 176 = .ok (.iload 6, 2) := by decide +kernel
theorem d_Md_deliver_178 : decode b_Md_deliver 178 = .ok (.invokevirtual 66, 3) := by decide +kernel
theorem d_Md_deliver_181 : decode b_Md_deliver 181 = .ok (.iload 5, 2) := by decide +kernel
theorem d_Md_deliver_183 : decode b_Md_deliver 183 = .ok (.ifCond .eq 7, 3) := by decide +kernel
theorem d_Md_deliver_186 : decode b_Md_deliver 186 = .ok (.iconst 2, 1) := by decide +kernel
theorem d_Md_deliver_187 : decode b_Md_deliver 187 = .ok (.goto 4, 3) := by decide +kernel
theorem d_Md_deliver_190 : decode b_Md_deliver 190 = .ok (.iconst 1, 1) := by decide +kernel
theorem d_Md_deliver_191 : decode b_Md_deliver 191 = .ok (.ireturn, 1) := by decide +kernel
theorem d_Md_drop_0 : decode b_Md_drop 0 = .ok (.iload_n 1, 1) := by decide +kernel
theorem d_Md_drop_1 : decode b_Md_drop 1 = .ok (.ifCond .lt 11, 3) := by decide +kernel
theorem d_Md_drop_4 : decode b_Md_drop 4 = .ok (.iload_n 1, 1) := by decide +kernel
theorem d_Md_drop_5 : decode b_Md_drop 5 = .ok (.aload_n 0, 1) := by decide +kernel
theorem d_Md_drop_6 : decode b_Md_drop 6 = .ok (.getfield 60, 3) := by decide +kernel
theorem d_Md_drop_9 : decode b_Md_drop 9 = .ok (.if_icmp .lt 5, 3) := by decide +kernel
theorem d_Md_drop_12 : decode b_Md_drop 12 = .ok (.iconst 0, 1) := by decide +kernel
theorem d_Md_drop_13 : decode b_Md_drop 13 = .ok (.ireturn, 1) := by decide +kernel
theorem d_Md_drop_14 : decode b_Md_drop 14 = .ok (.aload_n 0, 1) := by decide +kernel
theorem d_Md_drop_15 : decode b_Md_drop 15 = .ok (.iload_n 1, 1) := by decide +kernel
theorem d_Md_drop_16 : decode b_Md_drop 16 = .ok (.invokevirtual 116, 3) := by decide +kernel
theorem d_Md_drop_19 : decode b_Md_drop 19 = .ok (.iconst 1, 1) := by decide +kernel
theorem d_Md_drop_20 : decode b_Md_drop 20 = .ok (.ireturn, 1) := by decide +kernel
theorem d_Md_copy_0 : decode b_Md_copy 0 = .ok (.iload_n 1, 1) := by decide +kernel
theorem d_Md_copy_1 : decode b_Md_copy 1 = .ok (.ifCond .lt 20, 3) := by decide +kernel
theorem d_Md_copy_4 : decode b_Md_copy 4 = .ok (.iload_n 1, 1) := by decide +kernel
theorem d_Md_copy_5 : decode b_Md_copy 5 = .ok (.aload_n 0, 1) := by decide +kernel
theorem d_Md_copy_6 : decode b_Md_copy 6 = .ok (.getfield 60, 3) := by decide +kernel
theorem d_Md_copy_9 : decode b_Md_copy 9 = .ok (.if_icmp .ge 12, 3) := by decide +kernel
theorem d_Md_copy_12 : decode b_Md_copy 12 = .ok (.aload_n 0, 1) := by decide +kernel
theorem d_Md_copy_13 : decode b_Md_copy 13 = .ok (.getfield 60, 3) := by decide +kernel
theorem d_Md_copy_16 : decode b_Md_copy 16 = .ok (.bipush 24, 2) := by decide +kernel
theorem d_Md_copy_18 : decode b_Md_copy 18 = .ok (.if_icmp .lt 5, 3) := by decide +kernel
theorem d_Md_copy_21 : decode b_Md_copy 21 = .ok (.iconst 0, 1) := by decide +kernel
theorem d_Md_copy_22 : decode b_Md_copy 22 = .ok (.ireturn, 1) := by decide +kernel
theorem d_Md_copy_23 : decode b_Md_copy 23 = .ok (.aload_n 0, 1) := by decide +kernel
theorem d_Md_copy_24 : decode b_Md_copy 24 = .ok (.aload_n 0, 1) := by decide +kernel
theorem d_Md_copy_25 : decode b_Md_copy 25 = .ok (.getfield 41, 3) := by decide +kernel
theorem d_Md_copy_28 : decode b_Md_copy 28 = .ok (.iload_n 1, 1) := by decide +kernel
theorem d_Md_copy_29 : decode b_Md_copy 29 = .ok (.baload, 1) := by decide +kernel
theorem d_Md_copy_30 : decode b_Md_copy 30 = .ok (.aload_n 0, 1) := by decide +kernel
theorem d_Md_copy_31 : decode b_Md_copy 31 = .ok (.getfield 44, 3) := by decide +kernel
theorem d_Md_copy_34 : decode b_Md_copy 34 = .ok (.iload_n 1, 1) := by decide +kernel
theorem d_Md_copy_35 : decode b_Md_copy 35 = .ok (.iaload, 1) := by decide +kernel
theorem d_Md_copy_36 : decode b_Md_copy 36 = .ok (.aload_n 0, 1) := by decide +kernel
theorem d_Md_copy_37 : decode b_Md_copy 37 = .ok (.getfield 47, 3) := by decide +kernel
theorem d_Md_copy_40 : decode b_Md_copy 40 = .ok (.iload_n 1, 1) := by decide +kernel
theorem d_Md_copy_41 : decode b_Md_copy 41 = .ok (.iaload, 1) := by decide +kernel
theorem d_Md_copy_42 : decode b_Md_copy 42 = .ok (.invokevirtual 66, 3) := by decide +kernel
theorem d_Md_copy_45 : decode b_Md_copy 45 = .ok (.iconst 1, 1) := by decide +kernel
theorem d_Md_copy_46 : decode b_Md_copy 46 = .ok (.ireturn, 1) := by decide +kernel
theorem d_Md_tick_0 : decode b_Md_tick 0 = .ok (.aload_n 0, 1) := by decide +kernel
theorem d_Md_tick_1 : decode b_Md_tick 1 = .ok (.aload_n 0, 1) := by decide +kernel
theorem d_Md_tick_2 : decode b_Md_tick 2 = .ok (.getfield 63, 3) := by decide +kernel
theorem d_Md_tick_5 : decode b_Md_tick 5 = .ok (.iconst 1, 1) := by decide +kernel
theorem d_Md_tick_6 : decode b_Md_tick 6 = .ok (.iadd, 1) := by decide +kernel
theorem d_Md_tick_7 : decode b_Md_tick 7 = .ok (.putfield 63, 3) := by decide +kernel
theorem d_Md_tick_10 : decode b_Md_tick 10 = .ok (.iconst 0, 1) := by decide +kernel
theorem d_Md_tick_11 : decode b_Md_tick 11 = .ok (.istore_n 1, 1) := by decide +kernel
theorem d_Md_tick_12 : decode b_Md_tick 12 = .ok (.iconst 0, 1) := by decide +kernel
theorem d_Md_tick_13 : decode b_Md_tick 13 = .ok (.istore_n 2, 1) := by decide +kernel
theorem d_Md_tick_14 : decode b_Md_tick 14 = .ok (.iload_n 2, 1) := by decide +kernel
theorem d_Md_tick_15 : decode b_Md_tick 15 = .ok (.iconst 3, 1) := by decide +kernel
theorem d_Md_tick_16 : decode b_Md_tick 16 = .ok (.aload_n 0, 1) := by decide +kernel
theorem d_Md_tick_17 : decode b_Md_tick 17 = .ok (.getfield 50, 3) := by decide +kernel
theorem d_Md_tick_20 : decode b_Md_tick 20 = .ok (.imul, 1) := by decide +kernel
theorem d_Md_tick_21 : decode b_Md_tick 21 = .ok (.if_icmp .ge 78, 3) := by decide +kernel
theorem d_Md_tick_24 : decode b_Md_tick 24 = .ok (.aload_n 0, 1) := by decide +kernel
theorem d_Md_tick_25 : decode b_Md_tick 25 = .ok (.getfield 19, 3) := by decide +kernel
theorem d_Md_tick_28 : decode b_Md_tick 28 = .ok (.iload_n 2, 1) := by decide +kernel
theorem d_Md_tick_29 : decode b_Md_tick 29 = .ok (.iaload, 1) := by decide +kernel
theorem d_Md_tick_30 : decode b_Md_tick 30 = .ok (.istore_n 3, 1) := by decide +kernel
theorem d_Md_tick_31 : decode b_Md_tick 31 = .ok (.iload_n 3, 1) := by decide +kernel
theorem d_Md_tick_32 : decode b_Md_tick 32 = .ok (.aload_n 0, 1) := by decide +kernel
theorem d_Md_tick_33 : decode b_Md_tick 33 = .ok (.getfield 13, 3) := by decide +kernel
theorem d_Md_tick_36 : decode b_Md_tick 36 = .ok (.iload_n 2, 1) := by decide +kernel
theorem d_Md_tick_37 : decode b_Md_tick 37 = .ok (.iaload, 1) := by decide +kernel
theorem d_Md_tick_38 : decode b_Md_tick 38 = .ok (.if_icmp .ge 55, 3) := by decide +kernel
theorem d_Md_tick_41 : decode b_Md_tick 41 = .ok (.aload_n 0, 1) := by decide +kernel
theorem d_Md_tick_42 : decode b_Md_tick 42 = .ok (.getfield 63, 3) := by decide +kernel
theorem d_Md_tick_45 : decode b_Md_tick 45 = .ok (.aload_n 0, 1) := by decide +kernel
theorem d_Md_tick_46 : decode b_Md_tick 46 = .ok (.getfield 29, 3) := by decide +kernel
theorem d_Md_tick_49 : decode b_Md_tick 49 = .ok (.bipush 32, 2) := by decide +kernel
theorem d_Md_tick_51 : decode b_Md_tick 51 = .ok (.iload_n 2, 1) := by decide +kernel
theorem d_Md_tick_52 : decode b_Md_tick 52 = .ok (.imul, 1) := by decide +kernel
theorem d_Md_tick_53 : decode b_Md_tick 53 = .ok (.iload_n 3, 1) := by decide +kernel
theorem d_Md_tick_54 : decode b_Md_tick 54 = .ok (.bipush 32, 2) := by decide +kernel
theorem d_Md_tick_56 : decode b_Md_tick 56 = .ok (.irem, 1) := by decide +kernel
theorem d_Md_tick_57 : decode b_Md_tick 57 = .ok (.iadd, 1) := by decide +kernel
theorem d_Md_tick_58 : decode b_Md_tick 58 = .ok (.iaload, 1) := by decide +kernel
theorem d_Md_tick_59 : decode b_Md_tick 59 = .ok (.isub, 1) := by decide +kernel
theorem d_Md_tick_60 : decode b_Md_tick 60 = .ok (.iconst 3, 1) := by decide +kernel
theorem d_Md_tick_61 : decode b_Md_tick 61 = .ok (.if_icmp .lt 32, 3) := by decide +kernel
theorem d_Md_tick_64 : decode b_Md_tick 64 = .ok (.aload_n 0, 1) := by decide +kernel
theorem d_Md_tick_65 : decode b_Md_tick 65 = .ok (.getfield 29, 3) := by decide +kernel
theorem d_Md_tick_68 : decode b_Md_tick 68 = .ok (.bipush 32, 2) := by decide +kernel
theorem d_Md_tick_70 : decode b_Md_tick 70 = .ok (.iload_n 2, 1) := by decide +kernel
theorem d_Md_tick_71 : decode b_Md_tick 71 = .ok (.imul, 1) := by decide +kernel
theorem d_Md_tick_72 : decode b_Md_tick 72 = .ok (.iload_n 3, 1) := by decide +kernel
theorem d_Md_tick_73 : decode b_Md_tick 73 = .ok (.bipush 32, 2) := by decide +kernel
theorem d_Md_tick_75 : decode b_Md_tick 75 = .ok (.irem, 1) := by decide +kernel
theorem d_Md_tick_76 : decode b_Md_tick 76 = .ok (.iadd, 1) := by decide +kernel
theorem d_Md_tick_77 : decode b_Md_tick 77 = .ok (.aload_n 0, 1) := by decide +kernel
theorem d_Md_tick_78 : decode b_Md_tick 78 = .ok (.getfield 63, 3) := by decide +kernel
theorem d_Md_tick_81 : decode b_Md_tick 81 = .ok (.iastore, 1) := by decide +kernel
theorem d_Md_tick_82 : decode b_Md_tick 82 = .ok (.aload_n 0, 1) := by decide +kernel
theorem d_Md_tick_83 : decode b_Md_tick 83 = .ok (.iconst 0, 1) := by decide +kernel
theorem d_Md_tick_84 : decode b_Md_tick 84 = .ok (.iload_n 2, 1) := by decide +kernel
theorem d_Md_tick_85 : decode b_Md_tick 85 = .ok (.iload_n 3, 1) := by decide +kernel
theorem d_Md_tick_86 : decode b_Md_tick 86 = .ok (.invokevirtual 66, 3) := by decide +kernel
theorem d_Md_tick_89 : decode b_Md_tick 89 = .ok (.iload_n 1, 1) := by decide +kernel
theorem d_Md_tick_90 : decode b_Md_tick 90 = .ok (.iconst 1, 1) := by decide +kernel
theorem d_Md_tick_91 : decode b_Md_tick 91 = .ok (.iadd, 1) := by decide +kernel
theorem d_Md_tick_92 : decode b_Md_tick 92 = .ok (.istore_n 1, 1) := by decide +kernel
theorem d_Md_tick_93 : decode b_Md_tick 93 = .ok (.iinc 2 1, 3) := by decide +kernel
theorem d_Md_tick_96 : decode b_Md_tick 96 = .ok (.goto (-82), 3) := by decide +kernel
theorem d_Md_tick_99 : decode b_Md_tick 99 = .ok (.aload_n 0, 1) := by decide +kernel
theorem d_Md_tick_100 : decode b_Md_tick 100 = .ok (.getfield 38, 3) := by decide +kernel
theorem d_Md_tick_103 : decode b_Md_tick 103 = .ok (.iconst 2, 1) := by decide +kernel
theorem d_Md_tick_104 : decode b_Md_tick 104 = .ok (.aload_n 0, 1) := by decide +kernel
theorem d_Md_tick_105 : decode b_Md_tick 105 = .ok (.getfield 38, 3) := by decide +kernel
theorem d_Md_tick_108 : decode b_Md_tick 108 = .ok (.iconst 2, 1) := by decide +kernel
theorem d_Md_tick_109 : decode b_Md_tick 109 = .ok (.iaload, 1) := by decide +kernel
theorem d_Md_tick_110 : decode b_Md_tick 110 = .ok (.iload_n 1, 1) := by decide +kernel
theorem d_Md_tick_111 : decode b_Md_tick 111 = .ok (.iadd, 1) := by decide +kernel
theorem d_Md_tick_112 : decode b_Md_tick 112 = .ok (.iastore, 1) := by decide +kernel
theorem d_Md_tick_113 : decode b_Md_tick 113 = .ok (.iload_n 1, 1) := by decide +kernel
theorem d_Md_tick_114 : decode b_Md_tick 114 = .ok (.ireturn, 1) := by decide +kernel
theorem d_Md_run_0 : decode b_Md_run 0 = .ok (.iload_n 1, 1) := by decide +kernel
theorem d_Md_run_1 : decode b_Md_run 1 = .ok (.iconst 1, 1) := by decide +kernel
theorem d_Md_run_2 : decode b_Md_run 2 = .ok (.if_icmp .lt 9, 3) := by decide +kernel
theorem d_Md_run_5 : decode b_Md_run 5 = .ok (.iload_n 1, 1) := by decide +kernel
theorem d_Md_run_6 : decode b_Md_run 6 = .ok (.bipush 20, 2) := by decide +kernel
theorem d_Md_run_8 : decode b_Md_run 8 = .ok (.if_icmp .le 5, 3) := by decide +kernel
theorem d_Md_run_11 : decode b_Md_run 11 = .ok (.iconst (-1), 1) := by decide +kernel
theorem d_Md_run_12 : decode b_Md_run 12 = .ok (.ireturn, 1) := by decide +kernel
theorem d_Md_run_13 : decode b_Md_run 13 = .ok (.iconst 0, 1) := by decide +kernel
theorem d_Md_run_14 : decode b_Md_run 14 = .ok (.istore_n 2, 1) := by decide +kernel
theorem d_Md_run_15 : decode b_Md_run 15 = .ok (.iconst 0, 1) := by decide +kernel
theorem d_Md_run_16 : decode b_Md_run 16 = .ok (.istore_n 3, 1) := by decide +kernel
theorem d_Md_run_17 : decode b_Md_run 17 = .ok (.iload_n 3, 1) := by decide +kernel
theorem d_Md_run_18 : decode b_Md_run 18 = .ok (.iload_n 1, 1) := by decide +kernel
theorem d_Md_run_19 : decode b_Md_run 19 = .ok (.if_icmp .ge 34, 3) := by decide +kernel
theorem d_Md_run_22 : decode b_Md_run 22 = .ok (.aload_n 0, 1) := by decide +kernel
theorem d_Md_run_23 : decode b_Md_run 23 = .ok (.getfield 60, 3) := by decide +kernel
theorem d_Md_run_26 : decode b_Md_run 26 = .ok (.ifCond .le 16, 3) := by decide +kernel
theorem d_Md_run_29 : decode b_Md_run 29 = .ok (.aload_n 0, 1) := by decide +kernel
theorem d_Md_run_30 : decode b_Md_run 30 = .ok (.iconst 0, 1) := by decide +kernel
theorem d_Md_run_31 : decode b_Md_run 31 = .ok (.invokevirtual 120, 3) := by decide +kernel
theorem d_Md_run_34 : decode b_Md_run 34 = .ok (.pop, 1) := by decide +kernel
theorem d_Md_run_35 : decode b_Md_run 35 = .ok (.iload_n 2, 1) := by decide +kernel
theorem d_Md_run_36 : decode b_Md_run 36 = .ok (.iconst 1, 1) := by decide +kernel
theorem d_Md_run_37 : decode b_Md_run 37 = .ok (.iadd, 1) := by decide +kernel
theorem d_Md_run_38 : decode b_Md_run 38 = .ok (.istore_n 2, 1) := by decide +kernel
theorem d_Md_run_39 : decode b_Md_run 39 = .ok (.goto 8, 3) := by decide +kernel
theorem d_Md_run_42 : decode b_Md_run 42 = .ok (.aload_n 0, 1) := by decide +kernel
theorem d_Md_run_43 : decode b_Md_run 43 = .ok (.invokevirtual 123, 3) := by decide +kernel
theorem d_Md_run_46 : decode b_Md_run 46 = .ok (.pop, 1) := by decide +kernel
theorem d_Md_run_47 : decode b_Md_run 47 = .ok (.iinc 3 1, 3) := by decide +kernel
theorem d_Md_run_50 : decode b_Md_run 50 = .ok (.goto (-33), 3) := by decide +kernel
theorem d_Md_run_53 : decode b_Md_run 53 = .ok (.iload_n 2, 1) := by decide +kernel
theorem d_Md_run_54 : decode b_Md_run 54 = .ok (.ireturn, 1) := by decide +kernel
theorem d_Md_takeBefore_0 : decode b_Md_takeBefore 0 = .ok (.iconst 0, 1) := by decide +kernel
theorem d_Md_takeBefore_1 : decode b_Md_takeBefore 1 = .ok (.istore_n 3, 1) := by decide +kernel
theorem d_Md_takeBefore_2 : decode b_Md_takeBefore 2 = .ok (.iload_n 3, 1) := by decide +kernel
theorem d_Md_takeBefore_3 : decode b_Md_takeBefore 3 = .ok (.aload_n 0, 1) := by decide +kernel
theorem d_Md_takeBefore_4 : decode b_Md_takeBefore 4 = .ok (.getfield 50, 3) := by decide +kernel
theorem d_Md_takeBefore_7 : decode b_Md_takeBefore 7 = .ok (.if_icmp .ge 80, 3) := by decide +kernel
theorem d_Md_takeBefore_10 : decode b_Md_takeBefore 10 = .ok (.iconst 3, 1) := by decide +kernel
theorem d_Md_takeBefore_11 : decode b_Md_takeBefore 11 = .ok (.iload_n 3, 1) := by decide +kernel
theorem d_Md_takeBefore_12 : decode b_Md_takeBefore 12 = .ok (.imul, 1) := by decide +kernel
theorem d_Md_takeBefore_13 : decode b_Md_takeBefore 13 = .ok (.iload_n 1, 1) := by decide +kernel
theorem d_Md_takeBefore_14 : decode b_Md_takeBefore 14 = .ok (.iadd, 1) := by decide +kernel
theorem d_Md_takeBefore_15 : decode b_Md_takeBefore 15 = .ok (.istore 4, 2) := by decide +kernel
theorem d_Md_takeBefore_17 : decode b_Md_takeBefore 17 = .ok (.iload_n 2, 1) := by decide +kernel
theorem d_Md_takeBefore_18 : decode b_Md_takeBefore 18 = .ok (.ifCond .ge 7, 3) := by decide +kernel
theorem d_Md_takeBefore_21 : decode b_Md_takeBefore 21 = .ok (.iconst 0, 1) := by decide +kernel
theorem d_Md_takeBefore_22 : decode b_Md_takeBefore 22 = .ok (.goto 10, 3) := by decide +kernel
theorem d_Md_takeBefore_25 : decode b_Md_takeBefore 25 = .ok (.aload_n 0, 1) := by decide +kernel
theorem d_Md_takeBefore_26 : decode b_Md_takeBefore 26 = .ok (.iload 4, 2) := by decide +kernel
theorem d_Md_takeBefore_28 : decode b_Md_takeBefore 28 = .ok (.iload_n 2, 1) := by decide +kernel
theorem d_Md_takeBefore_29 : decode b_Md_takeBefore 29 = .ok (.invokevirtual 86, 3) := by decide +kernel
theorem d_Md_takeBefore_32 : decode b_Md_takeBefore 32 = .ok (.istore 5, 2) := by decide +kernel
theorem d_Md_takeBefore_34 : decode b_Md_takeBefore 34 = .ok (.iconst 0, 1) := by decide +kernel
theorem d_Md_takeBefore_35 : decode b_Md_takeBefore 35 = .ok (.istore 6, 2) := by decide +kernel
theorem d_Md_takeBefore_37 : decode b_Md_takeBefore 37 = .ok (.iload 6, 2) := by decide +kernel
theorem d_Md_takeBefore_39 : decode b_Md_takeBefore 39 = .ok (.aload_n 0, 1) := by decide +kernel
theorem d_Md_takeBefore_40 : decode b_Md_takeBefore 40 = .ok (.getfield 13, 3) := by decide +kernel
theorem d_Md_takeBefore_43 : decode b_Md_takeBefore 43 = .ok (.iload 4, 2) := by decide +kernel
theorem d_Md_takeBefore_45 : decode b_Md_takeBefore 45 = .ok (.iaload, 1) := by decide +kernel
theorem d_Md_takeBefore_46 : decode b_Md_takeBefore 46 = .ok (.if_icmp .ge 35, 3) := by decide +kernel
theorem d_Md_takeBefore_49 : decode b_Md_takeBefore 49 = .ok (.aload_n 0, 1) := by decide +kernel
theorem d_Md_takeBefore_50 : decode b_Md_takeBefore 50 = .ok (.getfield 25, 3) := by decide +kernel
theorem d_Md_takeBefore_53 : decode b_Md_takeBefore 53 = .ok (.sipush 512, 3) := by decide +kernel
theorem d_Md_takeBefore_56 : decode b_Md_takeBefore 56 = .ok (.iload 4, 2) := by decide +kernel
theorem d_Md_takeBefore_58 : decode b_Md_takeBefore 58 = .ok (.imul, 1) := by decide +kernel
theorem d_Md_takeBefore_59 : decode b_Md_takeBefore 59 = .ok (.iload 6, 2) := by decide +kernel
theorem d_Md_takeBefore_61 : decode b_Md_takeBefore 61 = .ok (.iadd, 1) := by decide +kernel
theorem d_Md_takeBefore_62 : decode b_Md_takeBefore 62 = .ok (.iload 6, 2) := by decide +kernel
theorem d_Md_takeBefore_64 : decode b_Md_takeBefore 64 = .ok (.iload 5, 2) := by decide +kernel
theorem d_Md_takeBefore_66 : decode b_Md_takeBefore 66 = .ok (.if_icmp .ge 7, 3) := by decide +kernel
theorem d_Md_takeBefore_69 : decode b_Md_takeBefore 69 = .ok (.iconst 1, 1) := by decide +kernel
theorem d_Md_takeBefore_70 : decode b_Md_takeBefore 70 = .ok (.goto 4, 3) := by decide +kernel
theorem d_Md_takeBefore_73 : decode b_Md_takeBefore 73 = .ok (.iconst 0, 1) := by decide +kernel
theorem d_Md_takeBefore_74 : decode b_Md_takeBefore 74 = .ok (.bastore, 1) := by decide +kernel
theorem d_Md_takeBefore_75 : decode b_Md_takeBefore 75 = .ok (.iinc 6 1, 3) := by decide +kernel
theorem d_Md_takeBefore_78 : decode b_Md_takeBefore 78 = .ok (.goto (-41), 3) := by decide +kernel
theorem d_Md_takeBefore_81 : decode b_Md_takeBefore 81 = .ok (.iinc 3 1, 3) := by decide +kernel
theorem d_Md_takeBefore_84 : decode b_Md_takeBefore 84 = .ok (.goto (-82), 3) := by decide +kernel
theorem d_Md_takeBefore_87 : decode b_Md_takeBefore 87 = .ok (.return_, 1) := by decide +kernel
theorem d_Md_kill_0 : decode b_Md_kill 0 = .ok (.iload_n 1, 1) := by decide +kernel
theorem d_Md_kill_1 : decode b_Md_kill 1 = .ok (.invokestatic 127, 3) := by decide +kernel
theorem d_Md_kill_4 : decode b_Md_kill 4 = .ok (.ifCond .eq 12, 3) := by decide +kernel
theorem d_Md_kill_7 : decode b_Md_kill 7 = .ok (.aload_n 0, 1) := by decide +kernel
theorem d_Md_kill_8 : decode b_Md_kill 8 = .ok (.getfield 32, 3) := by decide +kernel
theorem d_Md_kill_11 : decode b_Md_kill 11 = .ok (.iload_n 1, 1) := by decide +kernel
theorem d_Md_kill_12 : decode b_Md_kill 12 = .ok (.baload, 1) := by decide +kernel
theorem d_Md_kill_13 : decode b_Md_kill 13 = .ok (.ifCond .eq 5, 3) := by decide +kernel
theorem d_Md_kill_16 : decode b_Md_kill 16 = .ok (.iconst 0, 1) := by decide +kernel
theorem d_Md_kill_17 : decode b_Md_kill 17 = .ok (.ireturn, 1) := by decide +kernel
theorem d_Md_kill_18 : decode b_Md_kill 18 = .ok (.aload_n 0, 1) := by decide +kernel
theorem d_Md_kill_19 : decode b_Md_kill 19 = .ok (.getfield 32, 3) := by decide +kernel
theorem d_Md_kill_22 : decode b_Md_kill 22 = .ok (.iload_n 1, 1) := by decide +kernel
theorem d_Md_kill_23 : decode b_Md_kill 23 = .ok (.iconst 1, 1) := by decide +kernel
theorem d_Md_kill_24 : decode b_Md_kill 24 = .ok (.bastore, 1) := by decide +kernel
theorem d_Md_kill_25 : decode b_Md_kill 25 = .ok (.aload_n 0, 1) := by decide +kernel
theorem d_Md_kill_26 : decode b_Md_kill 26 = .ok (.iload_n 1, 1) := by decide +kernel
theorem d_Md_kill_27 : decode b_Md_kill 27 = .ok (.iconst (-1), 1) := by decide +kernel
theorem d_Md_kill_28 : decode b_Md_kill 28 = .ok (.invokevirtual 130, 3) := by decide +kernel
theorem d_Md_kill_31 : decode b_Md_kill 31 = .ok (.aload_n 0, 1) := by decide +kernel
theorem d_Md_kill_32 : decode b_Md_kill 32 = .ok (.getfield 60, 3) := by decide +kernel
theorem d_Md_kill_35 : decode b_Md_kill 35 = .ok (.iconst 1, 1) := by decide +kernel
theorem d_Md_kill_36 : decode b_Md_kill 36 = .ok (.isub, 1) := by decide +kernel
theorem d_Md_kill_37 : decode b_Md_kill 37 = .ok (.istore_n 2, 1) := by decide +kernel
theorem d_Md_kill_38 : decode b_Md_kill 38 = .ok (.iload_n 2, 1) := by decide +kernel
theorem d_Md_kill_39 : decode b_Md_kill 39 = .ok (.ifCond .lt 26, 3) := by decide +kernel
theorem d_Md_kill_42 : decode b_Md_kill 42 = .ok (.aload_n 0, 1) := by decide +kernel
theorem d_Md_kill_43 : decode b_Md_kill 43 = .ok (.getfield 44, 3) := by decide +kernel
theorem d_Md_kill_46 : decode b_Md_kill 46 = .ok (.iload_n 2, 1) := by decide +kernel
theorem d_Md_kill_47 : decode b_Md_kill 47 = .ok (.iaload, 1) := by decide +kernel
theorem d_Md_kill_48 : decode b_Md_kill 48 = .ok (.iconst 3, 1) := by decide +kernel
theorem d_Md_kill_49 : decode b_Md_kill 49 = .ok (.irem, 1) := by decide +kernel
theorem d_Md_kill_50 : decode b_Md_kill 50 = .ok (.iload_n 1, 1) := by decide +kernel
theorem d_Md_kill_51 : decode b_Md_kill 51 = .ok (.if_icmp .ne 8, 3) := by decide +kernel
theorem d_Md_kill_54 : decode b_Md_kill 54 = .ok (.aload_n 0, 1) := by decide +kernel
theorem d_Md_kill_55 : decode b_Md_kill 55 = .ok (.iload_n 2, 1) := by decide +kernel
theorem d_Md_kill_56 : decode b_Md_kill 56 = .ok (.invokevirtual 116, 3) := by decide +kernel
theorem d_Md_kill_59 : decode b_Md_kill 59 = .ok (.iinc 2 (-1), 3) := by decide +kernel
theorem d_Md_kill_62 : decode b_Md_kill 62 = .ok (.goto (-24), 3) := by decide +kernel
theorem d_Md_kill_65 : decode b_Md_kill 65 = .ok (.iconst 1, 1) := by decide +kernel
theorem d_Md_kill_66 : decode b_Md_kill 66 = .ok (.ireturn, 1) := by decide +kernel
theorem d_Md_recover_0 : decode b_Md_recover 0 = .ok (.iload_n 1, 1) := by decide +kernel
theorem d_Md_recover_1 : decode b_Md_recover 1 = .ok (.invokestatic 127, 3) := by decide +kernel
theorem d_Md_recover_4 : decode b_Md_recover 4 = .ok (.ifCond .eq 12, 3) := by decide +kernel
theorem d_Md_recover_7 : decode b_Md_recover 7 = .ok (.aload_n 0, 1) := by decide +kernel
theorem d_Md_recover_8 : decode b_Md_recover 8 = .ok (.getfield 32, 3) := by decide +kernel
theorem d_Md_recover_11 : decode b_Md_recover 11 = .ok (.iload_n 1, 1) := by decide +kernel
theorem d_Md_recover_12 : decode b_Md_recover 12 = .ok (.baload, 1) := by decide +kernel
theorem d_Md_recover_13 : decode b_Md_recover 13 = .ok (.ifCond .ne 5, 3) := by decide +kernel
theorem d_Md_recover_16 : decode b_Md_recover 16 = .ok (.iconst 0, 1) := by decide +kernel
theorem d_Md_recover_17 : decode b_Md_recover 17 = .ok (.ireturn, 1) := by decide +kernel
theorem d_Md_recover_18 : decode b_Md_recover 18 = .ok (.aload_n 0, 1) := by decide +kernel
theorem d_Md_recover_19 : decode b_Md_recover 19 = .ok (.getfield 32, 3) := by decide +kernel
theorem d_Md_recover_22 : decode b_Md_recover 22 = .ok (.iload_n 1, 1) := by decide +kernel
theorem d_Md_recover_23 : decode b_Md_recover 23 = .ok (.iconst 0, 1) := by decide +kernel
theorem d_Md_recover_24 : decode b_Md_recover 24 = .ok (.bastore, 1) := by decide +kernel
theorem d_Md_recover_25 : decode b_Md_recover 25 = .ok (.aload_n 0, 1) := by decide +kernel
theorem d_Md_recover_26 : decode b_Md_recover 26 = .ok (.iload_n 1, 1) := by decide +kernel
theorem d_Md_recover_27 : decode b_Md_recover 27 = .ok (.aload_n 0, 1) := by decide +kernel
theorem d_Md_recover_28 : decode b_Md_recover 28 = .ok (.getfield 35, 3) := by decide +kernel
theorem d_Md_recover_31 : decode b_Md_recover 31 = .ok (.iload_n 1, 1) := by decide +kernel
theorem d_Md_recover_32 : decode b_Md_recover 32 = .ok (.iaload, 1) := by decide +kernel
theorem d_Md_recover_33 : decode b_Md_recover 33 = .ok (.invokevirtual 130, 3) := by decide +kernel
theorem d_Md_recover_36 : decode b_Md_recover 36 = .ok (.iconst 0, 1) := by decide +kernel
theorem d_Md_recover_37 : decode b_Md_recover 37 = .ok (.istore_n 2, 1) := by decide +kernel
theorem d_Md_recover_38 : decode b_Md_recover 38 = .ok (.iload_n 2, 1) := by decide +kernel
theorem d_Md_recover_39 : decode b_Md_recover 39 = .ok (.aload_n 0, 1) := by decide +kernel
theorem d_Md_recover_40 : decode b_Md_recover 40 = .ok (.getfield 50, 3) := by decide +kernel
theorem d_Md_recover_43 : decode b_Md_recover 43 = .ok (.if_icmp .ge 34, 3) := by decide +kernel
theorem d_Md_recover_46 : decode b_Md_recover 46 = .ok (.aload_n 0, 1) := by decide +kernel
theorem d_Md_recover_47 : decode b_Md_recover 47 = .ok (.getfield 19, 3) := by decide +kernel
theorem d_Md_recover_50 : decode b_Md_recover 50 = .ok (.iconst 3, 1) := by decide +kernel
theorem d_Md_recover_51 : decode b_Md_recover 51 = .ok (.iload_n 2, 1) := by decide +kernel
theorem d_Md_recover_52 : decode b_Md_recover 52 = .ok (.imul, 1) := by decide +kernel
theorem d_Md_recover_53 : decode b_Md_recover 53 = .ok (.iload_n 1, 1) := by decide +kernel
theorem d_Md_recover_54 : decode b_Md_recover 54 = .ok (.iadd, 1) := by decide +kernel
theorem d_Md_recover_55 : decode b_Md_recover 55 = .ok (.aload_n 0, 1) := by decide +kernel
theorem d_Md_recover_56 : decode b_Md_recover 56 = .ok (.iconst 3, 1) := by decide +kernel
theorem d_Md_recover_57 : decode b_Md_recover 57 = .ok (.iload_n 2, 1) := by decide +kernel
theorem d_Md_recover_58 : decode b_Md_recover 58 = .ok (.imul, 1) := by decide +kernel
theorem d_Md_recover_59 : decode b_Md_recover 59 = .ok (.iload_n 1, 1) := by decide +kernel
theorem d_Md_recover_60 : decode b_Md_recover 60 = .ok (.iadd, 1) := by decide +kernel
theorem d_Md_recover_61 : decode b_Md_recover 61 = .ok (.aload_n 0, 1) := by decide +kernel
theorem d_Md_recover_62 : decode b_Md_recover 62 = .ok (.getfield 35, 3) := by decide +kernel
theorem d_Md_recover_65 : decode b_Md_recover 65 = .ok (.iload_n 1, 1) := by decide +kernel
theorem d_Md_recover_66 : decode b_Md_recover 66 = .ok (.iaload, 1) := by decide +kernel
theorem d_Md_recover_67 : decode b_Md_recover 67 = .ok (.invokevirtual 86, 3) := by decide +kernel
theorem d_Md_recover_70 : decode b_Md_recover 70 = .ok (.iastore, 1) := by decide +kernel
theorem d_Md_recover_71 : decode b_Md_recover 71 = .ok (.iinc 2 1, 3) := by decide +kernel
theorem d_Md_recover_74 : decode b_Md_recover 74 = .ok (.goto (-36), 3) := by decide +kernel
theorem d_Md_recover_77 : decode b_Md_recover 77 = .ok (.aload_n 0, 1) := by decide +kernel
theorem d_Md_recover_78 : decode b_Md_recover 78 = .ok (.getfield 38, 3) := by decide +kernel
theorem d_Md_recover_81 : decode b_Md_recover 81 = .ok (.iconst 5, 1) := by decide +kernel
theorem d_Md_recover_82 : decode b_Md_recover 82 = .ok (.aload_n 0, 1) := by decide +kernel
theorem d_Md_recover_83 : decode b_Md_recover 83 = .ok (.getfield 38, 3) := by decide +kernel
theorem d_Md_recover_86 : decode b_Md_recover 86 = .ok (.iconst 5, 1) := by decide +kernel
theorem d_Md_recover_87 : decode b_Md_recover 87 = .ok (.iaload, 1) := by decide +kernel
theorem d_Md_recover_88 : decode b_Md_recover 88 = .ok (.iconst 1, 1) := by decide +kernel
theorem d_Md_recover_89 : decode b_Md_recover 89 = .ok (.iadd, 1) := by decide +kernel
theorem d_Md_recover_90 : decode b_Md_recover 90 = .ok (.iastore, 1) := by decide +kernel
theorem d_Md_recover_91 : decode b_Md_recover 91 = .ok (.iconst 1, 1) := by decide +kernel
theorem d_Md_recover_92 : decode b_Md_recover 92 = .ok (.ireturn, 1) := by decide +kernel
theorem d_Md_checkpoint_0 : decode b_Md_checkpoint 0 = .ok (.iload_n 1, 1) := by decide +kernel
theorem d_Md_checkpoint_1 : decode b_Md_checkpoint 1 = .ok (.invokestatic 127, 3) := by decide +kernel
theorem d_Md_checkpoint_4 : decode b_Md_checkpoint 4 = .ok (.ifCond .eq 12, 3) := by decide +kernel
theorem d_Md_checkpoint_7 : decode b_Md_checkpoint 7 = .ok (.aload_n 0, 1) := by decide +kernel
theorem d_Md_checkpoint_8 : decode b_Md_checkpoint 8 = .ok (.getfield 32, 3) := by decide +kernel
theorem d_Md_checkpoint_11 : decode b_Md_checkpoint 11 = .ok (.iload_n 1, 1) := by decide +kernel
theorem d_Md_checkpoint_12 : decode b_Md_checkpoint 12 = .ok (.baload, 1) := by decide +kernel
theorem d_Md_checkpoint_13 : decode b_Md_checkpoint 13 = .ok (.ifCond .eq 5, 3) := by decide +kernel
theorem d_Md_checkpoint_16 : decode b_Md_checkpoint 16 = .ok (.iconst (-1), 1) := by decide +kernel
theorem d_Md_checkpoint_17 : decode b_Md_checkpoint 17 = .ok (.ireturn, 1) := by decide +kernel
theorem d_Md_checkpoint_18 : decode b_Md_checkpoint 18 = .ok (.aload_n 0, 1) := by decide +kernel
theorem d_Md_checkpoint_19 : decode b_Md_checkpoint 19 = .ok (.getfield 35, 3) := by decide +kernel
theorem d_Md_checkpoint_22 : decode b_Md_checkpoint 22 = .ok (.iload_n 1, 1) := by decide +kernel
theorem d_Md_checkpoint_23 : decode b_Md_checkpoint 23 = .ok (.aload_n 0, 1) := by decide +kernel
theorem d_Md_checkpoint_24 : decode b_Md_checkpoint 24 = .ok (.iload_n 1, 1) := by decide +kernel
theorem d_Md_checkpoint_25 : decode b_Md_checkpoint 25 = .ok (.invokevirtual 106, 3) := by decide +kernel
theorem d_Md_checkpoint_28 : decode b_Md_checkpoint 28 = .ok (.iastore, 1) := by decide +kernel
theorem d_Md_checkpoint_29 : decode b_Md_checkpoint 29 = .ok (.aload_n 0, 1) := by decide +kernel
theorem d_Md_checkpoint_30 : decode b_Md_checkpoint 30 = .ok (.getfield 38, 3) := by decide +kernel
theorem d_Md_checkpoint_33 : decode b_Md_checkpoint 33 = .ok (.iconst 4, 1) := by decide +kernel
theorem d_Md_checkpoint_34 : decode b_Md_checkpoint 34 = .ok (.aload_n 0, 1) := by decide +kernel
theorem d_Md_checkpoint_35 : decode b_Md_checkpoint 35 = .ok (.getfield 38, 3) := by decide +kernel
theorem d_Md_checkpoint_38 : decode b_Md_checkpoint 38 = .ok (.iconst 4, 1) := by decide +kernel
theorem d_Md_checkpoint_39 : decode b_Md_checkpoint 39 = .ok (.iaload, 1) := by decide +kernel
theorem d_Md_checkpoint_40 : decode b_Md_checkpoint 40 = .ok (.iconst 1, 1) := by decide +kernel
theorem d_Md_checkpoint_41 : decode b_Md_checkpoint 41 = .ok (.iadd, 1) := by decide +kernel
theorem d_Md_checkpoint_42 : decode b_Md_checkpoint 42 = .ok (.iastore, 1) := by decide +kernel
theorem d_Md_checkpoint_43 : decode b_Md_checkpoint 43 = .ok (.iconst 0, 1) := by decide +kernel
theorem d_Md_checkpoint_44 : decode b_Md_checkpoint 44 = .ok (.istore_n 2, 1) := by decide +kernel
theorem d_Md_checkpoint_45 : decode b_Md_checkpoint 45 = .ok (.iconst 0, 1) := by decide +kernel
theorem d_Md_checkpoint_46 : decode b_Md_checkpoint 46 = .ok (.istore_n 3, 1) := by decide +kernel
theorem d_Md_checkpoint_47 : decode b_Md_checkpoint 47 = .ok (.iload_n 3, 1) := by decide +kernel
theorem d_Md_checkpoint_48 : decode b_Md_checkpoint 48 = .ok (.aload_n 0, 1) := by decide +kernel
theorem d_Md_checkpoint_49 : decode b_Md_checkpoint 49 = .ok (.getfield 50, 3) := by decide +kernel
theorem d_Md_checkpoint_52 : decode b_Md_checkpoint 52 = .ok (.if_icmp .ge 83, 3) := by decide +kernel
theorem d_Md_checkpoint_55 : decode b_Md_checkpoint 55 = .ok (.iconst 3, 1) := by decide +kernel
theorem d_Md_checkpoint_56 : decode b_Md_checkpoint 56 = .ok (.iload_n 3, 1) := by decide +kernel
theorem d_Md_checkpoint_57 : decode b_Md_checkpoint 57 = .ok (.imul, 1) := by decide +kernel
theorem d_Md_checkpoint_58 : decode b_Md_checkpoint 58 = .ok (.iload_n 1, 1) := by decide +kernel
theorem d_Md_checkpoint_59 : decode b_Md_checkpoint 59 = .ok (.iadd, 1) := by decide +kernel
theorem d_Md_checkpoint_60 : decode b_Md_checkpoint 60 = .ok (.istore 4, 2) := by decide +kernel
theorem d_Md_checkpoint_62 : decode b_Md_checkpoint 62 = .ok (.aload_n 0, 1) := by decide +kernel
theorem d_Md_checkpoint_63 : decode b_Md_checkpoint 63 = .ok (.iload 4, 2) := by decide +kernel
theorem d_Md_checkpoint_65 : decode b_Md_checkpoint 65 = .ok (.aload_n 0, 1) := by decide +kernel
theorem d_Md_checkpoint_66 : decode b_Md_checkpoint 66 = .ok (.getfield 35, 3) := by decide +kernel
theorem d_Md_checkpoint_69 : decode b_Md_checkpoint 69 = .ok (.iload_n 1, 1) := by decide +kernel
theorem d_Md_checkpoint_70 : decode b_Md_checkpoint 70 = .ok (.iaload, 1) := by decide +kernel
theorem d_Md_checkpoint_71 : decode b_Md_checkpoint 71 = .ok (.invokevirtual 86, 3) := by decide +kernel
theorem d_Md_checkpoint_74 : decode b_Md_checkpoint 74 = .ok (.istore 5, 2) := by decide +kernel
theorem d_Md_checkpoint_76 : decode b_Md_checkpoint 76 = .ok (.iload_n 2, 1) := by decide +kernel
theorem d_Md_checkpoint_77 : decode b_Md_checkpoint 77 = .ok (.iload 5, 2) := by decide +kernel
theorem d_Md_checkpoint_79 : decode b_Md_checkpoint 79 = .ok (.iadd, 1) := by decide +kernel
theorem d_Md_checkpoint_80 : decode b_Md_checkpoint 80 = .ok (.aload_n 0, 1) := by decide +kernel
theorem d_Md_checkpoint_81 : decode b_Md_checkpoint 81 = .ok (.getfield 16, 3) := by decide +kernel
theorem d_Md_checkpoint_84 : decode b_Md_checkpoint 84 = .ok (.iload 4, 2) := by decide +kernel
theorem d_Md_checkpoint_86 : decode b_Md_checkpoint 86 = .ok (.iaload, 1) := by decide +kernel
theorem d_Md_checkpoint_87 : decode b_Md_checkpoint 87 = .ok (.isub, 1) := by decide +kernel
theorem d_Md_checkpoint_88 : decode b_Md_checkpoint 88 = .ok (.istore_n 2, 1) := by decide +kernel
theorem d_Md_checkpoint_89 : decode b_Md_checkpoint 89 = .ok (.aload_n 0, 1) := by decide +kernel
theorem d_Md_checkpoint_90 : decode b_Md_checkpoint 90 = .ok (.getfield 16, 3) := by decide +kernel
theorem d_Md_checkpoint_93 : decode b_Md_checkpoint 93 = .ok (.iload 4, 2) := by decide +kernel
theorem d_Md_checkpoint_95 : decode b_Md_checkpoint 95 = .ok (.iload 5, 2) := by decide +kernel
theorem d_Md_checkpoint_97 : decode b_Md_checkpoint 97 = .ok (.iastore, 1) := by decide +kernel
theorem d_Md_checkpoint_98 : decode b_Md_checkpoint 98 = .ok (.aload_n 0, 1) := by decide +kernel
theorem d_Md_checkpoint_99 : decode b_Md_checkpoint 99 = .ok (.getfield 19, 3) := by decide +kernel
theorem d_Md_checkpoint_102 : decode b_Md_checkpoint 102 = .ok (.iload 4, 2) := by decide +kernel
theorem d_Md_checkpoint_104 : decode b_Md_checkpoint 104 = .ok (.aload_n 0, 1) := by decide +kernel
theorem d_Md_checkpoint_105 : decode b_Md_checkpoint 105 = .ok (.getfield 19, 3) := by decide +kernel
theorem d_Md_checkpoint_108 : decode b_Md_checkpoint 108 = .ok (.iload 4, 2) := by decide +kernel
theorem d_Md_checkpoint_110 : decode b_Md_checkpoint 110 = .ok (.iaload, 1) := by decide +kernel
theorem d_Md_checkpoint_111 : decode b_Md_checkpoint 111 = .ok (.iload 5, 2) := by decide +kernel
theorem d_Md_checkpoint_113 : decode b_Md_checkpoint 113 = .ok (.if_icmp .ge 8, 3) := by decide +kernel
theorem d_Md_checkpoint_116 : decode b_Md_checkpoint 116 = .ok (.iload 5, 2) := by decide +kernel
theorem d_Md_checkpoint_118 : decode b_Md_checkpoint 118 = .ok (.goto 10, 3) := by decide +kernel
theorem d_Md_checkpoint_121 : decode b_Md_checkpoint 121 = .ok (.aload_n 0, 1) := by decide +kernel
theorem d_Md_checkpoint_122 : decode b_Md_checkpoint 122 = .ok (.getfield 19, 3) := by decide +kernel
theorem d_Md_checkpoint_125 : decode b_Md_checkpoint 125 = .ok (.iload 4, 2) := by decide +kernel
theorem d_Md_checkpoint_127 : decode b_Md_checkpoint 127 = .ok (.iaload, 1) := by decide +kernel
theorem d_Md_checkpoint_128 : decode b_Md_checkpoint 128 = .ok (.iastore, 1) := by decide +kernel
theorem d_Md_checkpoint_129 : decode b_Md_checkpoint 129 = .ok (.iinc 3 1, 3) := by decide +kernel
theorem d_Md_checkpoint_132 : decode b_Md_checkpoint 132 = .ok (.goto (-85), 3) := by decide +kernel
theorem d_Md_checkpoint_135 : decode b_Md_checkpoint 135 = .ok (.iload_n 2, 1) := by decide +kernel
theorem d_Md_checkpoint_136 : decode b_Md_checkpoint 136 = .ok (.ireturn, 1) := by decide +kernel
theorem d_Md_done_0 : decode b_Md_done 0 = .ok (.iload_n 1, 1) := by decide +kernel
theorem d_Md_done_1 : decode b_Md_done 1 = .ok (.invokestatic 127, 3) := by decide +kernel
theorem d_Md_done_4 : decode b_Md_done 4 = .ok (.ifCond .eq 12, 3) := by decide +kernel
theorem d_Md_done_7 : decode b_Md_done 7 = .ok (.aload_n 0, 1) := by decide +kernel
theorem d_Md_done_8 : decode b_Md_done 8 = .ok (.getfield 32, 3) := by decide +kernel
theorem d_Md_done_11 : decode b_Md_done 11 = .ok (.iload_n 1, 1) := by decide +kernel
theorem d_Md_done_12 : decode b_Md_done 12 = .ok (.baload, 1) := by decide +kernel
theorem d_Md_done_13 : decode b_Md_done 13 = .ok (.ifCond .eq 7, 3) := by decide +kernel
theorem d_Md_done_16 : decode b_Md_done 16 = .ok (.iconst (-1), 1) := by decide +kernel
theorem d_Md_done_17 : decode b_Md_done 17 = .ok (.goto 8, 3) := by decide +kernel
theorem d_Md_done_20 : decode b_Md_done 20 = .ok (.aload_n 0, 1) := by decide +kernel
theorem d_Md_done_21 : decode b_Md_done 21 = .ok (.iload_n 1, 1) := by decide +kernel
theorem d_Md_done_22 : decode b_Md_done 22 = .ok (.invokevirtual 106, 3) := by decide +kernel
theorem d_Md_done_25 : decode b_Md_done 25 = .ok (.ireturn, 1) := by decide +kernel
theorem d_Md_early_0 : decode b_Md_early 0 = .ok (.iload_n 1, 1) := by decide +kernel
theorem d_Md_early_1 : decode b_Md_early 1 = .ok (.invokestatic 127, 3) := by decide +kernel
theorem d_Md_early_4 : decode b_Md_early 4 = .ok (.ifCond .eq 12, 3) := by decide +kernel
theorem d_Md_early_7 : decode b_Md_early 7 = .ok (.aload_n 0, 1) := by decide +kernel
theorem d_Md_early_8 : decode b_Md_early 8 = .ok (.getfield 32, 3) := by decide +kernel
theorem d_Md_early_11 : decode b_Md_early 11 = .ok (.iload_n 1, 1) := by decide +kernel
theorem d_Md_early_12 : decode b_Md_early 12 = .ok (.baload, 1) := by decide +kernel
theorem d_Md_early_13 : decode b_Md_early 13 = .ok (.ifCond .eq 5, 3) := by decide +kernel
theorem d_Md_early_16 : decode b_Md_early 16 = .ok (.iconst (-1), 1) := by decide +kernel
theorem d_Md_early_17 : decode b_Md_early 17 = .ok (.ireturn, 1) := by decide +kernel
theorem d_Md_early_18 : decode b_Md_early 18 = .ok (.iconst 0, 1) := by decide +kernel
theorem d_Md_early_19 : decode b_Md_early 19 = .ok (.istore_n 2, 1) := by decide +kernel
theorem d_Md_early_20 : decode b_Md_early 20 = .ok (.iconst 0, 1) := by decide +kernel
theorem d_Md_early_21 : decode b_Md_early 21 = .ok (.istore_n 3, 1) := by decide +kernel
theorem d_Md_early_22 : decode b_Md_early 22 = .ok (.iload_n 3, 1) := by decide +kernel
theorem d_Md_early_23 : decode b_Md_early 23 = .ok (.aload_n 0, 1) := by decide +kernel
theorem d_Md_early_24 : decode b_Md_early 24 = .ok (.getfield 50, 3) := by decide +kernel
theorem d_Md_early_27 : decode b_Md_early 27 = .ok (.if_icmp .ge 71, 3) := by decide +kernel
theorem d_Md_early_30 : decode b_Md_early 30 = .ok (.iconst 3, 1) := by decide +kernel
theorem d_Md_early_31 : decode b_Md_early 31 = .ok (.iload_n 3, 1) := by decide +kernel
theorem d_Md_early_32 : decode b_Md_early 32 = .ok (.imul, 1) := by decide +kernel
theorem d_Md_early_33 : decode b_Md_early 33 = .ok (.iload_n 1, 1) := by decide +kernel
theorem d_Md_early_34 : decode b_Md_early 34 = .ok (.iadd, 1) := by decide +kernel
theorem d_Md_early_35 : decode b_Md_early 35 = .ok (.istore 4, 2) := by decide +kernel
theorem d_Md_early_37 : decode b_Md_early 37 = .ok (.aload_n 0, 1) := by decide +kernel
theorem d_Md_early_38 : decode b_Md_early 38 = .ok (.iload 4, 2) := by decide +kernel
theorem d_Md_early_40 : decode b_Md_early 40 = .ok (.invokevirtual 82, 3) := by decide +kernel
theorem d_Md_early_43 : decode b_Md_early 43 = .ok (.istore 5, 2) := by decide +kernel
theorem d_Md_early_45 : decode b_Md_early 45 = .ok (.iload 5, 2) := by decide +kernel
theorem d_Md_early_47 : decode b_Md_early 47 = .ok (.istore 6, 2) := by decide +kernel
theorem d_Md_early_49 : decode b_Md_early 49 = .ok (.iload 6, 2) := by decide +kernel
theorem d_Md_early_51 : decode b_Md_early 51 = .ok (.aload_n 0, 1) := by decide +kernel
theorem d_Md_early_52 : decode b_Md_early 52 = .ok (.getfield 13, 3) := by decide +kernel
theorem d_Md_early_55 : decode b_Md_early 55 = .ok (.iload 4, 2) := by decide +kernel
theorem d_Md_early_57 : decode b_Md_early 57 = .ok (.iaload, 1) := by decide +kernel
theorem d_Md_early_58 : decode b_Md_early 58 = .ok (.if_icmp .ge 34, 3) := by decide +kernel
theorem d_Md_early_61 : decode b_Md_early 61 = .ok (.aload_n 0, 1) := by decide +kernel
theorem d_Md_early_62 : decode b_Md_early 62 = .ok (.getfield 25, 3) := by decide +kernel
theorem d_Md_early_65 : decode b_Md_early 65 = .ok (.sipush 512, 3) := by decide +kernel
theorem d_Md_early_68 : decode b_Md_early 68 = .ok (.iload 4, 2) := by decide +kernel
theorem d_Md_early_70 : decode b_Md_early 70 = .ok (.imul, 1) := by decide +kernel
theorem d_Md_early_71 : decode b_Md_early 71 = .ok (.iload 6, 2) := by decide +kernel
theorem d_Md_early_73 : decode b_Md_early 73 = .ok (.iadd, 1) := by decide +kernel
theorem d_Md_early_74 : decode b_Md_early 74 = .ok (.baload, 1) := by decide +kernel
theorem d_Md_early_75 : decode b_Md_early 75 = .ok (.ifCond .eq 9, 3) := by decide +kernel
theorem d_Md_early_78 : decode b_Md_early 78 = .ok (.iload_n 2, 1) := by decide +kernel
theorem d_Md_early_79 : decode b_Md_early 79 = .ok (.iconst 1, 1) := by decide +kernel
theorem d_Md_early_80 : decode b_Md_early 80 = .ok (.iadd, 1) := by decide +kernel
theorem d_Md_early_81 : decode b_Md_early 81 = .ok (.goto 4, 3) := by decide +kernel
theorem d_Md_early_84 : decode b_Md_early 84 = .ok (.iload_n 2, 1) := by decide +kernel
theorem d_Md_early_85 : decode b_Md_early 85 = .ok (.istore_n 2, 1) := by decide +kernel
theorem d_Md_early_86 : decode b_Md_early 86 = .ok (.iinc 6 1, 3) := by decide +kernel
theorem d_Md_early_89 : decode b_Md_early 89 = .ok (.goto (-40), 3) := by decide +kernel
theorem d_Md_early_92 : decode b_Md_early 92 = .ok (.iinc 3 1, 3) := by decide +kernel
theorem d_Md_early_95 : decode b_Md_early 95 = .ok (.goto (-73), 3) := by decide +kernel
theorem d_Md_early_98 : decode b_Md_early 98 = .ok (.iload_n 2, 1) := by decide +kernel
theorem d_Md_early_99 : decode b_Md_early 99 = .ok (.ireturn, 1) := by decide +kernel
theorem d_Md_kept_0 : decode b_Md_kept 0 = .ok (.aload_n 0, 1) := by decide +kernel
theorem d_Md_kept_1 : decode b_Md_kept 1 = .ok (.iload_n 1, 1) := by decide +kernel
theorem d_Md_kept_2 : decode b_Md_kept 2 = .ok (.invokevirtual 70, 3) := by decide +kernel
theorem d_Md_kept_5 : decode b_Md_kept 5 = .ok (.ifCond .eq 34, 3) := by decide +kernel
theorem d_Md_kept_8 : decode b_Md_kept 8 = .ok (.iload_n 2, 1) := by decide +kernel
theorem d_Md_kept_9 : decode b_Md_kept 9 = .ok (.invokestatic 127, 3) := by decide +kernel
theorem d_Md_kept_12 : decode b_Md_kept 12 = .ok (.ifCond .eq 27, 3) := by decide +kernel
theorem d_Md_kept_15 : decode b_Md_kept 15 = .ok (.aload_n 0, 1) := by decide +kernel
theorem d_Md_kept_16 : decode b_Md_kept 16 = .ok (.getfield 13, 3) := by decide +kernel
theorem d_Md_kept_19 : decode b_Md_kept 19 = .ok (.iconst 3, 1) := by decide +kernel
theorem d_Md_kept_20 : decode b_Md_kept 20 = .ok (.iload_n 1, 1) := by decide +kernel
theorem d_Md_kept_21 : decode b_Md_kept 21 = .ok (.imul, 1) := by decide +kernel
theorem d_Md_kept_22 : decode b_Md_kept 22 = .ok (.iload_n 2, 1) := by decide +kernel
theorem d_Md_kept_23 : decode b_Md_kept 23 = .ok (.iadd, 1) := by decide +kernel
theorem d_Md_kept_24 : decode b_Md_kept 24 = .ok (.iaload, 1) := by decide +kernel
theorem d_Md_kept_25 : decode b_Md_kept 25 = .ok (.aload_n 0, 1) := by decide +kernel
theorem d_Md_kept_26 : decode b_Md_kept 26 = .ok (.getfield 16, 3) := by decide +kernel
theorem d_Md_kept_29 : decode b_Md_kept 29 = .ok (.iconst 3, 1) := by decide +kernel
theorem d_Md_kept_30 : decode b_Md_kept 30 = .ok (.iload_n 1, 1) := by decide +kernel
theorem d_Md_kept_31 : decode b_Md_kept 31 = .ok (.imul, 1) := by decide +kernel
theorem d_Md_kept_32 : decode b_Md_kept 32 = .ok (.iload_n 2, 1) := by decide +kernel
theorem d_Md_kept_33 : decode b_Md_kept 33 = .ok (.iadd, 1) := by decide +kernel
theorem d_Md_kept_34 : decode b_Md_kept 34 = .ok (.iaload, 1) := by decide +kernel
theorem d_Md_kept_35 : decode b_Md_kept 35 = .ok (.isub, 1) := by decide +kernel
theorem d_Md_kept_36 : decode b_Md_kept 36 = .ok (.goto 4, 3) := by decide +kernel
theorem d_Md_kept_39 : decode b_Md_kept 39 = .ok (.iconst (-1), 1) := by decide +kernel
theorem d_Md_kept_40 : decode b_Md_kept 40 = .ok (.ireturn, 1) := by decide +kernel
theorem d_Md_unconfirmed_0 : decode b_Md_unconfirmed 0 = .ok (.aload_n 0, 1) := by decide +kernel
theorem d_Md_unconfirmed_1 : decode b_Md_unconfirmed 1 = .ok (.iload_n 1, 1) := by decide +kernel
theorem d_Md_unconfirmed_2 : decode b_Md_unconfirmed 2 = .ok (.invokevirtual 70, 3) := by decide +kernel
theorem d_Md_unconfirmed_5 : decode b_Md_unconfirmed 5 = .ok (.ifCond .eq 34, 3) := by decide +kernel
theorem d_Md_unconfirmed_8 : decode b_Md_unconfirmed 8 = .ok (.iload_n 2, 1) := by decide +kernel
theorem d_Md_unconfirmed_9 : decode b_Md_unconfirmed 9 = .ok (.invokestatic 127, 3) := by decide +kernel
theorem d_Md_unconfirmed_12 : decode b_Md_unconfirmed 12 = .ok (.ifCond .eq 27, 3) := by decide +kernel
theorem d_Md_unconfirmed_15 : decode b_Md_unconfirmed 15 = .ok (.aload_n 0, 1) := by decide +kernel
theorem d_Md_unconfirmed_16 : decode b_Md_unconfirmed 16 = .ok (.getfield 13, 3) := by decide +kernel
theorem d_Md_unconfirmed_19 : decode b_Md_unconfirmed 19 = .ok (.iconst 3, 1) := by decide +kernel
theorem d_Md_unconfirmed_20 : decode b_Md_unconfirmed 20 = .ok (.iload_n 1, 1) := by decide +kernel
theorem d_Md_unconfirmed_21 : decode b_Md_unconfirmed 21 = .ok (.imul, 1) := by decide +kernel
theorem d_Md_unconfirmed_22 : decode b_Md_unconfirmed 22 = .ok (.iload_n 2, 1) := by decide +kernel
theorem d_Md_unconfirmed_23 : decode b_Md_unconfirmed 23 = .ok (.iadd, 1) := by decide +kernel
theorem d_Md_unconfirmed_24 : decode b_Md_unconfirmed 24 = .ok (.iaload, 1) := by decide +kernel
theorem d_Md_unconfirmed_25 : decode b_Md_unconfirmed 25 = .ok (.aload_n 0, 1) := by decide +kernel
theorem d_Md_unconfirmed_26 : decode b_Md_unconfirmed 26 = .ok (.getfield 19, 3) := by decide +kernel
theorem d_Md_unconfirmed_29 : decode b_Md_unconfirmed 29 = .ok (.iconst 3, 1) := by decide +kernel
theorem d_Md_unconfirmed_30 : decode b_Md_unconfirmed 30 = .ok (.iload_n 1, 1) := by decide +kernel
theorem d_Md_unconfirmed_31 : decode b_Md_unconfirmed 31 = .ok (.imul, 1) := by decide +kernel
theorem d_Md_unconfirmed_32 : decode b_Md_unconfirmed 32 = .ok (.iload_n 2, 1) := by decide +kernel
theorem d_Md_unconfirmed_33 : decode b_Md_unconfirmed 33 = .ok (.iadd, 1) := by decide +kernel
theorem d_Md_unconfirmed_34 : decode b_Md_unconfirmed 34 = .ok (.iaload, 1) := by decide +kernel
theorem d_Md_unconfirmed_35 : decode b_Md_unconfirmed 35 = .ok (.isub, 1) := by decide +kernel
theorem d_Md_unconfirmed_36 : decode b_Md_unconfirmed 36 = .ok (.goto 4, 3) := by decide +kernel
theorem d_Md_unconfirmed_39 : decode b_Md_unconfirmed 39 = .ok (.iconst (-1), 1) := by decide +kernel
theorem d_Md_unconfirmed_40 : decode b_Md_unconfirmed 40 = .ok (.ireturn, 1) := by decide +kernel
theorem d_Md_packets_0 : decode b_Md_packets 0 = .ok (.aload_n 0, 1) := by decide +kernel
theorem d_Md_packets_1 : decode b_Md_packets 1 = .ok (.getfield 60, 3) := by decide +kernel
theorem d_Md_packets_4 : decode b_Md_packets 4 = .ok (.ireturn, 1) := by decide +kernel
theorem d_Md_packet_0 : decode b_Md_packet 0 = .ok (.iload_n 1, 1) := by decide +kernel
theorem d_Md_packet_1 : decode b_Md_packet 1 = .ok (.ifCond .lt 11, 3) := by decide +kernel
theorem d_Md_packet_4 : decode b_Md_packet 4 = .ok (.iload_n 1, 1) := by decide +kernel
theorem d_Md_packet_5 : decode b_Md_packet 5 = .ok (.aload_n 0, 1) := by decide +kernel
theorem d_Md_packet_6 : decode b_Md_packet 6 = .ok (.getfield 60, 3) := by decide +kernel
theorem d_Md_packet_9 : decode b_Md_packet 9 = .ok (.if_icmp .lt 5, 3) := by decide +kernel
theorem d_Md_packet_12 : decode b_Md_packet 12 = .ok (.iconst (-1), 1) := by decide +kernel
theorem d_Md_packet_13 : decode b_Md_packet 13 = .ok (.ireturn, 1) := by decide +kernel
theorem d_Md_packet_14 : decode b_Md_packet 14 = .ok (.aload_n 0, 1) := by decide +kernel
theorem d_Md_packet_15 : decode b_Md_packet 15 = .ok (.getfield 41, 3) := by decide +kernel
theorem d_Md_packet_18 : decode b_Md_packet 18 = .ok (.iload_n 1, 1) := by decide +kernel
theorem d_Md_packet_19 : decode b_Md_packet 19 = .ok (.baload, 1) := by decide +kernel
theorem d_Md_packet_20 : decode b_Md_packet 20 = .ok (.ifCond .eq 7, 3) := by decide +kernel
theorem d_Md_packet_23 : decode b_Md_packet 23 = .ok (.iconst 1, 1) := by decide +kernel
theorem d_Md_packet_24 : decode b_Md_packet 24 = .ok (.goto 4, 3) := by decide +kernel
theorem d_Md_packet_27 : decode b_Md_packet 27 = .ok (.iconst 0, 1) := by decide +kernel
theorem d_Md_packet_28 : decode b_Md_packet 28 = .ok (.iconst 2, 1) := by decide +kernel
theorem d_Md_packet_29 : decode b_Md_packet 29 = .ok (.aload_n 0, 1) := by decide +kernel
theorem d_Md_packet_30 : decode b_Md_packet 30 = .ok (.getfield 44, 3) := by decide +kernel
theorem d_Md_packet_33 : decode b_Md_packet 33 = .ok (.iload_n 1, 1) := by decide +kernel
theorem d_Md_packet_34 : decode b_Md_packet 34 = .ok (.iaload, 1) := by decide +kernel
theorem d_Md_packet_35 : decode b_Md_packet 35 = .ok (.iconst 3, 1) := by decide +kernel
theorem d_Md_packet_36 : decode b_Md_packet 36 = .ok (.idiv, 1) := by decide +kernel
theorem d_Md_packet_37 : decode b_Md_packet 37 = .ok (.imul, 1) := by decide +kernel
theorem d_Md_packet_38 : decode b_Md_packet 38 = .ok (.iadd, 1) := by decide +kernel
theorem d_Md_packet_39 : decode b_Md_packet 39 = .ok (.bipush 8, 2) := by decide +kernel
theorem d_Md_packet_41 : decode b_Md_packet 41 = .ok (.aload_n 0, 1) := by decide +kernel
theorem d_Md_packet_42 : decode b_Md_packet 42 = .ok (.getfield 44, 3) := by decide +kernel
theorem d_Md_packet_45 : decode b_Md_packet 45 = .ok (.iload_n 1, 1) := by decide +kernel
theorem d_Md_packet_46 : decode b_Md_packet 46 = .ok (.iaload, 1) := by decide +kernel
theorem d_Md_packet_47 : decode b_Md_packet 47 = .ok (.iconst 3, 1) := by decide +kernel
theorem d_Md_packet_48 : decode b_Md_packet 48 = .ok (.irem, 1) := by decide +kernel
theorem d_Md_packet_49 : decode b_Md_packet 49 = .ok (.imul, 1) := by decide +kernel
theorem d_Md_packet_50 : decode b_Md_packet 50 = .ok (.iadd, 1) := by decide +kernel
theorem d_Md_packet_51 : decode b_Md_packet 51 = .ok (.bipush 32, 2) := by decide +kernel
theorem d_Md_packet_53 : decode b_Md_packet 53 = .ok (.aload_n 0, 1) := by decide +kernel
theorem d_Md_packet_54 : decode b_Md_packet 54 = .ok (.getfield 47, 3) := by decide +kernel
theorem d_Md_packet_57 : decode b_Md_packet 57 = .ok (.iload_n 1, 1) := by decide +kernel
theorem d_Md_packet_58 : decode b_Md_packet 58 = .ok (.iaload, 1) := by decide +kernel
theorem d_Md_packet_59 : decode b_Md_packet 59 = .ok (.imul, 1) := by decide +kernel
theorem d_Md_packet_60 : decode b_Md_packet 60 = .ok (.iadd, 1) := by decide +kernel
theorem d_Md_packet_61 : decode b_Md_packet 61 = .ok (.ireturn, 1) := by decide +kernel
