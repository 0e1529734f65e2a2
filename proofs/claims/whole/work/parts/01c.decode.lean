theorem d_Lk_init_0 : decode b_Lk_init 0 = .ok (.aload_n 0, 1) := by decide +kernel
theorem d_Lk_init_1 : decode b_Lk_init 1 = .ok (.invokespecial 3, 3) := by decide +kernel
theorem d_Lk_init_4 : decode b_Lk_init 4 = .ok (.aload_n 0, 1) := by decide +kernel
theorem d_Lk_init_5 : decode b_Lk_init 5 = .ok (.bipush 32, 2) := by decide +kernel
theorem d_Lk_init_7 : decode b_Lk_init 7 = .ok (.newarray .int, 2) := by decide +kernel
theorem d_Lk_init_9 : decode b_Lk_init 9 = .ok (.putfield 11, 3) := by decide +kernel
theorem d_Lk_init_12 : decode b_Lk_init 12 = .ok (.aload_n 0, 1) := by decide +kernel
theorem d_Lk_init_13 : decode b_Lk_init 13 = .ok (.bipush 32, 2) := by decide +kernel
theorem d_Lk_init_15 : decode b_Lk_init 15 = .ok (.newarray .int, 2) := by decide +kernel
theorem d_Lk_init_17 : decode b_Lk_init 17 = .ok (.putfield 15, 3) := by decide +kernel
theorem d_Lk_init_20 : decode b_Lk_init 20 = .ok (.aload_n 0, 1) := by decide +kernel
theorem d_Lk_init_21 : decode b_Lk_init 21 = .ok (.bipush 32, 2) := by decide +kernel
theorem d_Lk_init_23 : decode b_Lk_init 23 = .ok (.newarray .int, 2) := by decide +kernel
theorem d_Lk_init_25 : decode b_Lk_init 25 = .ok (.putfield 18, 3) := by decide +kernel
theorem d_Lk_init_28 : decode b_Lk_init 28 = .ok (.aload_n 0, 1) := by decide +kernel
theorem d_Lk_init_29 : decode b_Lk_init 29 = .ok (.bipush 32, 2) := by decide +kernel
theorem d_Lk_init_31 : decode b_Lk_init 31 = .ok (.newarray .boolean, 2) := by decide +kernel
theorem d_Lk_init_33 : decode b_Lk_init 33 = .ok (.putfield 21, 3) := by decide +kernel
theorem d_Lk_init_36 : decode b_Lk_init 36 = .ok (.aload_n 0, 1) := by decide +kernel
theorem d_Lk_init_37 : decode b_Lk_init 37 = .ok (.iload_n 1, 1) := by decide +kernel
theorem d_Lk_init_38 : decode b_Lk_init 38 = .ok (.putfield 25, 3) := by decide +kernel
theorem d_Lk_init_41 : decode b_Lk_init 41 = .ok (.aload_n 0, 1) := by decide +kernel
theorem d_Lk_init_42 : decode b_Lk_init 42 = .ok (.iload_n 2, 1) := by decide +kernel
theorem d_Lk_init_43 : decode b_Lk_init 43 = .ok (.putfield 29, 3) := by decide +kernel
theorem d_Lk_init_46 : decode b_Lk_init 46 = .ok (.return_, 1) := by decide +kernel
theorem d_Lk_slotOf_0 : decode b_Lk_slotOf 0 = .ok (.iload_n 0, 1) := by decide +kernel
theorem d_Lk_slotOf_1 : decode b_Lk_slotOf 1 = .ok (.bipush 31, 2) := by decide +kernel
theorem d_Lk_slotOf_3 : decode b_Lk_slotOf 3 = .ok (.iand, 1) := by decide +kernel
theorem d_Lk_slotOf_4 : decode b_Lk_slotOf 4 = .ok (.ireturn, 1) := by decide +kernel
theorem d_Lk_keptNumber_0 : decode b_Lk_keptNumber 0 = .ok (.aload_n 0, 1) := by decide +kernel
theorem d_Lk_keptNumber_1 : decode b_Lk_keptNumber 1 = .ok (.getfield 32, 3) := by decide +kernel
theorem d_Lk_keptNumber_4 : decode b_Lk_keptNumber 4 = .ok (.aload_n 0, 1) := by decide +kernel
theorem d_Lk_keptNumber_5 : decode b_Lk_keptNumber 5 = .ok (.getfield 35, 3) := by decide +kernel
theorem d_Lk_keptNumber_8 : decode b_Lk_keptNumber 8 = .ok (.isub, 1) := by decide +kernel
theorem d_Lk_keptNumber_9 : decode b_Lk_keptNumber 9 = .ok (.ireturn, 1) := by decide +kernel
theorem d_Lk_unconfirmedNumber_0 : decode b_Lk_unconfirmedNumber 0 = .ok (.aload_n 0, 1) := by decide +kernel
theorem d_Lk_unconfirmedNumber_1 : decode b_Lk_unconfirmedNumber 1 = .ok (.getfield 32, 3) := by decide +kernel
theorem d_Lk_unconfirmedNumber_4 : decode b_Lk_unconfirmedNumber 4 = .ok (.aload_n 0, 1) := by decide +kernel
theorem d_Lk_unconfirmedNumber_5 : decode b_Lk_unconfirmedNumber 5 = .ok (.getfield 38, 3) := by decide +kernel
theorem d_Lk_unconfirmedNumber_8 : decode b_Lk_unconfirmedNumber 8 = .ok (.isub, 1) := by decide +kernel
theorem d_Lk_unconfirmedNumber_9 : decode b_Lk_unconfirmedNumber 9 = .ok (.ireturn, 1) := by decide +kernel
theorem d_Lk_append_0 : decode b_Lk_append 0 = .ok (.aload_n 0, 1) := by decide +kernel
theorem d_Lk_append_1 : decode b_Lk_append 1 = .ok (.getfield 32, 3) := by decide +kernel
theorem d_Lk_append_4 : decode b_Lk_append 4 = .ok (.istore_n 3, 1) := by decide +kernel
theorem d_Lk_append_5 : decode b_Lk_append 5 = .ok (.iload_n 3, 1) := by decide +kernel
theorem d_Lk_append_6 : decode b_Lk_append 6 = .ok (.invokestatic 41, 3) := by decide +kernel
theorem d_Lk_append_9 : decode b_Lk_append 9 = .ok (.istore 4, 2) := by decide +kernel
theorem d_Lk_append_11 : decode b_Lk_append 11 = .ok (.aload_n 0, 1) := by decide +kernel
theorem d_Lk_append_12 : decode b_Lk_append 12 = .ok (.getfield 11, 3) := by decide +kernel
theorem d_Lk_append_15 : decode b_Lk_append 15 = .ok (.iload 4, 2) := by decide +kernel
theorem d_Lk_append_17 : decode b_Lk_append 17 = .ok (.iload_n 1, 1) := by decide +kernel
theorem d_Lk_append_18 : decode b_Lk_append 18 = .ok (.iastore, 1) := by decide +kernel
theorem d_Lk_append_19 : decode b_Lk_append 19 = .ok (.aload_n 0, 1) := by decide +kernel
theorem d_Lk_append_20 : decode b_Lk_append 20 = .ok (.getfield 15, 3) := by decide +kernel
theorem d_Lk_append_23 : decode b_Lk_append 23 = .ok (.iload 4, 2) := by decide +kernel
theorem d_Lk_append_25 : decode b_Lk_append 25 = .ok (.iload_n 2, 1) := by decide +kernel
theorem d_Lk_append_26 : decode b_Lk_append 26 = .ok (.iastore, 1) := by decide +kernel
theorem d_Lk_append_27 : decode b_Lk_append 27 = .ok (.aload_n 0, 1) := by decide +kernel
theorem d_Lk_append_28 : decode b_Lk_append 28 = .ok (.getfield 21, 3) := by decide +kernel
theorem d_Lk_append_31 : decode b_Lk_append 31 = .ok (.iload 4, 2) := by decide +kernel
theorem d_Lk_append_33 : decode b_Lk_append 33 = .ok (.iconst 0, 1) := by decide +kernel
theorem d_Lk_append_34 : decode b_Lk_append 34 = .ok (.bastore, 1) := by decide +kernel
theorem d_Lk_append_35 : decode b_Lk_append 35 = .ok (.aload_n 0, 1) := by decide +kernel
theorem d_Lk_append_36 : decode b_Lk_append 36 = .ok (.dup, 1) := by decide +kernel
theorem d_Lk_append_37 : decode b_Lk_append 37 = .ok (.getfield 32, 3) := by decide +kernel
theorem d_Lk_append_40 : decode b_Lk_append 40 = .ok (.iconst 1, 1) := by decide +kernel
theorem d_Lk_append_41 : decode b_Lk_append 41 = .ok (.iadd, 1) := by decide +kernel
theorem d_Lk_append_42 : decode b_Lk_append 42 = .ok (.putfield 32, 3) := by decide +kernel
theorem d_Lk_append_45 : decode b_Lk_append 45 = .ok (.iload_n 3, 1) := by decide +kernel
theorem d_Lk_append_46 : decode b_Lk_append 46 = .ok (.ireturn, 1) := by decide +kernel
theorem d_Lk_noteSending_0 : decode b_Lk_noteSending 0 = .ok (.aload_n 0, 1) := by decide +kernel
theorem d_Lk_noteSending_1 : decode b_Lk_noteSending 1 = .ok (.getfield 18, 3) := by decide +kernel
theorem d_Lk_noteSending_4 : decode b_Lk_noteSending 4 = .ok (.iload_n 1, 1) := by decide +kernel
theorem d_Lk_noteSending_5 : decode b_Lk_noteSending 5 = .ok (.invokestatic 41, 3) := by decide +kernel
theorem d_Lk_noteSending_8 : decode b_Lk_noteSending 8 = .ok (.iload_n 2, 1) := by decide +kernel
theorem d_Lk_noteSending_9 : decode b_Lk_noteSending 9 = .ok (.iastore, 1) := by decide +kernel
theorem d_Lk_noteSending_10 : decode b_Lk_noteSending 10 = .ok (.return_, 1) := by decide +kernel
theorem d_Lk_isDueAgain_0 : decode b_Lk_isDueAgain 0 = .ok (.aload_n 0, 1) := by decide +kernel
theorem d_Lk_isDueAgain_1 : decode b_Lk_isDueAgain 1 = .ok (.getfield 38, 3) := by decide +kernel
theorem d_Lk_isDueAgain_4 : decode b_Lk_isDueAgain 4 = .ok (.aload_n 0, 1) := by decide +kernel
theorem d_Lk_isDueAgain_5 : decode b_Lk_isDueAgain 5 = .ok (.getfield 32, 3) := by decide +kernel
theorem d_Lk_isDueAgain_8 : decode b_Lk_isDueAgain 8 = .ok (.if_icmp .ge 25, 3) := by decide +kernel
theorem d_Lk_isDueAgain_11 : decode b_Lk_isDueAgain 11 = .ok (.iload_n 1, 1) := by decide +kernel
theorem d_Lk_isDueAgain_12 : decode b_Lk_isDueAgain 12 = .ok (.aload_n 0, 1) := by decide +kernel
theorem d_Lk_isDueAgain_13 : decode b_Lk_isDueAgain 13 = .ok (.getfield 18, 3) := by decide +kernel
theorem d_Lk_isDueAgain_16 : decode b_Lk_isDueAgain 16 = .ok (.aload_n 0, 1) := by decide +kernel
theorem d_Lk_isDueAgain_17 : decode b_Lk_isDueAgain 17 = .ok (.getfield 38, 3) := by decide +kernel
theorem d_Lk_isDueAgain_20 : decode b_Lk_isDueAgain 20 = .ok (.invokestatic 41, 3) := by decide +kernel
theorem d_Lk_isDueAgain_23 : decode b_Lk_isDueAgain 23 = .ok (.iaload, 1) := by decide +kernel
theorem d_Lk_isDueAgain_24 : decode b_Lk_isDueAgain 24 = .ok (.isub, 1) := by decide +kernel
theorem d_Lk_isDueAgain_25 : decode b_Lk_isDueAgain 25 = .ok (.iconst 3, 1) := by decide +kernel
theorem d_Lk_isDueAgain_26 : decode b_Lk_isDueAgain 26 = .ok (.if_icmp .lt 7, 3) := by decide +kernel
theorem d_Lk_isDueAgain_29 : decode b_Lk_isDueAgain 29 = .ok (.iconst 1, 1) := by decide +kernel
theorem d_Lk_isDueAgain_30 : decode b_Lk_isDueAgain 30 = .ok (.goto 4, 3) := by decide +kernel
theorem d_Lk_isDueAgain_33 : decode b_Lk_isDueAgain 33 = .ok (.iconst 0, 1) := by decide +kernel
theorem d_Lk_isDueAgain_34 : decode b_Lk_isDueAgain 34 = .ok (.ireturn, 1) := by decide +kernel
theorem d_Lk_confirm_0 : decode b_Lk_confirm 0 = .ok (.iload_n 1, 1) := by decide +kernel
theorem d_Lk_confirm_1 : decode b_Lk_confirm 1 = .ok (.aload_n 0, 1) := by decide +kernel
theorem d_Lk_confirm_2 : decode b_Lk_confirm 2 = .ok (.getfield 38, 3) := by decide +kernel
theorem d_Lk_confirm_5 : decode b_Lk_confirm 5 = .ok (.if_icmp .gt 5, 3) := by decide +kernel
theorem d_Lk_confirm_8 : decode b_Lk_confirm 8 = .ok (.iconst 0, 1) := by decide +kernel
theorem d_Lk_confirm_9 : decode b_Lk_confirm 9 = .ok (.ireturn, 1) := by decide +kernel
theorem d_Lk_confirm_10 : decode b_Lk_confirm 10 = .ok (.aload_n 0, 1) := by decide +kernel
theorem d_Lk_confirm_11 : decode b_Lk_confirm 11 = .ok (.iload_n 1, 1) := by decide +kernel
theorem d_Lk_confirm_12 : decode b_Lk_confirm 12 = .ok (.putfield 38, 3) := by decide +kernel
theorem d_Lk_confirm_15 : decode b_Lk_confirm 15 = .ok (.iconst 1, 1) := by decide +kernel
theorem d_Lk_confirm_16 : decode b_Lk_confirm 16 = .ok (.ireturn, 1) := by decide +kernel
theorem d_Lk_hasTaken_0 : decode b_Lk_hasTaken 0 = .ok (.iload_n 1, 1) := by decide +kernel
theorem d_Lk_hasTaken_1 : decode b_Lk_hasTaken 1 = .ok (.aload_n 0, 1) := by decide +kernel
theorem d_Lk_hasTaken_2 : decode b_Lk_hasTaken 2 = .ok (.getfield 45, 3) := by decide +kernel
theorem d_Lk_hasTaken_5 : decode b_Lk_hasTaken 5 = .ok (.if_icmp .lt 15, 3) := by decide +kernel
theorem d_Lk_hasTaken_8 : decode b_Lk_hasTaken 8 = .ok (.aload_n 0, 1) := by decide +kernel
theorem d_Lk_hasTaken_9 : decode b_Lk_hasTaken 9 = .ok (.getfield 21, 3) := by decide +kernel
theorem d_Lk_hasTaken_12 : decode b_Lk_hasTaken 12 = .ok (.iload_n 1, 1) := by decide +kernel
theorem d_Lk_hasTaken_13 : decode b_Lk_hasTaken 13 = .ok (.invokestatic 41, 3) := by decide +kernel
theorem d_Lk_hasTaken_16 : decode b_Lk_hasTaken 16 = .ok (.baload, 1) := by decide +kernel
theorem d_Lk_hasTaken_17 : decode b_Lk_hasTaken 17 = .ok (.ifCond .eq 7, 3) := by decide +kernel
theorem d_Lk_hasTaken_20 : decode b_Lk_hasTaken 20 = .ok (.iconst 1, 1) := by decide +kernel
theorem d_Lk_hasTaken_21 : decode b_Lk_hasTaken 21 = .ok (.goto 4, 3) := by decide +kernel
theorem d_Lk_hasTaken_24 : decode b_Lk_hasTaken 24 = .ok (.iconst 0, 1) := by decide +kernel
theorem d_Lk_hasTaken_25 : decode b_Lk_hasTaken 25 = .ok (.ireturn, 1) := by decide +kernel
theorem d_Lk_take_0 : decode b_Lk_take 0 = .ok (.aload_n 0, 1) := by decide +kernel
theorem d_Lk_take_1 : decode b_Lk_take 1 = .ok (.getfield 21, 3) := by decide +kernel
theorem d_Lk_take_4 : decode b_Lk_take 4 = .ok (.iload_n 1, 1) := by decide +kernel
theorem d_Lk_take_5 : decode b_Lk_take 5 = .ok (.invokestatic 41, 3) := by decide +kernel
theorem d_Lk_take_8 : decode b_Lk_take 8 = .ok (.iconst 1, 1) := by decide +kernel
theorem d_Lk_take_9 : decode b_Lk_take 9 = .ok (.bastore, 1) := by decide +kernel
theorem d_Lk_take_10 : decode b_Lk_take 10 = .ok (.aload_n 0, 1) := by decide +kernel
theorem d_Lk_take_11 : decode b_Lk_take 11 = .ok (.getfield 45, 3) := by decide +kernel
theorem d_Lk_take_14 : decode b_Lk_take 14 = .ok (.aload_n 0, 1) := by decide +kernel
theorem d_Lk_take_15 : decode b_Lk_take 15 = .ok (.getfield 32, 3) := by decide +kernel
theorem d_Lk_take_18 : decode b_Lk_take 18 = .ok (.if_icmp .ge 57, 3) := by decide +kernel
theorem d_Lk_take_21 : decode b_Lk_take 21 = .ok (.aload_n 0, 1) := by decide +kernel
theorem d_Lk_take_22 : decode b_Lk_take 22 = .ok (.getfield 21, 3) := by decide +kernel
theorem d_Lk_take_25 : decode b_Lk_take 25 = .ok (.aload_n 0, 1) := by decide +kernel
theorem d_Lk_take_26 : decode b_Lk_take 26 = .ok (.getfield 45, 3) := by decide +kernel
theorem d_Lk_take_29 : decode b_Lk_take 29 = .ok (.invokestatic 41, 3) := by decide +kernel
theorem d_Lk_take_32 : decode b_Lk_take 32 = .ok (.baload, 1) := by decide +kernel
theorem d_Lk_take_33 : decode b_Lk_take 33 = .ok (.ifCond .eq 42, 3) := by decide +kernel
theorem d_Lk_take_36 : decode b_Lk_take 36 = .ok (.aload_n 0, 1) := by decide +kernel
theorem d_Lk_take_37 : decode b_Lk_take 37 = .ok (.getfield 11, 3) := by decide +kernel
theorem d_Lk_take_40 : decode b_Lk_take 40 = .ok (.aload_n 0, 1) := by decide +kernel
theorem d_Lk_take_41 : decode b_Lk_take 41 = .ok (.getfield 45, 3) := by decide +kernel
theorem d_Lk_take_44 : decode b_Lk_take 44 = .ok (.invokestatic 41, 3) := by decide +kernel
theorem d_Lk_take_47 : decode b_Lk_take 47 = .ok (.iaload, 1) := by decide +kernel
theorem d_Lk_take_48 : decode b_Lk_take 48 = .ok (.iconst (-1), 1) := by decide +kernel
theorem d_Lk_take_49 : decode b_Lk_take 49 = .ok (.if_icmp .ne 13, 3) := by decide +kernel
theorem d_Lk_take_52 : decode b_Lk_take 52 = .ok (.aload_n 0, 1) := by decide +kernel
theorem d_Lk_take_53 : decode b_Lk_take 53 = .ok (.dup, 1) := by decide +kernel
theorem d_Lk_take_54 : decode b_Lk_take 54 = .ok (.getfield 48, 3) := by decide +kernel
theorem d_Lk_take_57 : decode b_Lk_take 57 = .ok (.iconst 1, 1) := by decide +kernel
theorem d_Lk_take_58 : decode b_Lk_take 58 = .ok (.iadd, 1) := by decide +kernel
theorem d_Lk_take_59 : decode b_Lk_take 59 = .ok (.putfield 48, 3) := by decide +kernel
theorem d_Lk_take_62 : decode b_Lk_take 62 = .ok (.aload_n 0, 1) := by decide +kernel
theorem d_Lk_take_63 : decode b_Lk_take 63 = .ok (.dup, 1) := by decide +kernel
theorem d_Lk_take_64 : decode b_Lk_take 64 = .ok (.getfield 45, 3) := by decide +kernel
theorem d_Lk_take_67 : decode b_Lk_take 67 = .ok (.iconst 1, 1) := by decide +kernel
theorem d_Lk_take_68 : decode b_Lk_take 68 = .ok (.iadd, 1) := by decide +kernel
theorem d_Lk_take_69 : decode b_Lk_take 69 = .ok (.putfield 45, 3) := by decide +kernel
theorem d_Lk_take_72 : decode b_Lk_take 72 = .ok (.goto (-62), 3) := by decide +kernel
theorem d_Lk_take_75 : decode b_Lk_take 75 = .ok (.return_, 1) := by decide +kernel
theorem d_Lk_earlyNumber_0 : decode b_Lk_earlyNumber 0 = .ok (.iconst 0, 1) := by decide +kernel
theorem d_Lk_earlyNumber_1 : decode b_Lk_earlyNumber 1 = .ok (.istore_n 1, 1) := by decide +kernel
theorem d_Lk_earlyNumber_2 : decode b_Lk_earlyNumber 2 = .ok (.aload_n 0, 1) := by decide +kernel
theorem d_Lk_earlyNumber_3 : decode b_Lk_earlyNumber 3 = .ok (.getfield 45, 3) := by decide +kernel
theorem d_Lk_earlyNumber_6 : decode b_Lk_earlyNumber 6 = .ok (.istore_n 2, 1) := by decide +kernel
theorem d_Lk_earlyNumber_7 : decode b_Lk_earlyNumber 7 = .ok (.iload_n 2, 1) := by decide +kernel
theorem d_Lk_earlyNumber_8 : decode b_Lk_earlyNumber 8 = .ok (.aload_n 0, 1) := by decide +kernel
theorem d_Lk_earlyNumber_9 : decode b_Lk_earlyNumber 9 = .ok (.getfield 32, 3) := by decide +kernel
theorem d_Lk_earlyNumber_12 : decode b_Lk_earlyNumber 12 = .ok (.if_icmp .ge 24, 3) := by decide +kernel
theorem d_Lk_earlyNumber_15 : decode b_Lk_earlyNumber 15 = .ok (.aload_n 0, 1) := by decide +kernel
theorem d_Lk_earlyNumber_16 : decode b_Lk_earlyNumber 16 = .ok (.getfield 21, 3) := by decide +kernel
theorem d_Lk_earlyNumber_19 : decode b_Lk_earlyNumber 19 = .ok (.iload_n 2, 1) := by decide +kernel
theorem d_Lk_earlyNumber_20 : decode b_Lk_earlyNumber 20 = .ok (.invokestatic 41, 3) := by decide +kernel
theorem d_Lk_earlyNumber_23 : decode b_Lk_earlyNumber 23 = .ok (.baload, 1) := by decide +kernel
theorem d_Lk_earlyNumber_24 : decode b_Lk_earlyNumber 24 = .ok (.ifCond .eq 6, 3) := by decide +kernel
theorem d_Lk_earlyNumber_27 : decode b_Lk_earlyNumber 27 = .ok (.iinc 1 1, 3) := by decide +kernel
theorem d_Lk_earlyNumber_30 : decode b_Lk_earlyNumber 30 = .ok (.iinc 2 1, 3) := by decide +kernel
theorem d_Lk_earlyNumber_33 : decode b_Lk_earlyNumber 33 = .ok (.goto (-26), 3) := by decide +kernel
theorem d_Lk_earlyNumber_36 : decode b_Lk_earlyNumber 36 = .ok (.iload_n 1, 1) := by decide +kernel
theorem d_Lk_earlyNumber_37 : decode b_Lk_earlyNumber 37 = .ok (.ireturn, 1) := by decide +kernel
theorem d_Lk_contribution_0 : decode b_Lk_contribution 0 = .ok (.iconst 0, 1) := by decide +kernel
theorem d_Lk_contribution_1 : decode b_Lk_contribution 1 = .ok (.istore_n 2, 1) := by decide +kernel
theorem d_Lk_contribution_2 : decode b_Lk_contribution 2 = .ok (.aload_n 0, 1) := by decide +kernel
theorem d_Lk_contribution_3 : decode b_Lk_contribution 3 = .ok (.getfield 51, 3) := by decide +kernel
theorem d_Lk_contribution_6 : decode b_Lk_contribution 6 = .ok (.istore_n 3, 1) := by decide +kernel
theorem d_Lk_contribution_7 : decode b_Lk_contribution 7 = .ok (.iload_n 3, 1) := by decide +kernel
theorem d_Lk_contribution_8 : decode b_Lk_contribution 8 = .ok (.aload_n 0, 1) := by decide +kernel
theorem d_Lk_contribution_9 : decode b_Lk_contribution 9 = .ok (.getfield 45, 3) := by decide +kernel
theorem d_Lk_contribution_12 : decode b_Lk_contribution 12 = .ok (.if_icmp .ge 50, 3) := by decide +kernel
theorem d_Lk_contribution_15 : decode b_Lk_contribution 15 = .ok (.aload_n 0, 1) := by decide +kernel
theorem d_Lk_contribution_16 : decode b_Lk_contribution 16 = .ok (.getfield 11, 3) := by decide +kernel
theorem d_Lk_contribution_19 : decode b_Lk_contribution 19 = .ok (.iload_n 3, 1) := by decide +kernel
theorem d_Lk_contribution_20 : decode b_Lk_contribution 20 = .ok (.invokestatic 41, 3) := by decide +kernel
theorem d_Lk_contribution_23 : decode b_Lk_contribution 23 = .ok (.iaload, 1) := by decide +kernel
theorem d_Lk_contribution_24 : decode b_Lk_contribution 24 = .ok (.iconst (-1), 1) := by decide +kernel
theorem d_Lk_contribution_25 : decode b_Lk_contribution 25 = .ok (.if_icmp .eq 37, 3) := by decide +kernel
theorem d_Lk_contribution_28 : decode b_Lk_contribution 28 = .ok (.aload_n 0, 1) := by decide +kernel
theorem d_Lk_contribution_29 : decode b_Lk_contribution 29 = .ok (.getfield 11, 3) := by decide +kernel
theorem d_Lk_contribution_32 : decode b_Lk_contribution 32 = .ok (.iload_n 3, 1) := by decide +kernel
theorem d_Lk_contribution_33 : decode b_Lk_contribution 33 = .ok (.invokestatic 41, 3) := by decide +kernel
theorem d_Lk_contribution_36 : decode b_Lk_contribution 36 = .ok (.iaload, 1) := by decide +kernel
theorem d_Lk_contribution_37 : decode b_Lk_contribution 37 = .ok (.iload_n 1, 1) := by decide +kernel
theorem d_Lk_contribution_38 : decode b_Lk_contribution 38 = .ok (.if_icmp .ne 18, 3) := by decide +kernel
theorem d_Lk_contribution_41 : decode b_Lk_contribution 41 = .ok (.iload_n 2, 1) := by decide +kernel
theorem d_Lk_contribution_42 : decode b_Lk_contribution 42 = .ok (.aload_n 0, 1) := by decide +kernel
theorem d_Lk_contribution_43 : decode b_Lk_contribution 43 = .ok (.getfield 15, 3) := by decide +kernel
theorem d_Lk_contribution_46 : decode b_Lk_contribution 46 = .ok (.iload_n 3, 1) := by decide +kernel
theorem d_Lk_contribution_47 : decode b_Lk_contribution 47 = .ok (.invokestatic 41, 3) := by decide +kernel
theorem d_Lk_contribution_50 : decode b_Lk_contribution 50 = .ok (.iaload, 1) := by decide +kernel
theorem d_Lk_contribution_51 : decode b_Lk_contribution 51 = .ok (.iadd, 1) := by decide +kernel
theorem d_Lk_contribution_52 : decode b_Lk_contribution 52 = .ok (.invokestatic 54, 3) := by decide +kernel
theorem d_Lk_contribution_55 : decode b_Lk_contribution 55 = .ok (.istore_n 2, 1) := by decide +kernel
theorem d_Lk_contribution_56 : decode b_Lk_contribution 56 = .ok (.iinc 3 1, 3) := by decide +kernel
theorem d_Lk_contribution_59 : decode b_Lk_contribution 59 = .ok (.goto (-52), 3) := by decide +kernel
theorem d_Lk_contribution_62 : decode b_Lk_contribution 62 = .ok (.iload_n 2, 1) := by decide +kernel
theorem d_Lk_contribution_63 : decode b_Lk_contribution 63 = .ok (.ireturn, 1) := by decide +kernel
theorem d_Lk_moveBoundaryBehindNextEnd_0 : decode b_Lk_moveBoundaryBehindNextEnd 0 = .ok (.iconst 0, 1) := by decide +kernel
theorem d_Lk_moveBoundaryBehindNextEnd_1 : decode b_Lk_moveBoundaryBehindNextEnd 1 = .ok (.istore_n 1, 1) := by decide +kernel
theorem d_Lk_moveBoundaryBehindNextEnd_2 : decode b_Lk_moveBoundaryBehindNextEnd 2 = .ok (.aload_n 0, 1) := by decide +kernel
theorem d_Lk_moveBoundaryBehindNextEnd_3 : decode b_Lk_moveBoundaryBehindNextEnd 3 = .ok (.getfield 51, 3) := by decide +kernel
theorem d_Lk_moveBoundaryBehindNextEnd_6 : decode b_Lk_moveBoundaryBehindNextEnd 6 = .ok (.aload_n 0, 1) := by decide +kernel
theorem d_Lk_moveBoundaryBehindNextEnd_7 : decode b_Lk_moveBoundaryBehindNextEnd 7 = .ok (.getfield 45, 3) := by decide +kernel
theorem d_Lk_moveBoundaryBehindNextEnd_10 : decode b_Lk_moveBoundaryBehindNextEnd 10 = .ok (.if_icmp .ge 42, 3) := by decide +kernel
theorem d_Lk_moveBoundaryBehindNextEnd_13 : decode b_Lk_moveBoundaryBehindNextEnd 13 = .ok (.iload_n 1, 1) := by decide +kernel
theorem d_Lk_moveBoundaryBehindNextEnd_14 : decode b_Lk_moveBoundaryBehindNextEnd 14 = .ok (.ifCond .ne 38, 3) := by decide +kernel
theorem d_Lk_moveBoundaryBehindNextEnd_17 : decode b_Lk_moveBoundaryBehindNextEnd 17 = .ok (.aload_n 0, 1) := by decide +kernel
theorem d_Lk_moveBoundaryBehindNextEnd_18 : decode b_Lk_moveBoundaryBehindNextEnd 18 = .ok (.getfield 11, 3) := by decide +kernel
theorem d_Lk_moveBoundaryBehindNextEnd_21 : decode b_Lk_moveBoundaryBehindNextEnd 21 = .ok (.aload_n 0, 1) := by decide +kernel
theorem d_Lk_moveBoundaryBehindNextEnd_22 : decode b_Lk_moveBoundaryBehindNextEnd 22 = .ok (.getfield 51, 3) := by decide +kernel
theorem d_Lk_moveBoundaryBehindNextEnd_25 : decode b_Lk_moveBoundaryBehindNextEnd 25 = .ok (.invokestatic 41, 3) := by decide +kernel
theorem d_Lk_moveBoundaryBehindNextEnd_28 : decode b_Lk_moveBoundaryBehindNextEnd 28 = .ok (.iaload, 1) := by decide +kernel
theorem d_Lk_moveBoundaryBehindNextEnd_29 : decode b_Lk_moveBoundaryBehindNextEnd 29 = .ok (.iconst (-1), 1) := by decide +kernel
theorem d_Lk_moveBoundaryBehindNextEnd_30 : decode b_Lk_moveBoundaryBehindNextEnd 30 = .ok (.if_icmp .ne 7, 3) := by decide +kernel
theorem d_Lk_moveBoundaryBehindNextEnd_33 : decode b_Lk_moveBoundaryBehindNextEnd 33 = .ok (.iconst 1, 1) := by decide +kernel
theorem d_Lk_moveBoundaryBehindNextEnd_34 : decode b_Lk_moveBoundaryBehindNextEnd 34 = .ok (.goto 4, 3) := by decide +kernel
theorem d_Lk_moveBoundaryBehindNextEnd_37 : decode b_Lk_moveBoundaryBehindNextEnd 37 = .ok (.iconst 0, 1) := by decide +kernel
theorem d_Lk_moveBoundaryBehindNextEnd_38 : decode b_Lk_moveBoundaryBehindNextEnd 38 = .ok (.istore_n 1, 1) := by decide +kernel
theorem d_Lk_moveBoundaryBehindNextEnd_39 : decode b_Lk_moveBoundaryBehindNextEnd 39 = .ok (.aload_n 0, 1) := by decide +kernel
theorem d_Lk_moveBoundaryBehindNextEnd_40 : decode b_Lk_moveBoundaryBehindNextEnd 40 = .ok (.dup, 1) := by decide +kernel
theorem d_Lk_moveBoundaryBehindNextEnd_41 : decode b_Lk_moveBoundaryBehindNextEnd 41 = .ok (.getfield 51, 3) := by decide +kernel
theorem d_Lk_moveBoundaryBehindNextEnd_44 : decode b_Lk_moveBoundaryBehindNextEnd 44 = .ok (.iconst 1, 1) := by decide +kernel
theorem d_Lk_moveBoundaryBehindNextEnd_45 : decode b_Lk_moveBoundaryBehindNextEnd 45 = .ok (.iadd, 1) := by decide +kernel
theorem d_Lk_moveBoundaryBehindNextEnd_46 : decode b_Lk_moveBoundaryBehindNextEnd 46 = .ok (.putfield 51, 3) := by decide +kernel
theorem d_Lk_moveBoundaryBehindNextEnd_49 : decode b_Lk_moveBoundaryBehindNextEnd 49 = .ok (.goto (-47), 3) := by decide +kernel
theorem d_Lk_moveBoundaryBehindNextEnd_52 : decode b_Lk_moveBoundaryBehindNextEnd 52 = .ok (.return_, 1) := by decide +kernel
theorem d_Lk_keepFromBoundary_0 : decode b_Lk_keepFromBoundary 0 = .ok (.aload_n 0, 1) := by decide +kernel
theorem d_Lk_keepFromBoundary_1 : decode b_Lk_keepFromBoundary 1 = .ok (.getfield 51, 3) := by decide +kernel
theorem d_Lk_keepFromBoundary_4 : decode b_Lk_keepFromBoundary 4 = .ok (.aload_n 0, 1) := by decide +kernel
theorem d_Lk_keepFromBoundary_5 : decode b_Lk_keepFromBoundary 5 = .ok (.getfield 35, 3) := by decide +kernel
theorem d_Lk_keepFromBoundary_8 : decode b_Lk_keepFromBoundary 8 = .ok (.isub, 1) := by decide +kernel
theorem d_Lk_keepFromBoundary_9 : decode b_Lk_keepFromBoundary 9 = .ok (.istore_n 1, 1) := by decide +kernel
theorem d_Lk_keepFromBoundary_10 : decode b_Lk_keepFromBoundary 10 = .ok (.aload_n 0, 1) := by decide +kernel
theorem d_Lk_keepFromBoundary_11 : decode b_Lk_keepFromBoundary 11 = .ok (.aload_n 0, 1) := by decide +kernel
theorem d_Lk_keepFromBoundary_12 : decode b_Lk_keepFromBoundary 12 = .ok (.getfield 51, 3) := by decide +kernel
theorem d_Lk_keepFromBoundary_15 : decode b_Lk_keepFromBoundary 15 = .ok (.putfield 35, 3) := by decide +kernel
theorem d_Lk_keepFromBoundary_18 : decode b_Lk_keepFromBoundary 18 = .ok (.aload_n 0, 1) := by decide +kernel
theorem d_Lk_keepFromBoundary_19 : decode b_Lk_keepFromBoundary 19 = .ok (.aload_n 0, 1) := by decide +kernel
theorem d_Lk_keepFromBoundary_20 : decode b_Lk_keepFromBoundary 20 = .ok (.getfield 38, 3) := by decide +kernel
theorem d_Lk_keepFromBoundary_23 : decode b_Lk_keepFromBoundary 23 = .ok (.aload_n 0, 1) := by decide +kernel
theorem d_Lk_keepFromBoundary_24 : decode b_Lk_keepFromBoundary 24 = .ok (.getfield 51, 3) := by decide +kernel
theorem d_Lk_keepFromBoundary_27 : decode b_Lk_keepFromBoundary 27 = .ok (.invokestatic 57, 3) := by decide +kernel
theorem d_Lk_keepFromBoundary_30 : decode b_Lk_keepFromBoundary 30 = .ok (.putfield 38, 3) := by decide +kernel
theorem d_Lk_keepFromBoundary_33 : decode b_Lk_keepFromBoundary 33 = .ok (.iload_n 1, 1) := by decide +kernel
theorem d_Lk_keepFromBoundary_34 : decode b_Lk_keepFromBoundary 34 = .ok (.ireturn, 1) := by decide +kernel
theorem d_Lk_goBackToStart_0 : decode b_Lk_goBackToStart 0 = .ok (.aload_n 0, 1) := by decide +kernel
theorem d_Lk_goBackToStart_1 : decode b_Lk_goBackToStart 1 = .ok (.aload_n 0, 1) := by decide +kernel
theorem d_Lk_goBackToStart_2 : decode b_Lk_goBackToStart 2 = .ok (.getfield 35, 3) := by decide +kernel
theorem d_Lk_goBackToStart_5 : decode b_Lk_goBackToStart 5 = .ok (.putfield 45, 3) := by decide +kernel
theorem d_Lk_goBackToStart_8 : decode b_Lk_goBackToStart 8 = .ok (.aload_n 0, 1) := by decide +kernel
theorem d_Lk_goBackToStart_9 : decode b_Lk_goBackToStart 9 = .ok (.aload_n 0, 1) := by decide +kernel
theorem d_Lk_goBackToStart_10 : decode b_Lk_goBackToStart 10 = .ok (.getfield 35, 3) := by decide +kernel
theorem d_Lk_goBackToStart_13 : decode b_Lk_goBackToStart 13 = .ok (.putfield 51, 3) := by decide +kernel
theorem d_Lk_goBackToStart_16 : decode b_Lk_goBackToStart 16 = .ok (.aload_n 0, 1) := by decide +kernel
theorem d_Lk_goBackToStart_17 : decode b_Lk_goBackToStart 17 = .ok (.aload_n 0, 1) := by decide +kernel
theorem d_Lk_goBackToStart_18 : decode b_Lk_goBackToStart 18 = .ok (.getfield 35, 3) := by decide +kernel
theorem d_Lk_goBackToStart_21 : decode b_Lk_goBackToStart 21 = .ok (.putfield 38, 3) := by decide +kernel
theorem d_Lk_goBackToStart_24 : decode b_Lk_goBackToStart 24 = .ok (.aload_n 0, 1) := by decide +kernel
theorem d_Lk_goBackToStart_25 : decode b_Lk_goBackToStart 25 = .ok (.iload_n 1, 1) := by decide +kernel
theorem d_Lk_goBackToStart_26 : decode b_Lk_goBackToStart 26 = .ok (.putfield 48, 3) := by decide +kernel
theorem d_Lk_goBackToStart_29 : decode b_Lk_goBackToStart 29 = .ok (.iconst 0, 1) := by decide +kernel
theorem d_Lk_goBackToStart_30 : decode b_Lk_goBackToStart 30 = .ok (.istore_n 2, 1) := by decide +kernel
theorem d_Lk_goBackToStart_31 : decode b_Lk_goBackToStart 31 = .ok (.iload_n 2, 1) := by decide +kernel
theorem d_Lk_goBackToStart_32 : decode b_Lk_goBackToStart 32 = .ok (.bipush 32, 2) := by decide +kernel
theorem d_Lk_goBackToStart_34 : decode b_Lk_goBackToStart 34 = .ok (.if_icmp .ge 16, 3) := by decide +kernel
theorem d_Lk_goBackToStart_37 : decode b_Lk_goBackToStart 37 = .ok (.aload_n 0, 1) := by decide +kernel
theorem d_Lk_goBackToStart_38 : decode b_Lk_goBackToStart 38 = .ok (.getfield 21, 3) := by decide +kernel
theorem d_Lk_goBackToStart_41 : decode b_Lk_goBackToStart 41 = .ok (.iload_n 2, 1) := by decide +kernel
theorem d_Lk_goBackToStart_42 : decode b_Lk_goBackToStart 42 = .ok (.iconst 0, 1) := by decide +kernel
theorem d_Lk_goBackToStart_43 : decode b_Lk_goBackToStart 43 = .ok (.bastore, 1) := by decide +kernel
theorem d_Lk_goBackToStart_44 : decode b_Lk_goBackToStart 44 = .ok (.iinc 2 1, 3) := by decide +kernel
theorem d_Lk_goBackToStart_47 : decode b_Lk_goBackToStart 47 = .ok (.goto (-16), 3) := by decide +kernel
theorem d_Lk_goBackToStart_50 : decode b_Lk_goBackToStart 50 = .ok (.return_, 1) := by decide +kernel
theorem d_Nt_init_0 : decode b_Nt_init 0 = .ok (.aload_n 0, 1) := by decide +kernel
theorem d_Nt_init_1 : decode b_Nt_init 1 = .ok (.invokespecial 3, 3) := by decide +kernel
theorem d_Nt_init_4 : decode b_Nt_init 4 = .ok (.aload_n 0, 1) := by decide +kernel
theorem d_Nt_init_5 : decode b_Nt_init 5 = .ok (.bipush 24, 2) := by decide +kernel
theorem d_Nt_init_7 : decode b_Nt_init 7 = .ok (.newarray .int, 2) := by decide +kernel
theorem d_Nt_init_9 : decode b_Nt_init 9 = .ok (.putfield 9, 3) := by decide +kernel
theorem d_Nt_init_12 : decode b_Nt_init 12 = .ok (.return_, 1) := by decide +kernel
theorem d_Nt_codeOf_0 : decode b_Nt_codeOf 0 = .ok (.iload_n 0, 1) := by decide +kernel
theorem d_Nt_codeOf_1 : decode b_Nt_codeOf 1 = .ok (.iconst 2, 1) := by decide +kernel
theorem d_Nt_codeOf_2 : decode b_Nt_codeOf 2 = .ok (.aload_n 1, 1) := by decide +kernel
theorem d_Nt_codeOf_3 : decode b_Nt_codeOf 3 = .ok (.getfield 15, 3) := by decide +kernel
theorem d_Nt_codeOf_6 : decode b_Nt_codeOf 6 = .ok (.imul, 1) := by decide +kernel
theorem d_Nt_codeOf_7 : decode b_Nt_codeOf 7 = .ok (.iadd, 1) := by decide +kernel
theorem d_Nt_codeOf_8 : decode b_Nt_codeOf 8 = .ok (.bipush 8, 2) := by decide +kernel
theorem d_Nt_codeOf_10 : decode b_Nt_codeOf 10 = .ok (.aload_n 1, 1) := by decide +kernel
theorem d_Nt_codeOf_11 : decode b_Nt_codeOf 11 = .ok (.getfield 21, 3) := by decide +kernel
theorem d_Nt_codeOf_14 : decode b_Nt_codeOf 14 = .ok (.imul, 1) := by decide +kernel
theorem d_Nt_codeOf_15 : decode b_Nt_codeOf 15 = .ok (.iadd, 1) := by decide +kernel
theorem d_Nt_codeOf_16 : decode b_Nt_codeOf 16 = .ok (.bipush 32, 2) := by decide +kernel
theorem d_Nt_codeOf_18 : decode b_Nt_codeOf 18 = .ok (.iload_n 2, 1) := by decide +kernel
theorem d_Nt_codeOf_19 : decode b_Nt_codeOf 19 = .ok (.imul, 1) := by decide +kernel
theorem d_Nt_codeOf_20 : decode b_Nt_codeOf 20 = .ok (.iadd, 1) := by decide +kernel
theorem d_Nt_codeOf_21 : decode b_Nt_codeOf 21 = .ok (.ireturn, 1) := by decide +kernel
theorem d_Nt_kindOf_0 : decode b_Nt_kindOf 0 = .ok (.iload_n 0, 1) := by decide +kernel
theorem d_Nt_kindOf_1 : decode b_Nt_kindOf 1 = .ok (.iconst 1, 1) := by decide +kernel
theorem d_Nt_kindOf_2 : decode b_Nt_kindOf 2 = .ok (.iand, 1) := by decide +kernel
theorem d_Nt_kindOf_3 : decode b_Nt_kindOf 3 = .ok (.ireturn, 1) := by decide +kernel
theorem d_Nt_workerOf_0 : decode b_Nt_workerOf 0 = .ok (.iload_n 0, 1) := by decide +kernel
theorem d_Nt_workerOf_1 : decode b_Nt_workerOf 1 = .ok (.iconst 1, 1) := by decide +kernel
theorem d_Nt_workerOf_2 : decode b_Nt_workerOf 2 = .ok (.ishr, 1) := by decide +kernel
theorem d_Nt_workerOf_3 : decode b_Nt_workerOf 3 = .ok (.iconst 3, 1) := by decide +kernel
theorem d_Nt_workerOf_4 : decode b_Nt_workerOf 4 = .ok (.iand, 1) := by decide +kernel
theorem d_Nt_workerOf_5 : decode b_Nt_workerOf 5 = .ok (.ireturn, 1) := by decide +kernel
theorem d_Nt_shardOf_0 : decode b_Nt_shardOf 0 = .ok (.iload_n 0, 1) := by decide +kernel
theorem d_Nt_shardOf_1 : decode b_Nt_shardOf 1 = .ok (.iconst 3, 1) := by decide +kernel
theorem d_Nt_shardOf_2 : decode b_Nt_shardOf 2 = .ok (.ishr, 1) := by decide +kernel
theorem d_Nt_shardOf_3 : decode b_Nt_shardOf 3 = .ok (.iconst 3, 1) := by decide +kernel
theorem d_Nt_shardOf_4 : decode b_Nt_shardOf 4 = .ok (.iand, 1) := by decide +kernel
theorem d_Nt_shardOf_5 : decode b_Nt_shardOf 5 = .ok (.ireturn, 1) := by decide +kernel
theorem d_Nt_numberOf_0 : decode b_Nt_numberOf 0 = .ok (.iload_n 0, 1) := by decide +kernel
theorem d_Nt_numberOf_1 : decode b_Nt_numberOf 1 = .ok (.iconst 5, 1) := by decide +kernel
theorem d_Nt_numberOf_2 : decode b_Nt_numberOf 2 = .ok (.ishr, 1) := by decide +kernel
theorem d_Nt_numberOf_3 : decode b_Nt_numberOf 3 = .ok (.ireturn, 1) := by decide +kernel
theorem d_Nt_holds_0 : decode b_Nt_holds 0 = .ok (.iload_n 1, 1) := by decide +kernel
theorem d_Nt_holds_1 : decode b_Nt_holds 1 = .ok (.ifCond .lt 15, 3) := by decide +kernel
theorem d_Nt_holds_4 : decode b_Nt_holds 4 = .ok (.iload_n 1, 1) := by decide +kernel
theorem d_Nt_holds_5 : decode b_Nt_holds 5 = .ok (.aload_n 0, 1) := by decide +kernel
theorem d_Nt_holds_6 : decode b_Nt_holds 6 = .ok (.getfield 24, 3) := by decide +kernel
theorem d_Nt_holds_9 : decode b_Nt_holds 9 = .ok (.if_icmp .ge 7, 3) := by decide +kernel
theorem d_Nt_holds_12 : decode b_Nt_holds 12 = .ok (.iconst 1, 1) := by decide +kernel
theorem d_Nt_holds_13 : decode b_Nt_holds 13 = .ok (.goto 4, 3) := by decide +kernel
theorem d_Nt_holds_16 : decode b_Nt_holds 16 = .ok (.iconst 0, 1) := by decide +kernel
theorem d_Nt_holds_17 : decode b_Nt_holds 17 = .ok (.ireturn, 1) := by decide +kernel
theorem d_Nt_isFull_0 : decode b_Nt_isFull 0 = .ok (.aload_n 0, 1) := by decide +kernel
theorem d_Nt_isFull_1 : decode b_Nt_isFull 1 = .ok (.getfield 24, 3) := by decide +kernel
theorem d_Nt_isFull_4 : decode b_Nt_isFull 4 = .ok (.bipush 24, 2) := by decide +kernel
theorem d_Nt_isFull_6 : decode b_Nt_isFull 6 = .ok (.if_icmp .lt 7, 3) := by decide +kernel
theorem d_Nt_isFull_9 : decode b_Nt_isFull 9 = .ok (.iconst 1, 1) := by decide +kernel
theorem d_Nt_isFull_10 : decode b_Nt_isFull 10 = .ok (.goto 4, 3) := by decide +kernel
theorem d_Nt_isFull_13 : decode b_Nt_isFull 13 = .ok (.iconst 0, 1) := by decide +kernel
theorem d_Nt_isFull_14 : decode b_Nt_isFull 14 = .ok (.ireturn, 1) := by decide +kernel
theorem d_Nt_send_0 : decode b_Nt_send 0 = .ok (.aload_n 0, 1) := by decide +kernel
theorem d_Nt_send_1 : decode b_Nt_send 1 = .ok (.dup, 1) := by decide +kernel
theorem d_Nt_send_2 : decode b_Nt_send 2 = .ok (.getfield 27, 3) := by decide +kernel
theorem d_Nt_send_5 : decode b_Nt_send 5 = .ok (.iconst 1, 1) := by decide +kernel
theorem d_Nt_send_6 : decode b_Nt_send 6 = .ok (.iadd, 1) := by decide +kernel
theorem d_Nt_send_7 : decode b_Nt_send 7 = .ok (.putfield 27, 3) := by decide +kernel
theorem d_Nt_send_10 : decode b_Nt_send 10 = .ok (.aload_n 0, 1) := by decide +kernel
theorem d_Nt_send_11 : decode b_Nt_send 11 = .ok (.invokevirtual 30, 3) := by decide +kernel
theorem d_Nt_send_14 : decode b_Nt_send 14 = .ok (.ifCond .eq 16, 3) := by decide +kernel
theorem d_Nt_send_17 : decode b_Nt_send 17 = .ok (.aload_n 0, 1) := by decide +kernel
theorem d_Nt_send_18 : decode b_Nt_send 18 = .ok (.dup, 1) := by decide +kernel
theorem d_Nt_send_19 : decode b_Nt_send 19 = .ok (.getfield 34, 3) := by decide +kernel
theorem d_Nt_send_22 : decode b_Nt_send 22 = .ok (.iconst 1, 1) := by decide +kernel
theorem d_Nt_send_23 : decode b_Nt_send 23 = .ok (.iadd, 1) := by decide +kernel
theorem d_Nt_send_24 : decode b_Nt_send 24 = .ok (.putfield 34, 3) := by decide +kernel
theorem d_Nt_send_27 : decode b_Nt_send 27 = .ok (.goto 23, 3) := by decide +kernel
theorem d_Nt_send_30 : decode b_Nt_send 30 = .ok (.aload_n 0, 1) := by decide +kernel
theorem d_Nt_send_31 : decode b_Nt_send 31 = .ok (.getfield 9, 3) := by decide +kernel
theorem d_Nt_send_34 : decode b_Nt_send 34 = .ok (.aload_n 0, 1) := by decide +kernel
theorem d_Nt_send_35 : decode b_Nt_send 35 = .ok (.getfield 24, 3) := by decide +kernel
theorem d_Nt_send_38 : decode b_Nt_send 38 = .ok (.iload_n 1, 1) := by decide +kernel
theorem d_Nt_send_39 : decode b_Nt_send 39 = .ok (.iastore, 1) := by decide +kernel
theorem d_Nt_send_40 : decode b_Nt_send 40 = .ok (.aload_n 0, 1) := by decide +kernel
theorem d_Nt_send_41 : decode b_Nt_send 41 = .ok (.dup, 1) := by decide +kernel
theorem d_Nt_send_42 : decode b_Nt_send 42 = .ok (.getfield 24, 3) := by decide +kernel
theorem d_Nt_send_45 : decode b_Nt_send 45 = .ok (.iconst 1, 1) := by decide +kernel
theorem d_Nt_send_46 : decode b_Nt_send 46 = .ok (.iadd, 1) := by decide +kernel
theorem d_Nt_send_47 : decode b_Nt_send 47 = .ok (.putfield 24, 3) := by decide +kernel
theorem d_Nt_send_50 : decode b_Nt_send 50 = .ok (.return_, 1) := by decide +kernel
theorem d_Nt_remove_0 : decode b_Nt_remove 0 = .ok (.aload_n 0, 1) := by decide +kernel
theorem d_Nt_remove_1 : decode b_Nt_remove 1 = .ok (.dup, 1) := by decide +kernel
theorem d_Nt_remove_2 : decode b_Nt_remove 2 = .ok (.getfield 24, 3) := by decide +kernel
theorem d_Nt_remove_5 : decode b_Nt_remove 5 = .ok (.iconst 1, 1) := by decide +kernel
theorem d_Nt_remove_6 : decode b_Nt_remove 6 = .ok (.isub, 1) := by decide +kernel
theorem d_Nt_remove_7 : decode b_Nt_remove 7 = .ok (.putfield 24, 3) := by decide +kernel
theorem d_Nt_remove_10 : decode b_Nt_remove 10 = .ok (.aload_n 0, 1) := by decide +kernel
theorem d_Nt_remove_11 : decode b_Nt_remove 11 = .ok (.getfield 9, 3) := by decide +kernel
theorem d_Nt_remove_14 : decode b_Nt_remove 14 = .ok (.iload_n 1, 1) := by decide +kernel
theorem d_Nt_remove_15 : decode b_Nt_remove 15 = .ok (.iconst 1, 1) := by decide +kernel
theorem d_Nt_remove_16 : decode b_Nt_remove 16 = .ok (.iadd, 1) := by decide +kernel
theorem d_Nt_remove_17 : decode b_Nt_remove 17 = .ok (.aload_n 0, 1) := by decide +kernel
theorem d_Nt_remove_18 : decode b_Nt_remove 18 = .ok (.getfield 9, 3) := by decide +kernel
theorem d_Nt_remove_21 : decode b_Nt_remove 21 = .ok (.iload_n 1, 1) := by decide +kernel
theorem d_Nt_remove_22 : decode b_Nt_remove 22 = .ok (.aload_n 0, 1) := by decide +kernel
theorem d_Nt_remove_23 : decode b_Nt_remove 23 = .ok (.getfield 24, 3) := by decide +kernel
theorem d_Nt_remove_26 : decode b_Nt_remove 26 = .ok (.iload_n 1, 1) := by decide +kernel
theorem d_Nt_remove_27 : decode b_Nt_remove 27 = .ok (.isub, 1) := by decide +kernel
theorem d_Nt_remove_28 : decode b_Nt_remove 28 = .ok (.invokestatic 37, 3) := by decide +kernel
theorem d_Nt_remove_31 : decode b_Nt_remove 31 = .ok (.return_, 1) := by decide +kernel
theorem d_Nt_removeAllOf_0 : decode b_Nt_removeAllOf 0 = .ok (.iconst 0, 1) := by decide +kernel
theorem d_Nt_removeAllOf_1 : decode b_Nt_removeAllOf 1 = .ok (.istore_n 2, 1) := by decide +kernel
theorem d_Nt_removeAllOf_2 : decode b_Nt_removeAllOf 2 = .ok (.iconst 0, 1) := by decide +kernel
theorem d_Nt_removeAllOf_3 : decode b_Nt_removeAllOf 3 = .ok (.istore_n 3, 1) := by decide +kernel
theorem d_Nt_removeAllOf_4 : decode b_Nt_removeAllOf 4 = .ok (.iload_n 3, 1) := by decide +kernel
theorem d_Nt_removeAllOf_5 : decode b_Nt_removeAllOf 5 = .ok (.aload_n 0, 1) := by decide +kernel
theorem d_Nt_removeAllOf_6 : decode b_Nt_removeAllOf 6 = .ok (.getfield 24, 3) := by decide +kernel
theorem d_Nt_removeAllOf_9 : decode b_Nt_removeAllOf 9 = .ok (.if_icmp .ge 37, 3) := by decide +kernel
theorem d_Nt_removeAllOf_12 : decode b_Nt_removeAllOf 12 = .ok (.aload_n 0, 1) := by decide +kernel
theorem d_Nt_removeAllOf_13 : decode b_Nt_removeAllOf 13 = .ok (.getfield 9, 3) := by decide +kernel
theorem d_Nt_removeAllOf_16 : decode b_Nt_removeAllOf 16 = .ok (.iload_n 3, 1) := by decide +kernel
theorem d_Nt_removeAllOf_17 : decode b_Nt_removeAllOf 17 = .ok (.iaload, 1) := by decide +kernel
theorem d_Nt_removeAllOf_18 : decode b_Nt_removeAllOf 18 = .ok (.invokestatic 43, 3) := by decide +kernel
theorem d_Nt_removeAllOf_21 : decode b_Nt_removeAllOf 21 = .ok (.iload_n 1, 1) := by decide +kernel
theorem d_Nt_removeAllOf_22 : decode b_Nt_removeAllOf 22 = .ok (.if_icmp .eq 18, 3) := by decide +kernel
theorem d_Nt_removeAllOf_25 : decode b_Nt_removeAllOf 25 = .ok (.aload_n 0, 1) := by decide +kernel
theorem d_Nt_removeAllOf_26 : decode b_Nt_removeAllOf 26 = .ok (.getfield 9, 3) := by decide +kernel
theorem d_Nt_removeAllOf_29 : decode b_Nt_removeAllOf 29 = .ok (.iload_n 2, 1) := by decide +kernel
theorem d_Nt_removeAllOf_30 : decode b_Nt_removeAllOf 30 = .ok (.aload_n 0, 1) := by decide +kernel
theorem d_Nt_removeAllOf_31 : decode b_Nt_removeAllOf 31 = .ok (.getfield 9, 3) := by decide +kernel
theorem d_Nt_removeAllOf_34 : decode b_Nt_removeAllOf 34 = .ok (.iload_n 3, 1) := by decide +kernel
theorem d_Nt_removeAllOf_35 : decode b_Nt_removeAllOf 35 = .ok (.iaload, 1) := by decide +kernel
theorem d_Nt_removeAllOf_36 : decode b_Nt_removeAllOf 36 = .ok (.iastore, 1) := by decide +kernel
theorem d_Nt_removeAllOf_37 : decode b_Nt_removeAllOf 37 = .ok (.iinc 2 1, 3) := by decide +kernel
theorem d_Nt_removeAllOf_40 : decode b_Nt_removeAllOf 40 = .ok (.iinc 3 1, 3) := by decide +kernel
theorem d_Nt_removeAllOf_43 : decode b_Nt_removeAllOf 43 = .ok (.goto (-39), 3) := by decide +kernel
theorem d_Nt_removeAllOf_46 : decode b_Nt_removeAllOf 46 = .ok (.aload_n 0, 1) := by decide +kernel
theorem d_Nt_removeAllOf_47 : decode b_Nt_removeAllOf 47 = .ok (.iload_n 2, 1) := by decide +kernel
theorem d_Nt_removeAllOf_48 : decode b_Nt_removeAllOf 48 = .ok (.putfield 24, 3) := by decide +kernel
theorem d_Nt_removeAllOf_51 : decode b_Nt_removeAllOf 51 = .ok (.return_, 1) := by decide +kernel
theorem d_Sh_init_0 : decode b_Sh_init 0 = .ok (.aload_n 0, 1) := by decide +kernel
theorem d_Sh_init_1 : decode b_Sh_init 1 = .ok (.invokespecial 3, 3) := by decide +kernel
theorem d_Sh_init_4 : decode b_Sh_init 4 = .ok (.aload_n 0, 1) := by decide +kernel
theorem d_Sh_init_5 : decode b_Sh_init 5 = .ok (.iconst 2, 1) := by decide +kernel
theorem d_Sh_init_6 : decode b_Sh_init 6 = .ok (.newarray .int, 2) := by decide +kernel
theorem d_Sh_init_8 : decode b_Sh_init 8 = .ok (.putfield 9, 3) := by decide +kernel
theorem d_Sh_init_11 : decode b_Sh_init 11 = .ok (.aload_n 0, 1) := by decide +kernel
theorem d_Sh_init_12 : decode b_Sh_init 12 = .ok (.iconst 2, 1) := by decide +kernel
theorem d_Sh_init_13 : decode b_Sh_init 13 = .ok (.newarray .int, 2) := by decide +kernel
theorem d_Sh_init_15 : decode b_Sh_init 15 = .ok (.putfield 15, 3) := by decide +kernel
theorem d_Sh_init_18 : decode b_Sh_init 18 = .ok (.aload_n 0, 1) := by decide +kernel
theorem d_Sh_init_19 : decode b_Sh_init 19 = .ok (.iconst 2, 1) := by decide +kernel
theorem d_Sh_init_20 : decode b_Sh_init 20 = .ok (.newarray .int, 2) := by decide +kernel
theorem d_Sh_init_22 : decode b_Sh_init 22 = .ok (.putfield 18, 3) := by decide +kernel
theorem d_Sh_init_25 : decode b_Sh_init 25 = .ok (.aload_n 0, 1) := by decide +kernel
theorem d_Sh_init_26 : decode b_Sh_init 26 = .ok (.iconst 2, 1) := by decide +kernel
theorem d_Sh_init_27 : decode b_Sh_init 27 = .ok (.newarray .int, 2) := by decide +kernel
theorem d_Sh_init_29 : decode b_Sh_init 29 = .ok (.putfield 21, 3) := by decide +kernel
theorem d_Sh_init_32 : decode b_Sh_init 32 = .ok (.aload_n 0, 1) := by decide +kernel
theorem d_Sh_init_33 : decode b_Sh_init 33 = .ok (.iconst 1, 1) := by decide +kernel
theorem d_Sh_init_34 : decode b_Sh_init 34 = .ok (.putfield 24, 3) := by decide +kernel
theorem d_Sh_init_37 : decode b_Sh_init 37 = .ok (.aload_n 0, 1) := by decide +kernel
theorem d_Sh_init_38 : decode b_Sh_init 38 = .ok (.iload_n 3, 1) := by decide +kernel
theorem d_Sh_init_39 : decode b_Sh_init 39 = .ok (.putfield 28, 3) := by decide +kernel
theorem d_Sh_init_42 : decode b_Sh_init 42 = .ok (.aload_n 0, 1) := by decide +kernel
theorem d_Sh_init_43 : decode b_Sh_init 43 = .ok (.iload_n 2, 1) := by decide +kernel
theorem d_Sh_init_44 : decode b_Sh_init 44 = .ok (.anewarray 32, 3) := by decide +kernel
theorem d_Sh_init_47 : decode b_Sh_init 47 = .ok (.putfield 34, 3) := by decide +kernel
theorem d_Sh_init_50 : decode b_Sh_init 50 = .ok (.iconst 0, 1) := by decide +kernel
theorem d_Sh_init_51 : decode b_Sh_init 51 = .ok (.istore 4, 2) := by decide +kernel
theorem d_Sh_init_53 : decode b_Sh_init 53 = .ok (.iload 4, 2) := by decide +kernel
theorem d_Sh_init_55 : decode b_Sh_init 55 = .ok (.iload_n 2, 1) := by decide +kernel
theorem d_Sh_init_56 : decode b_Sh_init 56 = .ok (.if_icmp .ge 26, 3) := by decide +kernel
theorem d_Sh_init_59 : decode b_Sh_init 59 = .ok (.aload_n 0, 1) := by decide +kernel
theorem d_Sh_init_60 : decode b_Sh_init 60 = .ok (.getfield 34, 3) := by decide +kernel
theorem d_Sh_init_63 : decode b_Sh_init 63 = .ok (.iload 4, 2) := by decide +kernel
theorem d_Sh_init_65 : decode b_Sh_init 65 = .ok (.new 32, 3) := by decide +kernel
theorem d_Sh_init_68 : decode b_Sh_init 68 = .ok (.dup, 1) := by decide +kernel
theorem d_Sh_init_69 : decode b_Sh_init 69 = .ok (.iload 4, 2) := by decide +kernel
theorem d_Sh_init_71 : decode b_Sh_init 71 = .ok (.iload_n 1, 1) := by decide +kernel
theorem d_Sh_init_72 : decode b_Sh_init 72 = .ok (.invokespecial 38, 3) := by decide +kernel
theorem d_Sh_init_75 : decode b_Sh_init 75 = .ok (.aastore, 1) := by decide +kernel
theorem d_Sh_init_76 : decode b_Sh_init 76 = .ok (.iinc 4 1, 3) := by decide +kernel
theorem d_Sh_init_79 : decode b_Sh_init 79 = .ok (.goto (-26), 3) := by decide +kernel
theorem d_Sh_init_82 : decode b_Sh_init 82 = .ok (.return_, 1) := by decide +kernel
theorem d_Sh_earlyNumber_0 : decode b_Sh_earlyNumber 0 = .ok (.iconst 0, 1) := by decide +kernel
theorem d_Sh_earlyNumber_1 : decode b_Sh_earlyNumber 1 = .ok (.istore_n 1, 1) := by decide +kernel
theorem d_Sh_earlyNumber_2 : decode b_Sh_earlyNumber 2 = .ok (.aload_n 0, 1) := by decide +kernel
theorem d_Sh_earlyNumber_3 : decode b_Sh_earlyNumber 3 = .ok (.getfield 34, 3) := by decide +kernel
theorem d_Sh_earlyNumber_6 : decode b_Sh_earlyNumber 6 = .ok (.astore_n 2, 1) := by decide +kernel
theorem d_Sh_earlyNumber_7 : decode b_Sh_earlyNumber 7 = .ok (.aload_n 2, 1) := by decide +kernel
theorem d_Sh_earlyNumber_8 : decode b_Sh_earlyNumber 8 = .ok (.arraylength, 1) := by decide +kernel
theorem d_Sh_earlyNumber_9 : decode b_Sh_earlyNumber 9 = .ok (.istore_n 3, 1) := by decide +kernel
theorem d_Sh_earlyNumber_10 : decode b_Sh_earlyNumber 10 = .ok (.iconst 0, 1) := by decide +kernel
theorem d_Sh_earlyNumber_11 : decode b_Sh_earlyNumber 11 = .ok (.istore 4, 2) := by decide +kernel
theorem d_Sh_earlyNumber_13 : decode b_Sh_earlyNumber 13 = .ok (.iload 4, 2) := by decide +kernel
theorem d_Sh_earlyNumber_15 : decode b_Sh_earlyNumber 15 = .ok (.iload_n 3, 1) := by decide +kernel
theorem d_Sh_earlyNumber_16 : decode b_Sh_earlyNumber 16 = .ok (.if_icmp .ge 23, 3) := by decide +kernel
theorem d_Sh_earlyNumber_19 : decode b_Sh_earlyNumber 19 = .ok (.aload_n 2, 1) := by decide +kernel
theorem d_Sh_earlyNumber_20 : decode b_Sh_earlyNumber 20 = .ok (.iload 4, 2) := by decide +kernel
theorem d_Sh_earlyNumber_22 : decode b_Sh_earlyNumber 22 = .ok (.aaload, 1) := by decide +kernel
theorem d_Sh_earlyNumber_23 : decode b_Sh_earlyNumber 23 = .ok (.astore 5, 2) := by decide +kernel
theorem d_Sh_earlyNumber_25 : decode b_Sh_earlyNumber 25 = .ok (.iload_n 1, 1) := by decide +kernel
theorem d_Sh_earlyNumber_26 : decode b_Sh_earlyNumber 26 = .ok (.aload 5, 2) := by decide +kernel
theorem d_Sh_earlyNumber_28 : decode b_Sh_earlyNumber 28 = .ok (.invokevirtual 41, 3) := by decide +kernel
theorem d_Sh_earlyNumber_31 : decode b_Sh_earlyNumber 31 = .ok (.iadd, 1) := by decide +kernel
theorem d_Sh_earlyNumber_32 : decode b_Sh_earlyNumber 32 = .ok (.istore_n 1, 1) := by decide +kernel
theorem d_Sh_earlyNumber_33 : decode b_Sh_earlyNumber 33 = .ok (.iinc 4 1, 3) := by decide +kernel
theorem d_Sh_earlyNumber_36 : decode b_Sh_earlyNumber 36 = .ok (.goto (-23), 3) := by decide +kernel
theorem d_Sh_earlyNumber_39 : decode b_Sh_earlyNumber 39 = .ok (.iload_n 1, 1) := by decide +kernel
theorem d_Sh_earlyNumber_40 : decode b_Sh_earlyNumber 40 = .ok (.ireturn, 1) := by decide +kernel
theorem d_Sh_leastEndsHandled_0 : decode b_Sh_leastEndsHandled 0 = .ok (.aload_n 0, 1) := by decide +kernel
theorem d_Sh_leastEndsHandled_1 : decode b_Sh_leastEndsHandled 1 = .ok (.getfield 34, 3) := by decide +kernel
theorem d_Sh_leastEndsHandled_4 : decode b_Sh_leastEndsHandled 4 = .ok (.iconst 0, 1) := by decide +kernel
theorem d_Sh_leastEndsHandled_5 : decode b_Sh_leastEndsHandled 5 = .ok (.aaload, 1) := by decide +kernel
theorem d_Sh_leastEndsHandled_6 : decode b_Sh_leastEndsHandled 6 = .ok (.getfield 45, 3) := by decide +kernel
theorem d_Sh_leastEndsHandled_9 : decode b_Sh_leastEndsHandled 9 = .ok (.istore_n 1, 1) := by decide +kernel
theorem d_Sh_leastEndsHandled_10 : decode b_Sh_leastEndsHandled 10 = .ok (.aload_n 0, 1) := by decide +kernel
theorem d_Sh_leastEndsHandled_11 : decode b_Sh_leastEndsHandled 11 = .ok (.getfield 34, 3) := by decide +kernel
theorem d_Sh_leastEndsHandled_14 : decode b_Sh_leastEndsHandled 14 = .ok (.astore_n 2, 1) := by decide +kernel
theorem d_Sh_leastEndsHandled_15 : decode b_Sh_leastEndsHandled 15 = .ok (.aload_n 2, 1) := by decide +kernel
theorem d_Sh_leastEndsHandled_16 : decode b_Sh_leastEndsHandled 16 = .ok (.arraylength, 1) := by decide +kernel
theorem d_Sh_leastEndsHandled_17 : decode b_Sh_leastEndsHandled 17 = .ok (.istore_n 3, 1) := by decide +kernel
theorem d_Sh_leastEndsHandled_18 : decode b_Sh_leastEndsHandled 18 = .ok (.iconst 0, 1) := by decide +kernel
theorem d_Sh_leastEndsHandled_19 : decode b_Sh_leastEndsHandled 19 = .ok (.istore 4, 2) := by decide +kernel
theorem d_Sh_leastEndsHandled_21 : decode b_Sh_leastEndsHandled 21 = .ok (.iload 4, 2) := by decide +kernel
theorem d_Sh_leastEndsHandled_23 : decode b_Sh_leastEndsHandled 23 = .ok (.iload_n 3, 1) := by decide +kernel
theorem d_Sh_leastEndsHandled_24 : decode b_Sh_leastEndsHandled 24 = .ok (.if_icmp .ge 25, 3) := by decide +kernel
theorem d_Sh_leastEndsHandled_27 : decode b_Sh_leastEndsHandled 27 = .ok (.aload_n 2, 1) := by decide +kernel
theorem d_Sh_leastEndsHandled_28 : decode b_Sh_leastEndsHandled 28 = .ok (.iload 4, 2) := by decide +kernel
theorem d_Sh_leastEndsHandled_30 : decode b_Sh_leastEndsHandled 30 = .ok (.aaload, 1) := by decide +kernel
theorem d_Sh_leastEndsHandled_31 : decode b_Sh_leastEndsHandled 31 = .ok (.astore 5, 2) := by decide +kernel
theorem d_Sh_leastEndsHandled_33 : decode b_Sh_leastEndsHandled 33 = .ok (.iload_n 1, 1) := by decide +kernel
theorem d_Sh_leastEndsHandled_34 : decode b_Sh_leastEndsHandled 34 = .ok (.aload 5, 2) := by decide +kernel
theorem d_Sh_leastEndsHandled_36 : decode b_Sh_leastEndsHandled 36 = .ok (.getfield 45, 3) := by decide +kernel
theorem d_Sh_leastEndsHandled_39 : decode b_Sh_leastEndsHandled 39 = .ok (.invokestatic 48, 3) := by decide +kernel
theorem d_Sh_leastEndsHandled_42 : decode b_Sh_leastEndsHandled 42 = .ok (.istore_n 1, 1) := by decide +kernel
theorem d_Sh_leastEndsHandled_43 : decode b_Sh_leastEndsHandled 43 = .ok (.iinc 4 1, 3) := by decide +kernel
theorem d_Sh_leastEndsHandled_46 : decode b_Sh_leastEndsHandled 46 = .ok (.goto (-25), 3) := by decide +kernel
theorem d_Sh_leastEndsHandled_49 : decode b_Sh_leastEndsHandled 49 = .ok (.iload_n 1, 1) := by decide +kernel
theorem d_Sh_leastEndsHandled_50 : decode b_Sh_leastEndsHandled 50 = .ok (.ireturn, 1) := by decide +kernel
theorem d_Sh_applyEndedClocks_0 : decode b_Sh_applyEndedClocks 0 = .ok (.aload_n 0, 1) := by decide +kernel
theorem d_Sh_applyEndedClocks_1 : decode b_Sh_applyEndedClocks 1 = .ok (.invokevirtual 54, 3) := by decide +kernel
theorem d_Sh_applyEndedClocks_4 : decode b_Sh_applyEndedClocks 4 = .ok (.istore_n 1, 1) := by decide +kernel
theorem d_Sh_applyEndedClocks_5 : decode b_Sh_applyEndedClocks 5 = .ok (.aload_n 0, 1) := by decide +kernel
theorem d_Sh_applyEndedClocks_6 : decode b_Sh_applyEndedClocks 6 = .ok (.getfield 57, 3) := by decide +kernel
theorem d_Sh_applyEndedClocks_9 : decode b_Sh_applyEndedClocks 9 = .ok (.iload_n 1, 1) := by decide +kernel
theorem d_Sh_applyEndedClocks_10 : decode b_Sh_applyEndedClocks 10 = .ok (.if_icmp .ge 73, 3) := by decide +kernel
theorem d_Sh_applyEndedClocks_13 : decode b_Sh_applyEndedClocks 13 = .ok (.iconst 0, 1) := by decide +kernel
theorem d_Sh_applyEndedClocks_14 : decode b_Sh_applyEndedClocks 14 = .ok (.istore_n 2, 1) := by decide +kernel
theorem d_Sh_applyEndedClocks_15 : decode b_Sh_applyEndedClocks 15 = .ok (.iload_n 2, 1) := by decide +kernel
theorem d_Sh_applyEndedClocks_16 : decode b_Sh_applyEndedClocks 16 = .ok (.iconst 2, 1) := by decide +kernel
theorem d_Sh_applyEndedClocks_17 : decode b_Sh_applyEndedClocks 17 = .ok (.if_icmp .ge 19, 3) := by decide +kernel
theorem d_Sh_applyEndedClocks_20 : decode b_Sh_applyEndedClocks 20 = .ok (.aload_n 0, 1) := by decide +kernel
theorem d_Sh_applyEndedClocks_21 : decode b_Sh_applyEndedClocks 21 = .ok (.iload_n 2, 1) := by decide +kernel
theorem d_Sh_applyEndedClocks_22 : decode b_Sh_applyEndedClocks 22 = .ok (.aload_n 0, 1) := by decide +kernel
theorem d_Sh_applyEndedClocks_23 : decode b_Sh_applyEndedClocks 23 = .ok (.iload_n 2, 1) := by decide +kernel
theorem d_Sh_applyEndedClocks_24 : decode b_Sh_applyEndedClocks 24 = .ok (.invokevirtual 60, 3) := by decide +kernel
theorem d_Sh_applyEndedClocks_27 : decode b_Sh_applyEndedClocks 27 = .ok (.invokevirtual 64, 3) := by decide +kernel
theorem d_Sh_applyEndedClocks_30 : decode b_Sh_applyEndedClocks 30 = .ok (.iinc 2 1, 3) := by decide +kernel
theorem d_Sh_applyEndedClocks_33 : decode b_Sh_applyEndedClocks 33 = .ok (.goto (-18), 3) := by decide +kernel
theorem d_Sh_applyEndedClocks_36 : decode b_Sh_applyEndedClocks 36 = .ok (.aload_n 0, 1) := by decide +kernel
theorem d_Sh_applyEndedClocks_37 : decode b_Sh_applyEndedClocks 37 = .ok (.getfield 34, 3) := by decide +kernel
theorem d_Sh_applyEndedClocks_40 : decode b_Sh_applyEndedClocks 40 = .ok (.astore_n 2, 1) := by decide +kernel
theorem d_Sh_applyEndedClocks_41 : decode b_Sh_applyEndedClocks 41 = .ok (.aload_n 2, 1) := by decide +kernel
theorem d_Sh_applyEndedClocks_42 : decode b_Sh_applyEndedClocks 42 = .ok (.arraylength, 1) := by decide +kernel
theorem d_Sh_applyEndedClocks_43 : decode b_Sh_applyEndedClocks 43 = .ok (.istore_n 3, 1) := by decide +kernel
theorem d_Sh_applyEndedClocks_44 : decode b_Sh_applyEndedClocks 44 = .ok (.iconst 0, 1) := by decide +kernel
theorem d_Sh_applyEndedClocks_45 : decode b_Sh_applyEndedClocks 45 = .ok (.istore 4, 2) := by decide +kernel
theorem d_Sh_applyEndedClocks_47 : decode b_Sh_applyEndedClocks 47 = .ok (.iload 4, 2) := by decide +kernel
theorem d_Sh_applyEndedClocks_49 : decode b_Sh_applyEndedClocks 49 = .ok (.iload_n 3, 1) := by decide +kernel
theorem d_Sh_applyEndedClocks_50 : decode b_Sh_applyEndedClocks 50 = .ok (.if_icmp .ge 20, 3) := by decide +kernel
theorem d_Sh_applyEndedClocks_53 : decode b_Sh_applyEndedClocks 53 = .ok (.aload_n 2, 1) := by decide +kernel
theorem d_Sh_applyEndedClocks_54 : decode b_Sh_applyEndedClocks 54 = .ok (.iload 4, 2) := by decide +kernel
theorem d_Sh_applyEndedClocks_56 : decode b_Sh_applyEndedClocks 56 = .ok (.aaload, 1) := by decide +kernel
theorem d_Sh_applyEndedClocks_57 : decode b_Sh_applyEndedClocks 57 = .ok (.astore 5, 2) := by decide +kernel
theorem d_Sh_applyEndedClocks_59 : decode b_Sh_applyEndedClocks 59 = .ok (.aload 5, 2) := by decide +kernel
theorem d_Sh_applyEndedClocks_61 : decode b_Sh_applyEndedClocks 61 = .ok (.invokevirtual 67, 3) := by decide +kernel
theorem d_Sh_applyEndedClocks_64 : decode b_Sh_applyEndedClocks 64 = .ok (.iinc 4 1, 3) := by decide +kernel
theorem d_Sh_applyEndedClocks_67 : decode b_Sh_applyEndedClocks 67 = .ok (.goto (-20), 3) := by decide +kernel
theorem d_Sh_applyEndedClocks_70 : decode b_Sh_applyEndedClocks 70 = .ok (.aload_n 0, 1) := by decide +kernel
theorem d_Sh_applyEndedClocks_71 : decode b_Sh_applyEndedClocks 71 = .ok (.dup, 1) := by decide +kernel
theorem d_Sh_applyEndedClocks_72 : decode b_Sh_applyEndedClocks 72 = .ok (.getfield 57, 3) := by decide +kernel
theorem d_Sh_applyEndedClocks_75 : decode b_Sh_applyEndedClocks 75 = .ok (.iconst 1, 1) := by decide +kernel
theorem d_Sh_applyEndedClocks_76 : decode b_Sh_applyEndedClocks 76 = .ok (.iadd, 1) := by decide +kernel
theorem d_Sh_applyEndedClocks_77 : decode b_Sh_applyEndedClocks 77 = .ok (.putfield 57, 3) := by decide +kernel
theorem d_Sh_applyEndedClocks_80 : decode b_Sh_applyEndedClocks 80 = .ok (.goto (-75), 3) := by decide +kernel
theorem d_Sh_applyEndedClocks_83 : decode b_Sh_applyEndedClocks 83 = .ok (.return_, 1) := by decide +kernel
theorem d_Sh_sumOfContributions_0 : decode b_Sh_sumOfContributions 0 = .ok (.iconst 0, 1) := by decide +kernel
theorem d_Sh_sumOfContributions_1 : decode b_Sh_sumOfContributions 1 = .ok (.istore_n 2, 1) := by decide +kernel
theorem d_Sh_sumOfContributions_2 : decode b_Sh_sumOfContributions 2 = .ok (.aload_n 0, 1) := by decide +kernel
theorem d_Sh_sumOfContributions_3 : decode b_Sh_sumOfContributions 3 = .ok (.getfield 34, 3) := by decide +kernel
theorem d_Sh_sumOfContributions_6 : decode b_Sh_sumOfContributions 6 = .ok (.astore_n 3, 1) := by decide +kernel
theorem d_Sh_sumOfContributions_7 : decode b_Sh_sumOfContributions 7 = .ok (.aload_n 3, 1) := by decide +kernel
theorem d_Sh_sumOfContributions_8 : decode b_Sh_sumOfContributions 8 = .ok (.arraylength, 1) := by decide +kernel
theorem d_Sh_sumOfContributions_9 : decode b_Sh_sumOfContributions 9 = .ok (.istore 4, 2) := by decide +kernel
theorem d_Sh_sumOfContributions_11 : decode b_Sh_sumOfContributions 11 = .ok (.iconst 0, 1) := by decide +kernel
theorem d_Sh_sumOfContributions_12 : decode b_Sh_sumOfContributions 12 = .ok (.istore 5, 2) := by decide +kernel
theorem d_Sh_sumOfContributions_14 : decode b_Sh_sumOfContributions 14 = .ok (.iload 5, 2) := by decide +kernel
theorem d_Sh_sumOfContributions_16 : decode b_Sh_sumOfContributions 16 = .ok (.iload 4, 2) := by decide +kernel
theorem d_Sh_sumOfContributions_18 : decode b_Sh_sumOfContributions 18 = .ok (.if_icmp .ge 27, 3) := by decide +kernel
theorem d_Sh_sumOfContributions_21 : decode b_Sh_sumOfContributions 21 = .ok (.aload_n 3, 1) := by decide +kernel
theorem d_Sh_sumOfContributions_22 : decode b_Sh_sumOfContributions 22 = .ok (.iload 5, 2) := by decide +kernel
theorem d_Sh_sumOfContributions_24 : decode b_Sh_sumOfContributions 24 = .ok (.aaload, 1) := by decide +kernel
theorem d_Sh_sumOfContributions_25 : decode b_Sh_sumOfContributions 25 = .ok (.astore 6, 2) := by decide +kernel
theorem d_Sh_sumOfContributions_27 : decode b_Sh_sumOfContributions 27 = .ok (.iload_n 2, 1) := by decide +kernel
theorem d_Sh_sumOfContributions_28 : decode b_Sh_sumOfContributions 28 = .ok (.aload 6, 2) := by decide +kernel
theorem d_Sh_sumOfContributions_30 : decode b_Sh_sumOfContributions 30 = .ok (.iload_n 1, 1) := by decide +kernel
theorem d_Sh_sumOfContributions_31 : decode b_Sh_sumOfContributions 31 = .ok (.invokevirtual 70, 3) := by decide +kernel
theorem d_Sh_sumOfContributions_34 : decode b_Sh_sumOfContributions 34 = .ok (.iadd, 1) := by decide +kernel
theorem d_Sh_sumOfContributions_35 : decode b_Sh_sumOfContributions 35 = .ok (.invokestatic 73, 3) := by decide +kernel
theorem d_Sh_sumOfContributions_38 : decode b_Sh_sumOfContributions 38 = .ok (.istore_n 2, 1) := by decide +kernel
theorem d_Sh_sumOfContributions_39 : decode b_Sh_sumOfContributions 39 = .ok (.iinc 5 1, 3) := by decide +kernel
theorem d_Sh_sumOfContributions_42 : decode b_Sh_sumOfContributions 42 = .ok (.goto (-28), 3) := by decide +kernel
theorem d_Sh_sumOfContributions_45 : decode b_Sh_sumOfContributions 45 = .ok (.iload_n 2, 1) := by decide +kernel
theorem d_Sh_sumOfContributions_46 : decode b_Sh_sumOfContributions 46 = .ok (.ireturn, 1) := by decide +kernel
theorem d_Sh_applySum_0 : decode b_Sh_applySum 0 = .ok (.aload_n 0, 1) := by decide +kernel
theorem d_Sh_applySum_1 : decode b_Sh_applySum 1 = .ok (.getfield 28, 3) := by decide +kernel
theorem d_Sh_applySum_4 : decode b_Sh_applySum 4 = .ok (.lookupswitch 111 #[(1, 28), (2, 71)], 28) := by decide +kernel
theorem d_Sh_applySum_32 : decode b_Sh_applySum 32 = .ok (.aload_n 0, 1) := by decide +kernel
theorem d_Sh_applySum_33 : decode b_Sh_applySum 33 = .ok (.getfield 15, 3) := by decide +kernel
theorem d_Sh_applySum_36 : decode b_Sh_applySum 36 = .ok (.iload_n 1, 1) := by decide +kernel
theorem d_Sh_applySum_37 : decode b_Sh_applySum 37 = .ok (.aload_n 0, 1) := by decide +kernel
theorem d_Sh_applySum_38 : decode b_Sh_applySum 38 = .ok (.getfield 15, 3) := by decide +kernel
theorem d_Sh_applySum_41 : decode b_Sh_applySum 41 = .ok (.iload_n 1, 1) := by decide +kernel
theorem d_Sh_applySum_42 : decode b_Sh_applySum 42 = .ok (.iaload, 1) := by decide +kernel
theorem d_Sh_applySum_43 : decode b_Sh_applySum 43 = .ok (.aload_n 0, 1) := by decide +kernel
theorem d_Sh_applySum_44 : decode b_Sh_applySum 44 = .ok (.getfield 15, 3) := by decide +kernel
theorem d_Sh_applySum_47 : decode b_Sh_applySum 47 = .ok (.iload_n 1, 1) := by decide +kernel
theorem d_Sh_applySum_48 : decode b_Sh_applySum 48 = .ok (.iaload, 1) := by decide +kernel
theorem d_Sh_applySum_49 : decode b_Sh_applySum 49 = .ok (.iconst 4, 1) := by decide +kernel
theorem d_Sh_applySum_50 : decode b_Sh_applySum 50 = .ok (.idiv, 1) := by decide +kernel
theorem d_Sh_applySum_51 : decode b_Sh_applySum 51 = .ok (.isub, 1) := by decide +kernel
theorem d_Sh_applySum_52 : decode b_Sh_applySum 52 = .ok (.iload_n 2, 1) := by decide +kernel
theorem d_Sh_applySum_53 : decode b_Sh_applySum 53 = .ok (.iadd, 1) := by decide +kernel
theorem d_Sh_applySum_54 : decode b_Sh_applySum 54 = .ok (.iastore, 1) := by decide +kernel
theorem d_Sh_applySum_55 : decode b_Sh_applySum 55 = .ok (.aload_n 0, 1) := by decide +kernel
theorem d_Sh_applySum_56 : decode b_Sh_applySum 56 = .ok (.getfield 9, 3) := by decide +kernel
theorem d_Sh_applySum_59 : decode b_Sh_applySum 59 = .ok (.iload_n 1, 1) := by decide +kernel
theorem d_Sh_applySum_60 : decode b_Sh_applySum 60 = .ok (.dup2, 1) := by decide +kernel
theorem d_Sh_applySum_61 : decode b_Sh_applySum 61 = .ok (.iaload, 1) := by decide +kernel
theorem d_Sh_applySum_62 : decode b_Sh_applySum 62 = .ok (.aload_n 0, 1) := by decide +kernel
theorem d_Sh_applySum_63 : decode b_Sh_applySum 63 = .ok (.getfield 15, 3) := by decide +kernel
theorem d_Sh_applySum_66 : decode b_Sh_applySum 66 = .ok (.iload_n 1, 1) := by decide +kernel
theorem d_Sh_applySum_67 : decode b_Sh_applySum 67 = .ok (.iaload, 1) := by decide +kernel
theorem d_Sh_applySum_68 : decode b_Sh_applySum 68 = .ok (.iconst 2, 1) := by decide +kernel
theorem d_Sh_applySum_69 : decode b_Sh_applySum 69 = .ok (.idiv, 1) := by decide +kernel
theorem d_Sh_applySum_70 : decode b_Sh_applySum 70 = .ok (.isub, 1) := by decide +kernel
theorem d_Sh_applySum_71 : decode b_Sh_applySum 71 = .ok (.iastore, 1) := by decide +kernel
theorem d_Sh_applySum_72 : decode b_Sh_applySum 72 = .ok (.goto 53, 3) := by decide +kernel
theorem d_Sh_applySum_75 : decode b_Sh_applySum 75 = .ok (.aload_n 0, 1) := by decide +kernel
theorem d_Sh_applySum_76 : decode b_Sh_applySum 76 = .ok (.getfield 15, 3) := by decide +kernel
theorem d_Sh_applySum_79 : decode b_Sh_applySum 79 = .ok (.iload_n 1, 1) := by decide +kernel
theorem d_Sh_applySum_80 : decode b_Sh_applySum 80 = .ok (.dup2, 1) := by decide +kernel
theorem d_Sh_applySum_81 : decode b_Sh_applySum 81 = .ok (.iaload, 1) := by decide +kernel
theorem d_Sh_applySum_82 : decode b_Sh_applySum 82 = .ok (.iload_n 2, 1) := by decide +kernel
theorem d_Sh_applySum_83 : decode b_Sh_applySum 83 = .ok (.iload_n 2, 1) := by decide +kernel
theorem d_Sh_applySum_84 : decode b_Sh_applySum 84 = .ok (.imul, 1) := by decide +kernel
theorem d_Sh_applySum_85 : decode b_Sh_applySum 85 = .ok (.iadd, 1) := by decide +kernel
theorem d_Sh_applySum_86 : decode b_Sh_applySum 86 = .ok (.iastore, 1) := by decide +kernel
theorem d_Sh_applySum_87 : decode b_Sh_applySum 87 = .ok (.aload_n 0, 1) := by decide +kernel
theorem d_Sh_applySum_88 : decode b_Sh_applySum 88 = .ok (.getfield 9, 3) := by decide +kernel
theorem d_Sh_applySum_91 : decode b_Sh_applySum 91 = .ok (.iload_n 1, 1) := by decide +kernel
theorem d_Sh_applySum_92 : decode b_Sh_applySum 92 = .ok (.dup2, 1) := by decide +kernel
theorem d_Sh_applySum_93 : decode b_Sh_applySum 93 = .ok (.iaload, 1) := by decide +kernel
theorem d_Sh_applySum_94 : decode b_Sh_applySum 94 = .ok (.bipush 64, 2) := by decide +kernel
theorem d_Sh_applySum_96 : decode b_Sh_applySum 96 = .ok (.iload_n 2, 1) := by decide +kernel
theorem d_Sh_applySum_97 : decode b_Sh_applySum 97 = .ok (.imul, 1) := by decide +kernel
theorem d_Sh_applySum_98 : decode b_Sh_applySum 98 = .ok (.iconst 1, 1) := by decide +kernel
theorem d_Sh_applySum_99 : decode b_Sh_applySum 99 = .ok (.aload_n 0, 1) := by decide +kernel
theorem d_Sh_applySum_100 : decode b_Sh_applySum 100 = .ok (.getfield 15, 3) := by decide +kernel
theorem d_Sh_applySum_103 : decode b_Sh_applySum 103 = .ok (.iload_n 1, 1) := by decide +kernel
theorem d_Sh_applySum_104 : decode b_Sh_applySum 104 = .ok (.iaload, 1) := by decide +kernel
theorem d_Sh_applySum_105 : decode b_Sh_applySum 105 = .ok (.invokestatic 76, 3) := by decide +kernel
theorem d_Sh_applySum_108 : decode b_Sh_applySum 108 = .ok (.iadd, 1) := by decide +kernel
theorem d_Sh_applySum_109 : decode b_Sh_applySum 109 = .ok (.idiv, 1) := by decide +kernel
theorem d_Sh_applySum_110 : decode b_Sh_applySum 110 = .ok (.isub, 1) := by decide +kernel
theorem d_Sh_applySum_111 : decode b_Sh_applySum 111 = .ok (.iastore, 1) := by decide +kernel
theorem d_Sh_applySum_112 : decode b_Sh_applySum 112 = .ok (.goto 13, 3) := by decide +kernel
theorem d_Sh_applySum_115 : decode b_Sh_applySum 115 = .ok (.aload_n 0, 1) := by decide +kernel
theorem d_Sh_applySum_116 : decode b_Sh_applySum 116 = .ok (.getfield 9, 3) := by decide +kernel
theorem d_Sh_applySum_119 : decode b_Sh_applySum 119 = .ok (.iload_n 1, 1) := by decide +kernel
theorem d_Sh_applySum_120 : decode b_Sh_applySum 120 = .ok (.dup2, 1) := by decide +kernel
theorem d_Sh_applySum_121 : decode b_Sh_applySum 121 = .ok (.iaload, 1) := by decide +kernel
theorem d_Sh_applySum_122 : decode b_Sh_applySum 122 = .ok (.iload_n 2, 1) := by decide +kernel
theorem d_Sh_applySum_123 : decode b_Sh_applySum 123 = .ok (.isub, 1) := by decide +kernel
theorem d_Sh_applySum_124 : decode b_Sh_applySum 124 = .ok (.iastore, 1) := by decide +kernel
theorem d_Sh_applySum_125 : decode b_Sh_applySum 125 = .ok (.return_, 1) := by decide +kernel
theorem d_Sh_rootOf_0 : decode b_Sh_rootOf 0 = .ok (.iconst 0, 1) := by decide +kernel
theorem d_Sh_rootOf_1 : decode b_Sh_rootOf 1 = .ok (.istore_n 1, 1) := by decide +kernel
theorem d_Sh_rootOf_2 : decode b_Sh_rootOf 2 = .ok (.bipush 15, 2) := by decide +kernel
theorem d_Sh_rootOf_4 : decode b_Sh_rootOf 4 = .ok (.istore_n 2, 1) := by decide +kernel
theorem d_Sh_rootOf_5 : decode b_Sh_rootOf 5 = .ok (.iload_n 2, 1) := by decide +kernel
theorem d_Sh_rootOf_6 : decode b_Sh_rootOf 6 = .ok (.ifCond .lt 28, 3) := by decide +kernel
theorem d_Sh_rootOf_9 : decode b_Sh_rootOf 9 = .ok (.iload_n 1, 1) := by decide +kernel
theorem d_Sh_rootOf_10 : decode b_Sh_rootOf 10 = .ok (.iconst 1, 1) := by decide +kernel
theorem d_Sh_rootOf_11 : decode b_Sh_rootOf 11 = .ok (.iload_n 2, 1) := by decide +kernel
theorem d_Sh_rootOf_12 : decode b_Sh_rootOf 12 = .ok (.ishl, 1) := by decide +kernel
theorem d_Sh_rootOf_13 : decode b_Sh_rootOf 13 = .ok (.iadd, 1) := by decide +kernel
theorem d_Sh_rootOf_14 : decode b_Sh_rootOf 14 = .ok (.i2l, 1) := by decide +kernel
theorem d_Sh_rootOf_15 : decode b_Sh_rootOf 15 = .ok (.lstore_n 3, 1) := by decide +kernel
theorem d_Sh_rootOf_16 : decode b_Sh_rootOf 16 = .ok (.lload_n 3, 1) := by decide +kernel
theorem d_Sh_rootOf_17 : decode b_Sh_rootOf 17 = .ok (.lload_n 3, 1) := by decide +kernel
theorem d_Sh_rootOf_18 : decode b_Sh_rootOf 18 = .ok (.lmul, 1) := by decide +kernel
theorem d_Sh_rootOf_19 : decode b_Sh_rootOf 19 = .ok (.iload_n 0, 1) := by decide +kernel
theorem d_Sh_rootOf_20 : decode b_Sh_rootOf 20 = .ok (.i2l, 1) := by decide +kernel
theorem d_Sh_rootOf_21 : decode b_Sh_rootOf 21 = .ok (.lcmp, 1) := by decide +kernel
theorem d_Sh_rootOf_22 : decode b_Sh_rootOf 22 = .ok (.ifCond .gt 6, 3) := by decide +kernel
theorem d_Sh_rootOf_25 : decode b_Sh_rootOf 25 = .ok (.lload_n 3, 1) := by decide +kernel
theorem d_Sh_rootOf_26 : decode b_Sh_rootOf 26 = .ok (.l2i, 1) := by decide +kernel
theorem d_Sh_rootOf_27 : decode b_Sh_rootOf 27 = .ok (.istore_n 1, 1) := by decide +kernel
theorem d_Sh_rootOf_28 : decode b_Sh_rootOf 28 = .ok (.iinc 2 (-1), 3) := by decide +kernel
theorem d_Sh_rootOf_31 : decode b_Sh_rootOf 31 = .ok (.goto (-26), 3) := by decide +kernel
theorem d_Sh_rootOf_34 : decode b_Sh_rootOf 34 = .ok (.iload_n 1, 1) := by decide +kernel
theorem d_Sh_rootOf_35 : decode b_Sh_rootOf 35 = .ok (.ireturn, 1) := by decide +kernel
