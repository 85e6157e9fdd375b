abbrev vwCl : List vw_C := [(RJ0, TJ0, 4), (RJ4, TJ4, 4), (RJ6, TJ6, 1), (RJ11, TJ11, 1), (RJx00060, TJx00060, 6), (RJx35411, TJx35411, 4), (RJx4a65c, TJx4a65c, 3), (RX0, TX0, 9), (RX1, TX1, 1), (RX2, TX2, 7), (RX3, TX3, 3), (RX4, TX4, 4), (RX5, TX5, 3), (RX6, TX6, 7), (RX7, TX7, 7), (RX8, TX8, 6), (RX9, TX9, 11)]
theorem dX0_init_0 : decode cX0_init 0 = .ok (.aload_n 0, 1) := by decide +kernel
theorem dX0_init_1 : decode cX0_init 1 = .ok (.invokespecial 3, 3) := by decide +kernel
theorem dX0_init_4 : decode cX0_init 4 = .ok (.aload_n 0, 1) := by decide +kernel
theorem dX0_init_5 : decode cX0_init 5 = .ok (.bipush 12, 2) := by decide +kernel
theorem dX0_init_7 : decode cX0_init 7 = .ok (.newarray .int, 2) := by decide +kernel
theorem dX0_init_9 : decode cX0_init 9 = .ok (.putfield 9, 3) := by decide +kernel
theorem dX0_init_12 : decode cX0_init 12 = .ok (.aload_n 0, 1) := by decide +kernel
theorem dX0_init_13 : decode cX0_init 13 = .ok (.bipush 12, 2) := by decide +kernel
theorem dX0_init_15 : decode cX0_init 15 = .ok (.newarray .int, 2) := by decide +kernel
theorem dX0_init_17 : decode cX0_init 17 = .ok (.putfield 15, 3) := by decide +kernel
theorem dX0_init_20 : decode cX0_init 20 = .ok (.aload_n 0, 1) := by decide +kernel
theorem dX0_init_21 : decode cX0_init 21 = .ok (.bipush 12, 2) := by decide +kernel
theorem dX0_init_23 : decode cX0_init 23 = .ok (.newarray .int, 2) := by decide +kernel
theorem dX0_init_25 : decode cX0_init 25 = .ok (.putfield 18, 3) := by decide +kernel
theorem dX0_init_28 : decode cX0_init 28 = .ok (.aload_n 0, 1) := by decide +kernel
theorem dX0_init_29 : decode cX0_init 29 = .ok (.bipush 12, 2) := by decide +kernel
theorem dX0_init_31 : decode cX0_init 31 = .ok (.newarray .int, 2) := by decide +kernel
theorem dX0_init_33 : decode cX0_init 33 = .ok (.putfield 21, 3) := by decide +kernel
theorem dX0_init_36 : decode cX0_init 36 = .ok (.aload_n 0, 1) := by decide +kernel
theorem dX0_init_37 : decode cX0_init 37 = .ok (.bipush 12, 2) := by decide +kernel
theorem dX0_init_39 : decode cX0_init 39 = .ok (.newarray .int, 2) := by decide +kernel
theorem dX0_init_41 : decode cX0_init 41 = .ok (.putfield 24, 3) := by decide +kernel
theorem dX0_init_44 : decode cX0_init 44 = .ok (.aload_n 0, 1) := by decide +kernel
theorem dX0_init_45 : decode cX0_init 45 = .ok (.bipush 60, 2) := by decide +kernel
theorem dX0_init_47 : decode cX0_init 47 = .ok (.newarray .int, 2) := by decide +kernel
theorem dX0_init_49 : decode cX0_init 49 = .ok (.putfield 27, 3) := by decide +kernel
theorem dX0_init_52 : decode cX0_init 52 = .ok (.aload_n 0, 1) := by decide +kernel
theorem dX0_init_53 : decode cX0_init 53 = .ok (.bipush 12, 2) := by decide +kernel
theorem dX0_init_55 : decode cX0_init 55 = .ok (.newarray .int, 2) := by decide +kernel
theorem dX0_init_57 : decode cX0_init 57 = .ok (.putfield 30, 3) := by decide +kernel
theorem dX0_init_60 : decode cX0_init 60 = .ok (.return_, 1) := by decide +kernel
theorem dX0_count_0 : decode cX0_count 0 = .ok (.aload_n 0, 1) := by decide +kernel
theorem dX0_count_1 : decode cX0_count 1 = .ok (.getfield 33, 3) := by decide +kernel
theorem dX0_count_4 : decode cX0_count 4 = .ok (.ireturn, 1) := by decide +kernel
theorem dX0_write_0 : decode cX0_write 0 = .ok (.aload_n 0, 1) := by decide +kernel
theorem dX0_write_1 : decode cX0_write 1 = .ok (.getfield 33, 3) := by decide +kernel
theorem dX0_write_4 : decode cX0_write 4 = .ok (.bipush 12, 2) := by decide +kernel
theorem dX0_write_6 : decode cX0_write 6 = .ok (.if_icmp .lt 5, 3) := by decide +kernel
theorem dX0_write_9 : decode cX0_write 9 = .ok (.iconst (-1), 1) := by decide +kernel
theorem dX0_write_10 : decode cX0_write 10 = .ok (.ireturn, 1) := by decide +kernel
theorem dX0_write_11 : decode cX0_write 11 = .ok (.aload_n 0, 1) := by decide +kernel
theorem dX0_write_12 : decode cX0_write 12 = .ok (.getfield 33, 3) := by decide +kernel
theorem dX0_write_15 : decode cX0_write 15 = .ok (.istore 5, 2) := by decide +kernel
theorem dX0_write_17 : decode cX0_write 17 = .ok (.aload_n 0, 1) := by decide +kernel
theorem dX0_write_18 : decode cX0_write 18 = .ok (.dup, 1) := by decide +kernel
theorem dX0_write_19 : decode cX0_write 19 = .ok (.getfield 33, 3) := by decide +kernel
theorem dX0_write_22 : decode cX0_write 22 = .ok (.iconst 1, 1) := by decide +kernel
theorem dX0_write_23 : decode cX0_write 23 = .ok (.iadd, 1) := by decide +kernel
theorem dX0_write_24 : decode cX0_write 24 = .ok (.putfield 33, 3) := by decide +kernel
theorem dX0_write_27 : decode cX0_write 27 = .ok (.aload_n 0, 1) := by decide +kernel
theorem dX0_write_28 : decode cX0_write 28 = .ok (.getfield 9, 3) := by decide +kernel
theorem dX0_write_31 : decode cX0_write 31 = .ok (.iload 5, 2) := by decide +kernel
theorem dX0_write_33 : decode cX0_write 33 = .ok (.iload_n 1, 1) := by decide +kernel
theorem dX0_write_34 : decode cX0_write 34 = .ok (.iastore, 1) := by decide +kernel
theorem dX0_write_35 : decode cX0_write 35 = .ok (.aload_n 0, 1) := by decide +kernel
theorem dX0_write_36 : decode cX0_write 36 = .ok (.getfield 15, 3) := by decide +kernel
theorem dX0_write_39 : decode cX0_write 39 = .ok (.iload 5, 2) := by decide +kernel
theorem dX0_write_41 : decode cX0_write 41 = .ok (.iload_n 2, 1) := by decide +kernel
theorem dX0_write_42 : decode cX0_write 42 = .ok (.iastore, 1) := by decide +kernel
theorem dX0_write_43 : decode cX0_write 43 = .ok (.aload_n 0, 1) := by decide +kernel
theorem dX0_write_44 : decode cX0_write 44 = .ok (.getfield 18, 3) := by decide +kernel
theorem dX0_write_47 : decode cX0_write 47 = .ok (.iload 5, 2) := by decide +kernel
theorem dX0_write_49 : decode cX0_write 49 = .ok (.iload_n 3, 1) := by decide +kernel
theorem dX0_write_50 : decode cX0_write 50 = .ok (.iastore, 1) := by decide +kernel
theorem dX0_write_51 : decode cX0_write 51 = .ok (.aload_n 0, 1) := by decide +kernel
theorem dX0_write_52 : decode cX0_write 52 = .ok (.getfield 21, 3) := by decide +kernel
theorem dX0_write_55 : decode cX0_write 55 = .ok (.iload 5, 2) := by decide +kernel
theorem dX0_write_57 : decode cX0_write 57 = .ok (.aload_n 0, 1) := by decide +kernel
theorem dX0_write_58 : decode cX0_write 58 = .ok (.getfield 37, 3) := by decide +kernel
theorem dX0_write_61 : decode cX0_write 61 = .ok (.iload 4, 2) := by decide +kernel
theorem dX0_write_63 : decode cX0_write 63 = .ok (.iadd, 1) := by decide +kernel
theorem dX0_write_64 : decode cX0_write 64 = .ok (.iastore, 1) := by decide +kernel
theorem dX0_write_65 : decode cX0_write 65 = .ok (.aload_n 0, 1) := by decide +kernel
theorem dX0_write_66 : decode cX0_write 66 = .ok (.getfield 24, 3) := by decide +kernel
theorem dX0_write_69 : decode cX0_write 69 = .ok (.iload 5, 2) := by decide +kernel
theorem dX0_write_71 : decode cX0_write 71 = .ok (.iload_n 1, 1) := by decide +kernel
theorem dX0_write_72 : decode cX0_write 72 = .ok (.iastore, 1) := by decide +kernel
theorem dX0_write_73 : decode cX0_write 73 = .ok (.iload 5, 2) := by decide +kernel
theorem dX0_write_75 : decode cX0_write 75 = .ok (.ireturn, 1) := by decide +kernel
theorem dX0_passOn_0 : decode cX0_passOn 0 = .ok (.aload_n 0, 1) := by decide +kernel
theorem dX0_passOn_1 : decode cX0_passOn 1 = .ok (.getfield 30, 3) := by decide +kernel
theorem dX0_passOn_4 : decode cX0_passOn 4 = .ok (.iload_n 1, 1) := by decide +kernel
theorem dX0_passOn_5 : decode cX0_passOn 5 = .ok (.iaload, 1) := by decide +kernel
theorem dX0_passOn_6 : decode cX0_passOn 6 = .ok (.istore_n 3, 1) := by decide +kernel
theorem dX0_passOn_7 : decode cX0_passOn 7 = .ok (.iload_n 3, 1) := by decide +kernel
theorem dX0_passOn_8 : decode cX0_passOn 8 = .ok (.iconst 5, 1) := by decide +kernel
theorem dX0_passOn_9 : decode cX0_passOn 9 = .ok (.if_icmp .lt 4, 3) := by decide +kernel
theorem dX0_passOn_12 : decode cX0_passOn 12 = .ok (.return_, 1) := by decide +kernel
theorem dX0_passOn_13 : decode cX0_passOn 13 = .ok (.aload_n 0, 1) := by decide +kernel
theorem dX0_passOn_14 : decode cX0_passOn 14 = .ok (.getfield 27, 3) := by decide +kernel
theorem dX0_passOn_17 : decode cX0_passOn 17 = .ok (.iload_n 1, 1) := by decide +kernel
theorem dX0_passOn_18 : decode cX0_passOn 18 = .ok (.iconst 5, 1) := by decide +kernel
theorem dX0_passOn_19 : decode cX0_passOn 19 = .ok (.imul, 1) := by decide +kernel
theorem dX0_passOn_20 : decode cX0_passOn 20 = .ok (.iload_n 3, 1) := by decide +kernel
theorem dX0_passOn_21 : decode cX0_passOn 21 = .ok (.iadd, 1) := by decide +kernel
theorem dX0_passOn_22 : decode cX0_passOn 22 = .ok (.aload_n 0, 1) := by decide +kernel
theorem dX0_passOn_23 : decode cX0_passOn 23 = .ok (.getfield 24, 3) := by decide +kernel
theorem dX0_passOn_26 : decode cX0_passOn 26 = .ok (.iload_n 1, 1) := by decide +kernel
theorem dX0_passOn_27 : decode cX0_passOn 27 = .ok (.iaload, 1) := by decide +kernel
theorem dX0_passOn_28 : decode cX0_passOn 28 = .ok (.iastore, 1) := by decide +kernel
theorem dX0_passOn_29 : decode cX0_passOn 29 = .ok (.aload_n 0, 1) := by decide +kernel
theorem dX0_passOn_30 : decode cX0_passOn 30 = .ok (.getfield 30, 3) := by decide +kernel
theorem dX0_passOn_33 : decode cX0_passOn 33 = .ok (.iload_n 1, 1) := by decide +kernel
theorem dX0_passOn_34 : decode cX0_passOn 34 = .ok (.dup2, 1) := by decide +kernel
theorem dX0_passOn_35 : decode cX0_passOn 35 = .ok (.iaload, 1) := by decide +kernel
theorem dX0_passOn_36 : decode cX0_passOn 36 = .ok (.iconst 1, 1) := by decide +kernel
theorem dX0_passOn_37 : decode cX0_passOn 37 = .ok (.iadd, 1) := by decide +kernel
theorem dX0_passOn_38 : decode cX0_passOn 38 = .ok (.iastore, 1) := by decide +kernel
theorem dX0_passOn_39 : decode cX0_passOn 39 = .ok (.aload_n 0, 1) := by decide +kernel
theorem dX0_passOn_40 : decode cX0_passOn 40 = .ok (.getfield 24, 3) := by decide +kernel
theorem dX0_passOn_43 : decode cX0_passOn 43 = .ok (.iload_n 1, 1) := by decide +kernel
theorem dX0_passOn_44 : decode cX0_passOn 44 = .ok (.iload_n 2, 1) := by decide +kernel
theorem dX0_passOn_45 : decode cX0_passOn 45 = .ok (.iastore, 1) := by decide +kernel
theorem dX0_passOn_46 : decode cX0_passOn 46 = .ok (.return_, 1) := by decide +kernel
theorem dX0_end_0 : decode cX0_end 0 = .ok (.aload_n 0, 1) := by decide +kernel
theorem dX0_end_1 : decode cX0_end 1 = .ok (.getfield 24, 3) := by decide +kernel
theorem dX0_end_4 : decode cX0_end 4 = .ok (.iload_n 1, 1) := by decide +kernel
theorem dX0_end_5 : decode cX0_end 5 = .ok (.iconst (-1), 1) := by decide +kernel
theorem dX0_end_6 : decode cX0_end 6 = .ok (.iastore, 1) := by decide +kernel
theorem dX0_end_7 : decode cX0_end 7 = .ok (.return_, 1) := by decide +kernel
theorem dX0_beginDay_0 : decode cX0_beginDay 0 = .ok (.aload_n 0, 1) := by decide +kernel
theorem dX0_beginDay_1 : decode cX0_beginDay 1 = .ok (.dup, 1) := by decide +kernel
theorem dX0_beginDay_2 : decode cX0_beginDay 2 = .ok (.getfield 37, 3) := by decide +kernel
theorem dX0_beginDay_5 : decode cX0_beginDay 5 = .ok (.iconst 1, 1) := by decide +kernel
theorem dX0_beginDay_6 : decode cX0_beginDay 6 = .ok (.iadd, 1) := by decide +kernel
theorem dX0_beginDay_7 : decode cX0_beginDay 7 = .ok (.putfield 37, 3) := by decide +kernel
theorem dX0_beginDay_10 : decode cX0_beginDay 10 = .ok (.return_, 1) := by decide +kernel
theorem dX0_isDueToday_0 : decode cX0_isDueToday 0 = .ok (.aload_n 0, 1) := by decide +kernel
theorem dX0_isDueToday_1 : decode cX0_isDueToday 1 = .ok (.getfield 21, 3) := by decide +kernel
theorem dX0_isDueToday_4 : decode cX0_isDueToday 4 = .ok (.iload_n 1, 1) := by decide +kernel
theorem dX0_isDueToday_5 : decode cX0_isDueToday 5 = .ok (.iaload, 1) := by decide +kernel
theorem dX0_isDueToday_6 : decode cX0_isDueToday 6 = .ok (.aload_n 0, 1) := by decide +kernel
theorem dX0_isDueToday_7 : decode cX0_isDueToday 7 = .ok (.getfield 37, 3) := by decide +kernel
theorem dX0_isDueToday_10 : decode cX0_isDueToday 10 = .ok (.if_icmp .ne 7, 3) := by decide +kernel
theorem dX0_isDueToday_13 : decode cX0_isDueToday 13 = .ok (.iconst 1, 1) := by decide +kernel
theorem dX0_isDueToday_14 : decode cX0_isDueToday 14 = .ok (.goto 4, 3) := by decide +kernel
theorem dX0_isDueToday_17 : decode cX0_isDueToday 17 = .ok (.iconst 0, 1) := by decide +kernel
theorem dX0_isDueToday_18 : decode cX0_isDueToday 18 = .ok (.ireturn, 1) := by decide +kernel
theorem dX0_holder_0 : decode cX0_holder 0 = .ok (.aload_n 0, 1) := by decide +kernel
theorem dX0_holder_1 : decode cX0_holder 1 = .ok (.getfield 24, 3) := by decide +kernel
theorem dX0_holder_4 : decode cX0_holder 4 = .ok (.iload_n 1, 1) := by decide +kernel
theorem dX0_holder_5 : decode cX0_holder 5 = .ok (.iaload, 1) := by decide +kernel
theorem dX0_holder_6 : decode cX0_holder 6 = .ok (.ireturn, 1) := by decide +kernel
theorem dX0_amount_0 : decode cX0_amount 0 = .ok (.aload_n 0, 1) := by decide +kernel
theorem dX0_amount_1 : decode cX0_amount 1 = .ok (.getfield 18, 3) := by decide +kernel
theorem dX0_amount_4 : decode cX0_amount 4 = .ok (.iload_n 1, 1) := by decide +kernel
theorem dX0_amount_5 : decode cX0_amount 5 = .ok (.iaload, 1) := by decide +kernel
theorem dX0_amount_6 : decode cX0_amount 6 = .ok (.ireturn, 1) := by decide +kernel
theorem dX0_endorsements_0 : decode cX0_endorsements 0 = .ok (.aload_n 0, 1) := by decide +kernel
theorem dX0_endorsements_1 : decode cX0_endorsements 1 = .ok (.getfield 30, 3) := by decide +kernel
theorem dX0_endorsements_4 : decode cX0_endorsements 4 = .ok (.iload_n 1, 1) := by decide +kernel
theorem dX0_endorsements_5 : decode cX0_endorsements 5 = .ok (.iaload, 1) := by decide +kernel
theorem dX0_endorsements_6 : decode cX0_endorsements 6 = .ok (.ireturn, 1) := by decide +kernel
theorem dX0_liableCount_0 : decode cX0_liableCount 0 = .ok (.iconst 2, 1) := by decide +kernel
theorem dX0_liableCount_1 : decode cX0_liableCount 1 = .ok (.aload_n 0, 1) := by decide +kernel
theorem dX0_liableCount_2 : decode cX0_liableCount 2 = .ok (.getfield 30, 3) := by decide +kernel
theorem dX0_liableCount_5 : decode cX0_liableCount 5 = .ok (.iload_n 1, 1) := by decide +kernel
theorem dX0_liableCount_6 : decode cX0_liableCount 6 = .ok (.iaload, 1) := by decide +kernel
theorem dX0_liableCount_7 : decode cX0_liableCount 7 = .ok (.iadd, 1) := by decide +kernel
theorem dX0_liableCount_8 : decode cX0_liableCount 8 = .ok (.ireturn, 1) := by decide +kernel
theorem dX0_liable_0 : decode cX0_liable 0 = .ok (.iload_n 2, 1) := by decide +kernel
theorem dX0_liable_1 : decode cX0_liable 1 = .ok (.ifCond .ne 10, 3) := by decide +kernel
theorem dX0_liable_4 : decode cX0_liable 4 = .ok (.aload_n 0, 1) := by decide +kernel
theorem dX0_liable_5 : decode cX0_liable 5 = .ok (.getfield 15, 3) := by decide +kernel
theorem dX0_liable_8 : decode cX0_liable 8 = .ok (.iload_n 1, 1) := by decide +kernel
theorem dX0_liable_9 : decode cX0_liable 9 = .ok (.iaload, 1) := by decide +kernel
theorem dX0_liable_10 : decode cX0_liable 10 = .ok (.ireturn, 1) := by decide +kernel
theorem dX0_liable_11 : decode cX0_liable 11 = .ok (.iload_n 2, 1) := by decide +kernel
theorem dX0_liable_12 : decode cX0_liable 12 = .ok (.iconst 1, 1) := by decide +kernel
theorem dX0_liable_13 : decode cX0_liable 13 = .ok (.if_icmp .ne 10, 3) := by decide +kernel
theorem dX0_liable_16 : decode cX0_liable 16 = .ok (.aload_n 0, 1) := by decide +kernel
theorem dX0_liable_17 : decode cX0_liable 17 = .ok (.getfield 9, 3) := by decide +kernel
theorem dX0_liable_20 : decode cX0_liable 20 = .ok (.iload_n 1, 1) := by decide +kernel
theorem dX0_liable_21 : decode cX0_liable 21 = .ok (.iaload, 1) := by decide +kernel
theorem dX0_liable_22 : decode cX0_liable 22 = .ok (.ireturn, 1) := by decide +kernel
theorem dX0_liable_23 : decode cX0_liable 23 = .ok (.aload_n 0, 1) := by decide +kernel
theorem dX0_liable_24 : decode cX0_liable 24 = .ok (.getfield 27, 3) := by decide +kernel
theorem dX0_liable_27 : decode cX0_liable 27 = .ok (.iload_n 1, 1) := by decide +kernel
theorem dX0_liable_28 : decode cX0_liable 28 = .ok (.iconst 5, 1) := by decide +kernel
theorem dX0_liable_29 : decode cX0_liable 29 = .ok (.imul, 1) := by decide +kernel
theorem dX0_liable_30 : decode cX0_liable 30 = .ok (.aload_n 0, 1) := by decide +kernel
theorem dX0_liable_31 : decode cX0_liable 31 = .ok (.getfield 30, 3) := by decide +kernel
theorem dX0_liable_34 : decode cX0_liable 34 = .ok (.iload_n 1, 1) := by decide +kernel
theorem dX0_liable_35 : decode cX0_liable 35 = .ok (.iaload, 1) := by decide +kernel
theorem dX0_liable_36 : decode cX0_liable 36 = .ok (.iadd, 1) := by decide +kernel
theorem dX0_liable_37 : decode cX0_liable 37 = .ok (.iconst 1, 1) := by decide +kernel
theorem dX0_liable_38 : decode cX0_liable 38 = .ok (.iadd, 1) := by decide +kernel
theorem dX0_liable_39 : decode cX0_liable 39 = .ok (.iload_n 2, 1) := by decide +kernel
theorem dX0_liable_40 : decode cX0_liable 40 = .ok (.isub, 1) := by decide +kernel
theorem dX0_liable_41 : decode cX0_liable 41 = .ok (.iaload, 1) := by decide +kernel
theorem dX0_liable_42 : decode cX0_liable 42 = .ok (.ireturn, 1) := by decide +kernel
theorem dX1_init_0 : decode cX1_init 0 = .ok (.aload_n 0, 1) := by decide +kernel
theorem dX1_init_1 : decode cX1_init 1 = .ok (.invokespecial 3, 3) := by decide +kernel
theorem dX1_init_4 : decode cX1_init 4 = .ok (.aload_n 0, 1) := by decide +kernel
theorem dX1_init_5 : decode cX1_init 5 = .ok (.bipush 36, 2) := by decide +kernel
theorem dX1_init_7 : decode cX1_init 7 = .ok (.newarray .int, 2) := by decide +kernel
theorem dX1_init_9 : decode cX1_init 9 = .ok (.putfield 9, 3) := by decide +kernel
theorem dX1_init_12 : decode cX1_init 12 = .ok (.return_, 1) := by decide +kernel
theorem dX1_amount_0 : decode cX1_amount 0 = .ok (.aload_n 0, 1) := by decide +kernel
theorem dX1_amount_1 : decode cX1_amount 1 = .ok (.getfield 9, 3) := by decide +kernel
theorem dX1_amount_4 : decode cX1_amount 4 = .ok (.iload_n 1, 1) := by decide +kernel
theorem dX1_amount_5 : decode cX1_amount 5 = .ok (.bipush 6, 2) := by decide +kernel
theorem dX1_amount_7 : decode cX1_amount 7 = .ok (.imul, 1) := by decide +kernel
theorem dX1_amount_8 : decode cX1_amount 8 = .ok (.iload_n 2, 1) := by decide +kernel
theorem dX1_amount_9 : decode cX1_amount 9 = .ok (.iadd, 1) := by decide +kernel
theorem dX1_amount_10 : decode cX1_amount 10 = .ok (.iaload, 1) := by decide +kernel
theorem dX1_amount_11 : decode cX1_amount 11 = .ok (.ireturn, 1) := by decide +kernel
theorem dX1_add_0 : decode cX1_add 0 = .ok (.aload_n 0, 1) := by decide +kernel
theorem dX1_add_1 : decode cX1_add 1 = .ok (.getfield 9, 3) := by decide +kernel
theorem dX1_add_4 : decode cX1_add 4 = .ok (.iload_n 1, 1) := by decide +kernel
theorem dX1_add_5 : decode cX1_add 5 = .ok (.bipush 6, 2) := by decide +kernel
theorem dX1_add_7 : decode cX1_add 7 = .ok (.imul, 1) := by decide +kernel
theorem dX1_add_8 : decode cX1_add 8 = .ok (.iload_n 2, 1) := by decide +kernel
theorem dX1_add_9 : decode cX1_add 9 = .ok (.iadd, 1) := by decide +kernel
theorem dX1_add_10 : decode cX1_add 10 = .ok (.dup2, 1) := by decide +kernel
theorem dX1_add_11 : decode cX1_add 11 = .ok (.iaload, 1) := by decide +kernel
theorem dX1_add_12 : decode cX1_add 12 = .ok (.iload_n 3, 1) := by decide +kernel
theorem dX1_add_13 : decode cX1_add 13 = .ok (.iadd, 1) := by decide +kernel
theorem dX1_add_14 : decode cX1_add 14 = .ok (.iastore, 1) := by decide +kernel
theorem dX1_add_15 : decode cX1_add 15 = .ok (.return_, 1) := by decide +kernel
theorem dX1_sumOf_0 : decode cX1_sumOf 0 = .ok (.lconst 0, 1) := by decide +kernel
theorem dX1_sumOf_1 : decode cX1_sumOf 1 = .ok (.lstore_n 2, 1) := by decide +kernel
theorem dX1_sumOf_2 : decode cX1_sumOf 2 = .ok (.iconst 0, 1) := by decide +kernel
theorem dX1_sumOf_3 : decode cX1_sumOf 3 = .ok (.istore 4, 2) := by decide +kernel
theorem dX1_sumOf_5 : decode cX1_sumOf 5 = .ok (.iload 4, 2) := by decide +kernel
theorem dX1_sumOf_7 : decode cX1_sumOf 7 = .ok (.bipush 6, 2) := by decide +kernel
theorem dX1_sumOf_9 : decode cX1_sumOf 9 = .ok (.if_icmp .ge 20, 3) := by decide +kernel
theorem dX1_sumOf_12 : decode cX1_sumOf 12 = .ok (.lload_n 2, 1) := by decide +kernel
theorem dX1_sumOf_13 : decode cX1_sumOf 13 = .ok (.aload_n 0, 1) := by decide +kernel
theorem dX1_sumOf_14 : decode cX1_sumOf 14 = .ok (.iload_n 1, 1) := by decide +kernel
theorem dX1_sumOf_15 : decode cX1_sumOf 15 = .ok (.iload 4, 2) := by decide +kernel
theorem dX1_sumOf_17 : decode cX1_sumOf 17 = .ok (.invokevirtual 15, 3) := by decide +kernel
theorem dX1_sumOf_20 : decode cX1_sumOf 20 = .ok (.i2l, 1) := by decide +kernel
theorem dX1_sumOf_21 : decode cX1_sumOf 21 = .ok (.ladd, 1) := by decide +kernel
theorem dX1_sumOf_22 : decode cX1_sumOf 22 = .ok (.lstore_n 2, 1) := by decide +kernel
theorem dX1_sumOf_23 : decode cX1_sumOf 23 = .ok (.iinc 4 1, 3) := by decide +kernel
theorem dX1_sumOf_26 : decode cX1_sumOf 26 = .ok (.goto (-21), 3) := by decide +kernel
theorem dX1_sumOf_29 : decode cX1_sumOf 29 = .ok (.lload_n 2, 1) := by decide +kernel
theorem dX1_sumOf_30 : decode cX1_sumOf 30 = .ok (.lreturn, 1) := by decide +kernel
theorem dX1_sumOn_0 : decode cX1_sumOn 0 = .ok (.lconst 0, 1) := by decide +kernel
theorem dX1_sumOn_1 : decode cX1_sumOn 1 = .ok (.lstore_n 2, 1) := by decide +kernel
theorem dX1_sumOn_2 : decode cX1_sumOn 2 = .ok (.iconst 0, 1) := by decide +kernel
theorem dX1_sumOn_3 : decode cX1_sumOn 3 = .ok (.istore 4, 2) := by decide +kernel
theorem dX1_sumOn_5 : decode cX1_sumOn 5 = .ok (.iload 4, 2) := by decide +kernel
theorem dX1_sumOn_7 : decode cX1_sumOn 7 = .ok (.bipush 6, 2) := by decide +kernel
theorem dX1_sumOn_9 : decode cX1_sumOn 9 = .ok (.if_icmp .ge 20, 3) := by decide +kernel
theorem dX1_sumOn_12 : decode cX1_sumOn 12 = .ok (.lload_n 2, 1) := by decide +kernel
theorem dX1_sumOn_13 : decode cX1_sumOn 13 = .ok (.aload_n 0, 1) := by decide +kernel
theorem dX1_sumOn_14 : decode cX1_sumOn 14 = .ok (.iload 4, 2) := by decide +kernel
theorem dX1_sumOn_16 : decode cX1_sumOn 16 = .ok (.iload_n 1, 1) := by decide +kernel
theorem dX1_sumOn_17 : decode cX1_sumOn 17 = .ok (.invokevirtual 15, 3) := by decide +kernel
theorem dX1_sumOn_20 : decode cX1_sumOn 20 = .ok (.i2l, 1) := by decide +kernel
theorem dX1_sumOn_21 : decode cX1_sumOn 21 = .ok (.ladd, 1) := by decide +kernel
theorem dX1_sumOn_22 : decode cX1_sumOn 22 = .ok (.lstore_n 2, 1) := by decide +kernel
theorem dX1_sumOn_23 : decode cX1_sumOn 23 = .ok (.iinc 4 1, 3) := by decide +kernel
theorem dX1_sumOn_26 : decode cX1_sumOn 26 = .ok (.goto (-21), 3) := by decide +kernel
theorem dX1_sumOn_29 : decode cX1_sumOn 29 = .ok (.lload_n 2, 1) := by decide +kernel
theorem dX1_sumOn_30 : decode cX1_sumOn 30 = .ok (.lreturn, 1) := by decide +kernel
theorem dX1_leastOf_0 : decode cX1_leastOf 0 = .ok (.aload_n 0, 1) := by decide +kernel
theorem dX1_leastOf_1 : decode cX1_leastOf 1 = .ok (.iload_n 1, 1) := by decide +kernel
theorem dX1_leastOf_2 : decode cX1_leastOf 2 = .ok (.iconst 0, 1) := by decide +kernel
theorem dX1_leastOf_3 : decode cX1_leastOf 3 = .ok (.invokevirtual 15, 3) := by decide +kernel
theorem dX1_leastOf_6 : decode cX1_leastOf 6 = .ok (.istore_n 2, 1) := by decide +kernel
theorem dX1_leastOf_7 : decode cX1_leastOf 7 = .ok (.iconst 1, 1) := by decide +kernel
theorem dX1_leastOf_8 : decode cX1_leastOf 8 = .ok (.istore_n 3, 1) := by decide +kernel
theorem dX1_leastOf_9 : decode cX1_leastOf 9 = .ok (.iload_n 3, 1) := by decide +kernel
theorem dX1_leastOf_10 : decode cX1_leastOf 10 = .ok (.bipush 6, 2) := by decide +kernel
theorem dX1_leastOf_12 : decode cX1_leastOf 12 = .ok (.if_icmp .ge 20, 3) := by decide +kernel
theorem dX1_leastOf_15 : decode cX1_leastOf 15 = .ok (.iload_n 2, 1) := by decide +kernel
theorem dX1_leastOf_16 : decode cX1_leastOf 16 = .ok (.aload_n 0, 1) := by decide +kernel
theorem dX1_leastOf_17 : decode cX1_leastOf 17 = .ok (.iload_n 1, 1) := by decide +kernel
theorem dX1_leastOf_18 : decode cX1_leastOf 18 = .ok (.iload_n 3, 1) := by decide +kernel
theorem dX1_leastOf_19 : decode cX1_leastOf 19 = .ok (.invokevirtual 15, 3) := by decide +kernel
theorem dX1_leastOf_22 : decode cX1_leastOf 22 = .ok (.invokestatic 19, 3) := by decide +kernel
theorem dX1_leastOf_25 : decode cX1_leastOf 25 = .ok (.istore_n 2, 1) := by decide +kernel
theorem dX1_leastOf_26 : decode cX1_leastOf 26 = .ok (.iinc 3 1, 3) := by decide +kernel
theorem dX1_leastOf_29 : decode cX1_leastOf 29 = .ok (.goto (-20), 3) := by decide +kernel
theorem dX1_leastOf_32 : decode cX1_leastOf 32 = .ok (.iload_n 2, 1) := by decide +kernel
theorem dX1_leastOf_33 : decode cX1_leastOf 33 = .ok (.ireturn, 1) := by decide +kernel
theorem dX1_greatestCreditor_0 : decode cX1_greatestCreditor 0 = .ok (.iconst (-1), 1) := by decide +kernel
theorem dX1_greatestCreditor_1 : decode cX1_greatestCreditor 1 = .ok (.istore_n 2, 1) := by decide +kernel
theorem dX1_greatestCreditor_2 : decode cX1_greatestCreditor 2 = .ok (.iconst 0, 1) := by decide +kernel
theorem dX1_greatestCreditor_3 : decode cX1_greatestCreditor 3 = .ok (.istore_n 3, 1) := by decide +kernel
theorem dX1_greatestCreditor_4 : decode cX1_greatestCreditor 4 = .ok (.iconst 0, 1) := by decide +kernel
theorem dX1_greatestCreditor_5 : decode cX1_greatestCreditor 5 = .ok (.istore 4, 2) := by decide +kernel
theorem dX1_greatestCreditor_7 : decode cX1_greatestCreditor 7 = .ok (.iload 4, 2) := by decide +kernel
theorem dX1_greatestCreditor_9 : decode cX1_greatestCreditor 9 = .ok (.bipush 6, 2) := by decide +kernel
theorem dX1_greatestCreditor_11 : decode cX1_greatestCreditor 11 = .ok (.if_icmp .ge 31, 3) := by decide +kernel
theorem dX1_greatestCreditor_14 : decode cX1_greatestCreditor 14 = .ok (.aload_n 0, 1) := by decide +kernel
theorem dX1_greatestCreditor_15 : decode cX1_greatestCreditor 15 = .ok (.iload 4, 2) := by decide +kernel
theorem dX1_greatestCreditor_17 : decode cX1_greatestCreditor 17 = .ok (.iload_n 1, 1) := by decide +kernel
theorem dX1_greatestCreditor_18 : decode cX1_greatestCreditor 18 = .ok (.invokevirtual 15, 3) := by decide +kernel
theorem dX1_greatestCreditor_21 : decode cX1_greatestCreditor 21 = .ok (.iload_n 3, 1) := by decide +kernel
theorem dX1_greatestCreditor_22 : decode cX1_greatestCreditor 22 = .ok (.if_icmp .le 14, 3) := by decide +kernel
theorem dX1_greatestCreditor_25 : decode cX1_greatestCreditor 25 = .ok (.iload 4, 2) := by decide +kernel
theorem dX1_greatestCreditor_27 : decode cX1_greatestCreditor 27 = .ok (.istore_n 2, 1) := by decide +kernel
theorem dX1_greatestCreditor_28 : decode cX1_greatestCreditor 28 = .ok (.aload_n 0, 1) := by decide +kernel
theorem dX1_greatestCreditor_29 : decode cX1_greatestCreditor 29 = .ok (.iload 4, 2) := by decide +kernel
theorem dX1_greatestCreditor_31 : decode cX1_greatestCreditor 31 = .ok (.iload_n 1, 1) := by decide +kernel
theorem dX1_greatestCreditor_32 : decode cX1_greatestCreditor 32 = .ok (.invokevirtual 15, 3) := by decide +kernel
theorem dX1_greatestCreditor_35 : decode cX1_greatestCreditor 35 = .ok (.istore_n 3, 1) := by decide +kernel
theorem dX1_greatestCreditor_36 : decode cX1_greatestCreditor 36 = .ok (.iinc 4 1, 3) := by decide +kernel
theorem dX1_greatestCreditor_39 : decode cX1_greatestCreditor 39 = .ok (.goto (-32), 3) := by decide +kernel
theorem dX1_greatestCreditor_42 : decode cX1_greatestCreditor 42 = .ok (.iload_n 2, 1) := by decide +kernel
theorem dX1_greatestCreditor_43 : decode cX1_greatestCreditor 43 = .ok (.ireturn, 1) := by decide +kernel
theorem dX1_dropOn_0 : decode cX1_dropOn 0 = .ok (.aload_n 0, 1) := by decide +kernel
theorem dX1_dropOn_1 : decode cX1_dropOn 1 = .ok (.iload_n 1, 1) := by decide +kernel
theorem dX1_dropOn_2 : decode cX1_dropOn 2 = .ok (.invokevirtual 24, 3) := by decide +kernel
theorem dX1_dropOn_5 : decode cX1_dropOn 5 = .ok (.lstore_n 2, 1) := by decide +kernel
theorem dX1_dropOn_6 : decode cX1_dropOn 6 = .ok (.iconst 0, 1) := by decide +kernel
theorem dX1_dropOn_7 : decode cX1_dropOn 7 = .ok (.istore 4, 2) := by decide +kernel
theorem dX1_dropOn_9 : decode cX1_dropOn 9 = .ok (.iload 4, 2) := by decide +kernel
theorem dX1_dropOn_11 : decode cX1_dropOn 11 = .ok (.bipush 6, 2) := by decide +kernel
theorem dX1_dropOn_13 : decode cX1_dropOn 13 = .ok (.if_icmp .ge 22, 3) := by decide +kernel
theorem dX1_dropOn_16 : decode cX1_dropOn 16 = .ok (.aload_n 0, 1) := by decide +kernel
theorem dX1_dropOn_17 : decode cX1_dropOn 17 = .ok (.getfield 9, 3) := by decide +kernel
theorem dX1_dropOn_20 : decode cX1_dropOn 20 = .ok (.iload 4, 2) := by decide +kernel
theorem dX1_dropOn_22 : decode cX1_dropOn 22 = .ok (.bipush 6, 2) := by decide +kernel
theorem dX1_dropOn_24 : decode cX1_dropOn 24 = .ok (.imul, 1) := by decide +kernel
theorem dX1_dropOn_25 : decode cX1_dropOn 25 = .ok (.iload_n 1, 1) := by decide +kernel
theorem dX1_dropOn_26 : decode cX1_dropOn 26 = .ok (.iadd, 1) := by decide +kernel
theorem dX1_dropOn_27 : decode cX1_dropOn 27 = .ok (.iconst 0, 1) := by decide +kernel
theorem dX1_dropOn_28 : decode cX1_dropOn 28 = .ok (.iastore, 1) := by decide +kernel
theorem dX1_dropOn_29 : decode cX1_dropOn 29 = .ok (.iinc 4 1, 3) := by decide +kernel
theorem dX1_dropOn_32 : decode cX1_dropOn 32 = .ok (.goto (-23), 3) := by decide +kernel
theorem dX1_dropOn_35 : decode cX1_dropOn 35 = .ok (.lload_n 2, 1) := by decide +kernel
theorem dX1_dropOn_36 : decode cX1_dropOn 36 = .ok (.lreturn, 1) := by decide +kernel
theorem dX1_leaveToCrown_0 : decode cX1_leaveToCrown 0 = .ok (.iconst 0, 1) := by decide +kernel
theorem dX1_leaveToCrown_1 : decode cX1_leaveToCrown 1 = .ok (.istore_n 2, 1) := by decide +kernel
theorem dX1_leaveToCrown_2 : decode cX1_leaveToCrown 2 = .ok (.iload_n 2, 1) := by decide +kernel
theorem dX1_leaveToCrown_3 : decode cX1_leaveToCrown 3 = .ok (.bipush 6, 2) := by decide +kernel
theorem dX1_leaveToCrown_5 : decode cX1_leaveToCrown 5 = .ok (.if_icmp .ge 37, 3) := by decide +kernel
theorem dX1_leaveToCrown_8 : decode cX1_leaveToCrown 8 = .ok (.iload_n 2, 1) := by decide +kernel
theorem dX1_leaveToCrown_9 : decode cX1_leaveToCrown 9 = .ok (.ifCond .eq 15, 3) := by decide +kernel
theorem dX1_leaveToCrown_12 : decode cX1_leaveToCrown 12 = .ok (.aload_n 0, 1) := by decide +kernel
theorem dX1_leaveToCrown_13 : decode cX1_leaveToCrown 13 = .ok (.iconst 0, 1) := by decide +kernel
theorem dX1_leaveToCrown_14 : decode cX1_leaveToCrown 14 = .ok (.iload_n 2, 1) := by decide +kernel
theorem dX1_leaveToCrown_15 : decode cX1_leaveToCrown 15 = .ok (.aload_n 0, 1) := by decide +kernel
theorem dX1_leaveToCrown_16 : decode cX1_leaveToCrown 16 = .ok (.iload_n 1, 1) := by decide +kernel
theorem dX1_leaveToCrown_17 : decode cX1_leaveToCrown 17 = .ok (.iload_n 2, 1) := by decide +kernel
theorem dX1_leaveToCrown_18 : decode cX1_leaveToCrown 18 = .ok (.invokevirtual 15, 3) := by decide +kernel
theorem dX1_leaveToCrown_21 : decode cX1_leaveToCrown 21 = .ok (.invokevirtual 28, 3) := by decide +kernel
theorem dX1_leaveToCrown_24 : decode cX1_leaveToCrown 24 = .ok (.aload_n 0, 1) := by decide +kernel
theorem dX1_leaveToCrown_25 : decode cX1_leaveToCrown 25 = .ok (.getfield 9, 3) := by decide +kernel
theorem dX1_leaveToCrown_28 : decode cX1_leaveToCrown 28 = .ok (.iload_n 1, 1) := by decide +kernel
theorem dX1_leaveToCrown_29 : decode cX1_leaveToCrown 29 = .ok (.bipush 6, 2) := by decide +kernel
theorem dX1_leaveToCrown_31 : decode cX1_leaveToCrown 31 = .ok (.imul, 1) := by decide +kernel
theorem dX1_leaveToCrown_32 : decode cX1_leaveToCrown 32 = .ok (.iload_n 2, 1) := by decide +kernel
theorem dX1_leaveToCrown_33 : decode cX1_leaveToCrown 33 = .ok (.iadd, 1) := by decide +kernel
theorem dX1_leaveToCrown_34 : decode cX1_leaveToCrown 34 = .ok (.iconst 0, 1) := by decide +kernel
theorem dX1_leaveToCrown_35 : decode cX1_leaveToCrown 35 = .ok (.iastore, 1) := by decide +kernel
theorem dX1_leaveToCrown_36 : decode cX1_leaveToCrown 36 = .ok (.iinc 2 1, 3) := by decide +kernel
theorem dX1_leaveToCrown_39 : decode cX1_leaveToCrown 39 = .ok (.goto (-37), 3) := by decide +kernel
theorem dX1_leaveToCrown_42 : decode cX1_leaveToCrown 42 = .ok (.return_, 1) := by decide +kernel
theorem dX2_init_0 : decode cX2_init 0 = .ok (.aload_n 0, 1) := by decide +kernel
theorem dX2_init_1 : decode cX2_init 1 = .ok (.invokespecial 3, 3) := by decide +kernel
theorem dX2_init_4 : decode cX2_init 4 = .ok (.aload_n 0, 1) := by decide +kernel
theorem dX2_init_5 : decode cX2_init 5 = .ok (.bipush 90, 2) := by decide +kernel
theorem dX2_init_7 : decode cX2_init 7 = .ok (.newarray .int, 2) := by decide +kernel
theorem dX2_init_9 : decode cX2_init 9 = .ok (.putfield 9, 3) := by decide +kernel
theorem dX2_init_12 : decode cX2_init 12 = .ok (.aload_n 0, 1) := by decide +kernel
theorem dX2_init_13 : decode cX2_init 13 = .ok (.bipush 90, 2) := by decide +kernel
theorem dX2_init_15 : decode cX2_init 15 = .ok (.newarray .int, 2) := by decide +kernel
theorem dX2_init_17 : decode cX2_init 17 = .ok (.putfield 15, 3) := by decide +kernel
theorem dX2_init_20 : decode cX2_init 20 = .ok (.aload_n 0, 1) := by decide +kernel
theorem dX2_init_21 : decode cX2_init 21 = .ok (.bipush 90, 2) := by decide +kernel
theorem dX2_init_23 : decode cX2_init 23 = .ok (.newarray .int, 2) := by decide +kernel
theorem dX2_init_25 : decode cX2_init 25 = .ok (.putfield 18, 3) := by decide +kernel
theorem dX2_init_28 : decode cX2_init 28 = .ok (.aload_n 0, 1) := by decide +kernel
theorem dX2_init_29 : decode cX2_init 29 = .ok (.bipush 90, 2) := by decide +kernel
theorem dX2_init_31 : decode cX2_init 31 = .ok (.newarray .int, 2) := by decide +kernel
theorem dX2_init_33 : decode cX2_init 33 = .ok (.putfield 21, 3) := by decide +kernel
theorem dX2_init_36 : decode cX2_init 36 = .ok (.aload_n 0, 1) := by decide +kernel
theorem dX2_init_37 : decode cX2_init 37 = .ok (.bipush 90, 2) := by decide +kernel
theorem dX2_init_39 : decode cX2_init 39 = .ok (.newarray .boolean, 2) := by decide +kernel
theorem dX2_init_41 : decode cX2_init 41 = .ok (.putfield 24, 3) := by decide +kernel
theorem dX2_init_44 : decode cX2_init 44 = .ok (.aload_n 0, 1) := by decide +kernel
theorem dX2_init_45 : decode cX2_init 45 = .ok (.bipush 90, 2) := by decide +kernel
theorem dX2_init_47 : decode cX2_init 47 = .ok (.newarray .int, 2) := by decide +kernel
theorem dX2_init_49 : decode cX2_init 49 = .ok (.putfield 28, 3) := by decide +kernel
theorem dX2_init_52 : decode cX2_init 52 = .ok (.return_, 1) := by decide +kernel
theorem dX2_count_0 : decode cX2_count 0 = .ok (.aload_n 0, 1) := by decide +kernel
theorem dX2_count_1 : decode cX2_count 1 = .ok (.getfield 31, 3) := by decide +kernel
theorem dX2_count_4 : decode cX2_count 4 = .ok (.ireturn, 1) := by decide +kernel
theorem dX2_numbersLeft_0 : decode cX2_numbersLeft 0 = .ok (.bipush 90, 2) := by decide +kernel
theorem dX2_numbersLeft_2 : decode cX2_numbersLeft 2 = .ok (.aload_n 0, 1) := by decide +kernel
theorem dX2_numbersLeft_3 : decode cX2_numbersLeft 3 = .ok (.getfield 31, 3) := by decide +kernel
theorem dX2_numbersLeft_6 : decode cX2_numbersLeft 6 = .ok (.isub, 1) := by decide +kernel
theorem dX2_numbersLeft_7 : decode cX2_numbersLeft 7 = .ok (.ireturn, 1) := by decide +kernel
theorem dX2_add_0 : decode cX2_add 0 = .ok (.aload_n 0, 1) := by decide +kernel
theorem dX2_add_1 : decode cX2_add 1 = .ok (.getfield 31, 3) := by decide +kernel
theorem dX2_add_4 : decode cX2_add 4 = .ok (.bipush 90, 2) := by decide +kernel
theorem dX2_add_6 : decode cX2_add 6 = .ok (.if_icmp .lt 4, 3) := by decide +kernel
theorem dX2_add_9 : decode cX2_add 9 = .ok (.return_, 1) := by decide +kernel
theorem dX2_add_10 : decode cX2_add 10 = .ok (.aload_n 0, 1) := by decide +kernel
theorem dX2_add_11 : decode cX2_add 11 = .ok (.getfield 31, 3) := by decide +kernel
theorem dX2_add_14 : decode cX2_add 14 = .ok (.istore 4, 2) := by decide +kernel
theorem dX2_add_16 : decode cX2_add 16 = .ok (.aload_n 0, 1) := by decide +kernel
theorem dX2_add_17 : decode cX2_add 17 = .ok (.dup, 1) := by decide +kernel
theorem dX2_add_18 : decode cX2_add 18 = .ok (.getfield 31, 3) := by decide +kernel
theorem dX2_add_21 : decode cX2_add 21 = .ok (.iconst 1, 1) := by decide +kernel
theorem dX2_add_22 : decode cX2_add 22 = .ok (.iadd, 1) := by decide +kernel
theorem dX2_add_23 : decode cX2_add 23 = .ok (.putfield 31, 3) := by decide +kernel
theorem dX2_add_26 : decode cX2_add 26 = .ok (.aload_n 0, 1) := by decide +kernel
theorem dX2_add_27 : decode cX2_add 27 = .ok (.getfield 9, 3) := by decide +kernel
theorem dX2_add_30 : decode cX2_add 30 = .ok (.iload 4, 2) := by decide +kernel
theorem dX2_add_32 : decode cX2_add 32 = .ok (.iload_n 2, 1) := by decide +kernel
theorem dX2_add_33 : decode cX2_add 33 = .ok (.iastore, 1) := by decide +kernel
theorem dX2_add_34 : decode cX2_add 34 = .ok (.aload_n 0, 1) := by decide +kernel
theorem dX2_add_35 : decode cX2_add 35 = .ok (.getfield 15, 3) := by decide +kernel
theorem dX2_add_38 : decode cX2_add 38 = .ok (.iload 4, 2) := by decide +kernel
theorem dX2_add_40 : decode cX2_add 40 = .ok (.iload_n 3, 1) := by decide +kernel
theorem dX2_add_41 : decode cX2_add 41 = .ok (.iastore, 1) := by decide +kernel
theorem dX2_add_42 : decode cX2_add 42 = .ok (.aload_n 0, 1) := by decide +kernel
theorem dX2_add_43 : decode cX2_add 43 = .ok (.iload 4, 2) := by decide +kernel
theorem dX2_add_45 : decode cX2_add 45 = .ok (.iload_n 1, 1) := by decide +kernel
theorem dX2_add_46 : decode cX2_add 46 = .ok (.invokevirtual 35, 3) := by decide +kernel
theorem dX2_add_49 : decode cX2_add 49 = .ok (.return_, 1) := by decide +kernel
theorem dX2_give_0 : decode cX2_give 0 = .ok (.aload_n 0, 1) := by decide +kernel
theorem dX2_give_1 : decode cX2_give 1 = .ok (.getfield 18, 3) := by decide +kernel
theorem dX2_give_4 : decode cX2_give 4 = .ok (.iload_n 1, 1) := by decide +kernel
theorem dX2_give_5 : decode cX2_give 5 = .ok (.iload_n 2, 1) := by decide +kernel
theorem dX2_give_6 : decode cX2_give 6 = .ok (.iastore, 1) := by decide +kernel
theorem dX2_give_7 : decode cX2_give 7 = .ok (.aload_n 0, 1) := by decide +kernel
theorem dX2_give_8 : decode cX2_give 8 = .ok (.getfield 28, 3) := by decide +kernel
theorem dX2_give_11 : decode cX2_give 11 = .ok (.iload_n 1, 1) := by decide +kernel
theorem dX2_give_12 : decode cX2_give 12 = .ok (.iload_n 2, 1) := by decide +kernel
theorem dX2_give_13 : decode cX2_give 13 = .ok (.iastore, 1) := by decide +kernel
theorem dX2_give_14 : decode cX2_give 14 = .ok (.aload_n 0, 1) := by decide +kernel
theorem dX2_give_15 : decode cX2_give 15 = .ok (.getfield 21, 3) := by decide +kernel
theorem dX2_give_18 : decode cX2_give 18 = .ok (.iload_n 1, 1) := by decide +kernel
theorem dX2_give_19 : decode cX2_give 19 = .ok (.dup2, 1) := by decide +kernel
theorem dX2_give_20 : decode cX2_give 20 = .ok (.iaload, 1) := by decide +kernel
theorem dX2_give_21 : decode cX2_give 21 = .ok (.iconst 1, 1) := by decide +kernel
theorem dX2_give_22 : decode cX2_give 22 = .ok (.iadd, 1) := by decide +kernel
theorem dX2_give_23 : decode cX2_give 23 = .ok (.iastore, 1) := by decide +kernel
theorem dX2_give_24 : decode cX2_give 24 = .ok (.aload_n 0, 1) := by decide +kernel
theorem dX2_give_25 : decode cX2_give 25 = .ok (.getfield 24, 3) := by decide +kernel
theorem dX2_give_28 : decode cX2_give 28 = .ok (.iload_n 1, 1) := by decide +kernel
theorem dX2_give_29 : decode cX2_give 29 = .ok (.iconst 0, 1) := by decide +kernel
theorem dX2_give_30 : decode cX2_give 30 = .ok (.bastore, 1) := by decide +kernel
theorem dX2_give_31 : decode cX2_give 31 = .ok (.return_, 1) := by decide +kernel
theorem dX2_giveLightest_0 : decode cX2_giveLightest 0 = .ok (.iconst 0, 1) := by decide +kernel
theorem dX2_giveLightest_1 : decode cX2_giveLightest 1 = .ok (.istore 5, 2) := by decide +kernel
theorem dX2_giveLightest_3 : decode cX2_giveLightest 3 = .ok (.iconst 0, 1) := by decide +kernel
theorem dX2_giveLightest_4 : decode cX2_giveLightest 4 = .ok (.istore 6, 2) := by decide +kernel
theorem dX2_giveLightest_6 : decode cX2_giveLightest 6 = .ok (.iload 6, 2) := by decide +kernel
theorem dX2_giveLightest_8 : decode cX2_giveLightest 8 = .ok (.iload 4, 2) := by decide +kernel
theorem dX2_giveLightest_10 : decode cX2_giveLightest 10 = .ok (.if_icmp .ge 45, 3) := by decide +kernel
theorem dX2_giveLightest_13 : decode cX2_giveLightest 13 = .ok (.aload_n 0, 1) := by decide +kernel
theorem dX2_giveLightest_14 : decode cX2_giveLightest 14 = .ok (.iload_n 1, 1) := by decide +kernel
theorem dX2_giveLightest_15 : decode cX2_giveLightest 15 = .ok (.iload_n 3, 1) := by decide +kernel
theorem dX2_giveLightest_16 : decode cX2_giveLightest 16 = .ok (.invokevirtual 39, 3) := by decide +kernel
theorem dX2_giveLightest_19 : decode cX2_giveLightest 19 = .ok (.istore 7, 2) := by decide +kernel
theorem dX2_giveLightest_21 : decode cX2_giveLightest 21 = .ok (.iload 7, 2) := by decide +kernel
theorem dX2_giveLightest_23 : decode cX2_giveLightest 23 = .ok (.iconst (-1), 1) := by decide +kernel
theorem dX2_giveLightest_24 : decode cX2_giveLightest 24 = .ok (.if_icmp .ne 6, 3) := by decide +kernel
theorem dX2_giveLightest_27 : decode cX2_giveLightest 27 = .ok (.iload 5, 2) := by decide +kernel
theorem dX2_giveLightest_29 : decode cX2_giveLightest 29 = .ok (.ireturn, 1) := by decide +kernel
theorem dX2_giveLightest_30 : decode cX2_giveLightest 30 = .ok (.aload_n 0, 1) := by decide +kernel
theorem dX2_giveLightest_31 : decode cX2_giveLightest 31 = .ok (.iload 7, 2) := by decide +kernel
theorem dX2_giveLightest_33 : decode cX2_giveLightest 33 = .ok (.iload_n 2, 1) := by decide +kernel
theorem dX2_giveLightest_34 : decode cX2_giveLightest 34 = .ok (.invokevirtual 35, 3) := by decide +kernel
theorem dX2_giveLightest_37 : decode cX2_giveLightest 37 = .ok (.iload 5, 2) := by decide +kernel
theorem dX2_giveLightest_39 : decode cX2_giveLightest 39 = .ok (.aload_n 0, 1) := by decide +kernel
theorem dX2_giveLightest_40 : decode cX2_giveLightest 40 = .ok (.getfield 15, 3) := by decide +kernel
theorem dX2_giveLightest_43 : decode cX2_giveLightest 43 = .ok (.iload 7, 2) := by decide +kernel
theorem dX2_giveLightest_45 : decode cX2_giveLightest 45 = .ok (.iaload, 1) := by decide +kernel
theorem dX2_giveLightest_46 : decode cX2_giveLightest 46 = .ok (.iadd, 1) := by decide +kernel
theorem dX2_giveLightest_47 : decode cX2_giveLightest 47 = .ok (.istore 5, 2) := by decide +kernel
theorem dX2_giveLightest_49 : decode cX2_giveLightest 49 = .ok (.iinc 6 1, 3) := by decide +kernel
theorem dX2_giveLightest_52 : decode cX2_giveLightest 52 = .ok (.goto (-46), 3) := by decide +kernel
theorem dX2_giveLightest_55 : decode cX2_giveLightest 55 = .ok (.iload 5, 2) := by decide +kernel
theorem dX2_giveLightest_57 : decode cX2_giveLightest 57 = .ok (.ireturn, 1) := by decide +kernel
theorem dX2_giveAll_0 : decode cX2_giveAll 0 = .ok (.iconst 0, 1) := by decide +kernel
theorem dX2_giveAll_1 : decode cX2_giveAll 1 = .ok (.istore_n 3, 1) := by decide +kernel
theorem dX2_giveAll_2 : decode cX2_giveAll 2 = .ok (.iload_n 3, 1) := by decide +kernel
theorem dX2_giveAll_3 : decode cX2_giveAll 3 = .ok (.aload_n 0, 1) := by decide +kernel
theorem dX2_giveAll_4 : decode cX2_giveAll 4 = .ok (.getfield 31, 3) := by decide +kernel
theorem dX2_giveAll_7 : decode cX2_giveAll 7 = .ok (.if_icmp .ge 25, 3) := by decide +kernel
theorem dX2_giveAll_10 : decode cX2_giveAll 10 = .ok (.aload_n 0, 1) := by decide +kernel
theorem dX2_giveAll_11 : decode cX2_giveAll 11 = .ok (.getfield 18, 3) := by decide +kernel
theorem dX2_giveAll_14 : decode cX2_giveAll 14 = .ok (.iload_n 3, 1) := by decide +kernel
theorem dX2_giveAll_15 : decode cX2_giveAll 15 = .ok (.iaload, 1) := by decide +kernel
theorem dX2_giveAll_16 : decode cX2_giveAll 16 = .ok (.iload_n 1, 1) := by decide +kernel
theorem dX2_giveAll_17 : decode cX2_giveAll 17 = .ok (.if_icmp .ne 9, 3) := by decide +kernel
theorem dX2_giveAll_20 : decode cX2_giveAll 20 = .ok (.aload_n 0, 1) := by decide +kernel
theorem dX2_giveAll_21 : decode cX2_giveAll 21 = .ok (.iload_n 3, 1) := by decide +kernel
theorem dX2_giveAll_22 : decode cX2_giveAll 22 = .ok (.iload_n 2, 1) := by decide +kernel
theorem dX2_giveAll_23 : decode cX2_giveAll 23 = .ok (.invokevirtual 35, 3) := by decide +kernel
theorem dX2_giveAll_26 : decode cX2_giveAll 26 = .ok (.iinc 3 1, 3) := by decide +kernel
theorem dX2_giveAll_29 : decode cX2_giveAll 29 = .ok (.goto (-27), 3) := by decide +kernel
theorem dX2_giveAll_32 : decode cX2_giveAll 32 = .ok (.return_, 1) := by decide +kernel
theorem dX2_melt_0 : decode cX2_melt 0 = .ok (.iconst 0, 1) := by decide +kernel
theorem dX2_melt_1 : decode cX2_melt 1 = .ok (.istore_n 3, 1) := by decide +kernel
theorem dX2_melt_2 : decode cX2_melt 2 = .ok (.iconst 0, 1) := by decide +kernel
theorem dX2_melt_3 : decode cX2_melt 3 = .ok (.istore 4, 2) := by decide +kernel
theorem dX2_melt_5 : decode cX2_melt 5 = .ok (.iload 4, 2) := by decide +kernel
theorem dX2_melt_7 : decode cX2_melt 7 = .ok (.aload_n 0, 1) := by decide +kernel
theorem dX2_melt_8 : decode cX2_melt 8 = .ok (.getfield 31, 3) := by decide +kernel
theorem dX2_melt_11 : decode cX2_melt 11 = .ok (.if_icmp .ge 46, 3) := by decide +kernel
theorem dX2_melt_14 : decode cX2_melt 14 = .ok (.aload_n 0, 1) := by decide +kernel
theorem dX2_melt_15 : decode cX2_melt 15 = .ok (.iload 4, 2) := by decide +kernel
theorem dX2_melt_17 : decode cX2_melt 17 = .ok (.iload_n 1, 1) := by decide +kernel
theorem dX2_melt_18 : decode cX2_melt 18 = .ok (.iload_n 2, 1) := by decide +kernel
theorem dX2_melt_19 : decode cX2_melt 19 = .ok (.invokevirtual 43, 3) := by decide +kernel
theorem dX2_melt_22 : decode cX2_melt 22 = .ok (.ifCond .eq 29, 3) := by decide +kernel
theorem dX2_melt_25 : decode cX2_melt 25 = .ok (.iload_n 3, 1) := by decide +kernel
theorem dX2_melt_26 : decode cX2_melt 26 = .ok (.aload_n 0, 1) := by decide +kernel
theorem dX2_melt_27 : decode cX2_melt 27 = .ok (.getfield 15, 3) := by decide +kernel
theorem dX2_melt_30 : decode cX2_melt 30 = .ok (.iload 4, 2) := by decide +kernel
theorem dX2_melt_32 : decode cX2_melt 32 = .ok (.iaload, 1) := by decide +kernel
theorem dX2_melt_33 : decode cX2_melt 33 = .ok (.iadd, 1) := by decide +kernel
theorem dX2_melt_34 : decode cX2_melt 34 = .ok (.istore_n 3, 1) := by decide +kernel
theorem dX2_melt_35 : decode cX2_melt 35 = .ok (.aload_n 0, 1) := by decide +kernel
theorem dX2_melt_36 : decode cX2_melt 36 = .ok (.getfield 15, 3) := by decide +kernel
theorem dX2_melt_39 : decode cX2_melt 39 = .ok (.iload 4, 2) := by decide +kernel
theorem dX2_melt_41 : decode cX2_melt 41 = .ok (.iconst 0, 1) := by decide +kernel
theorem dX2_melt_42 : decode cX2_melt 42 = .ok (.iastore, 1) := by decide +kernel
theorem dX2_melt_43 : decode cX2_melt 43 = .ok (.aload_n 0, 1) := by decide +kernel
theorem dX2_melt_44 : decode cX2_melt 44 = .ok (.getfield 18, 3) := by decide +kernel
theorem dX2_melt_47 : decode cX2_melt 47 = .ok (.iload 4, 2) := by decide +kernel
theorem dX2_melt_49 : decode cX2_melt 49 = .ok (.iconst (-1), 1) := by decide +kernel
theorem dX2_melt_50 : decode cX2_melt 50 = .ok (.iastore, 1) := by decide +kernel
theorem dX2_melt_51 : decode cX2_melt 51 = .ok (.iinc 4 1, 3) := by decide +kernel
theorem dX2_melt_54 : decode cX2_melt 54 = .ok (.goto (-49), 3) := by decide +kernel
theorem dX2_melt_57 : decode cX2_melt 57 = .ok (.iload_n 3, 1) := by decide +kernel
theorem dX2_melt_58 : decode cX2_melt 58 = .ok (.ireturn, 1) := by decide +kernel
theorem dX2_lighten_0 : decode cX2_lighten 0 = .ok (.aload_n 0, 1) := by decide +kernel
theorem dX2_lighten_1 : decode cX2_lighten 1 = .ok (.getfield 15, 3) := by decide +kernel
theorem dX2_lighten_4 : decode cX2_lighten 4 = .ok (.iload_n 1, 1) := by decide +kernel
theorem dX2_lighten_5 : decode cX2_lighten 5 = .ok (.dup2, 1) := by decide +kernel
theorem dX2_lighten_6 : decode cX2_lighten 6 = .ok (.iaload, 1) := by decide +kernel
theorem dX2_lighten_7 : decode cX2_lighten 7 = .ok (.iload_n 2, 1) := by decide +kernel
theorem dX2_lighten_8 : decode cX2_lighten 8 = .ok (.isub, 1) := by decide +kernel
theorem dX2_lighten_9 : decode cX2_lighten 9 = .ok (.iastore, 1) := by decide +kernel
theorem dX2_lighten_10 : decode cX2_lighten 10 = .ok (.return_, 1) := by decide +kernel
theorem dX2_setHoarded_0 : decode cX2_setHoarded 0 = .ok (.aload_n 0, 1) := by decide +kernel
theorem dX2_setHoarded_1 : decode cX2_setHoarded 1 = .ok (.getfield 24, 3) := by decide +kernel
theorem dX2_setHoarded_4 : decode cX2_setHoarded 4 = .ok (.iload_n 1, 1) := by decide +kernel
theorem dX2_setHoarded_5 : decode cX2_setHoarded 5 = .ok (.iload_n 2, 1) := by decide +kernel
theorem dX2_setHoarded_6 : decode cX2_setHoarded 6 = .ok (.bastore, 1) := by decide +kernel
theorem dX2_setHoarded_7 : decode cX2_setHoarded 7 = .ok (.return_, 1) := by decide +kernel
theorem dX2_metal_0 : decode cX2_metal 0 = .ok (.aload_n 0, 1) := by decide +kernel
theorem dX2_metal_1 : decode cX2_metal 1 = .ok (.getfield 9, 3) := by decide +kernel
theorem dX2_metal_4 : decode cX2_metal 4 = .ok (.iload_n 1, 1) := by decide +kernel
theorem dX2_metal_5 : decode cX2_metal 5 = .ok (.iaload, 1) := by decide +kernel
theorem dX2_metal_6 : decode cX2_metal 6 = .ok (.ireturn, 1) := by decide +kernel
theorem dX2_weight_0 : decode cX2_weight 0 = .ok (.aload_n 0, 1) := by decide +kernel
theorem dX2_weight_1 : decode cX2_weight 1 = .ok (.getfield 15, 3) := by decide +kernel
theorem dX2_weight_4 : decode cX2_weight 4 = .ok (.iload_n 1, 1) := by decide +kernel
theorem dX2_weight_5 : decode cX2_weight 5 = .ok (.iaload, 1) := by decide +kernel
theorem dX2_weight_6 : decode cX2_weight 6 = .ok (.ireturn, 1) := by decide +kernel
theorem dX2_owner_0 : decode cX2_owner 0 = .ok (.aload_n 0, 1) := by decide +kernel
theorem dX2_owner_1 : decode cX2_owner 1 = .ok (.getfield 18, 3) := by decide +kernel
theorem dX2_owner_4 : decode cX2_owner 4 = .ok (.iload_n 1, 1) := by decide +kernel
theorem dX2_owner_5 : decode cX2_owner 5 = .ok (.iaload, 1) := by decide +kernel
theorem dX2_owner_6 : decode cX2_owner 6 = .ok (.ireturn, 1) := by decide +kernel
theorem dX2_ownerCount_0 : decode cX2_ownerCount 0 = .ok (.aload_n 0, 1) := by decide +kernel
theorem dX2_ownerCount_1 : decode cX2_ownerCount 1 = .ok (.getfield 21, 3) := by decide +kernel
theorem dX2_ownerCount_4 : decode cX2_ownerCount 4 = .ok (.iload_n 1, 1) := by decide +kernel
theorem dX2_ownerCount_5 : decode cX2_ownerCount 5 = .ok (.iaload, 1) := by decide +kernel
theorem dX2_ownerCount_6 : decode cX2_ownerCount 6 = .ok (.ireturn, 1) := by decide +kernel
theorem dX2_isHoarded_0 : decode cX2_isHoarded 0 = .ok (.aload_n 0, 1) := by decide +kernel
theorem dX2_isHoarded_1 : decode cX2_isHoarded 1 = .ok (.getfield 24, 3) := by decide +kernel
theorem dX2_isHoarded_4 : decode cX2_isHoarded 4 = .ok (.iload_n 1, 1) := by decide +kernel
theorem dX2_isHoarded_5 : decode cX2_isHoarded 5 = .ok (.baload, 1) := by decide +kernel
theorem dX2_isHoarded_6 : decode cX2_isHoarded 6 = .ok (.ireturn, 1) := by decide +kernel
theorem dX2_owned_0 : decode cX2_owned 0 = .ok (.iconst 0, 1) := by decide +kernel
theorem dX2_owned_1 : decode cX2_owned 1 = .ok (.istore_n 3, 1) := by decide +kernel
theorem dX2_owned_2 : decode cX2_owned 2 = .ok (.iconst 0, 1) := by decide +kernel
theorem dX2_owned_3 : decode cX2_owned 3 = .ok (.istore 4, 2) := by decide +kernel
theorem dX2_owned_5 : decode cX2_owned 5 = .ok (.iload 4, 2) := by decide +kernel
theorem dX2_owned_7 : decode cX2_owned 7 = .ok (.aload_n 0, 1) := by decide +kernel
theorem dX2_owned_8 : decode cX2_owned 8 = .ok (.getfield 31, 3) := by decide +kernel
theorem dX2_owned_11 : decode cX2_owned 11 = .ok (.if_icmp .ge 34, 3) := by decide +kernel
theorem dX2_owned_14 : decode cX2_owned 14 = .ok (.aload_n 0, 1) := by decide +kernel
theorem dX2_owned_15 : decode cX2_owned 15 = .ok (.getfield 18, 3) := by decide +kernel
theorem dX2_owned_18 : decode cX2_owned 18 = .ok (.iload 4, 2) := by decide +kernel
theorem dX2_owned_20 : decode cX2_owned 20 = .ok (.iaload, 1) := by decide +kernel
theorem dX2_owned_21 : decode cX2_owned 21 = .ok (.iload_n 1, 1) := by decide +kernel
theorem dX2_owned_22 : decode cX2_owned 22 = .ok (.if_icmp .ne 17, 3) := by decide +kernel
theorem dX2_owned_25 : decode cX2_owned 25 = .ok (.aload_n 0, 1) := by decide +kernel
theorem dX2_owned_26 : decode cX2_owned 26 = .ok (.getfield 9, 3) := by decide +kernel
theorem dX2_owned_29 : decode cX2_owned 29 = .ok (.iload 4, 2) := by decide +kernel
theorem dX2_owned_31 : decode cX2_owned 31 = .ok (.iaload, 1) := by decide +kernel
theorem dX2_owned_32 : decode cX2_owned 32 = .ok (.iload_n 2, 1) := by decide +kernel
theorem dX2_owned_33 : decode cX2_owned 33 = .ok (.if_icmp .ne 6, 3) := by decide +kernel
theorem dX2_owned_36 : decode cX2_owned 36 = .ok (.iinc 3 1, 3) := by decide +kernel
theorem dX2_owned_39 : decode cX2_owned 39 = .ok (.iinc 4 1, 3) := by decide +kernel
theorem dX2_owned_42 : decode cX2_owned 42 = .ok (.goto (-37), 3) := by decide +kernel
theorem dX2_owned_45 : decode cX2_owned 45 = .ok (.iload_n 3, 1) := by decide +kernel
theorem dX2_owned_46 : decode cX2_owned 46 = .ok (.ireturn, 1) := by decide +kernel
theorem dX2_loose_0 : decode cX2_loose 0 = .ok (.iconst 0, 1) := by decide +kernel
theorem dX2_loose_1 : decode cX2_loose 1 = .ok (.istore_n 3, 1) := by decide +kernel
theorem dX2_loose_2 : decode cX2_loose 2 = .ok (.iconst 0, 1) := by decide +kernel
theorem dX2_loose_3 : decode cX2_loose 3 = .ok (.istore 4, 2) := by decide +kernel
theorem dX2_loose_5 : decode cX2_loose 5 = .ok (.iload 4, 2) := by decide +kernel
theorem dX2_loose_7 : decode cX2_loose 7 = .ok (.aload_n 0, 1) := by decide +kernel
theorem dX2_loose_8 : decode cX2_loose 8 = .ok (.getfield 31, 3) := by decide +kernel
theorem dX2_loose_11 : decode cX2_loose 11 = .ok (.if_icmp .ge 23, 3) := by decide +kernel
theorem dX2_loose_14 : decode cX2_loose 14 = .ok (.aload_n 0, 1) := by decide +kernel
theorem dX2_loose_15 : decode cX2_loose 15 = .ok (.iload 4, 2) := by decide +kernel
theorem dX2_loose_17 : decode cX2_loose 17 = .ok (.iload_n 1, 1) := by decide +kernel
theorem dX2_loose_18 : decode cX2_loose 18 = .ok (.iload_n 2, 1) := by decide +kernel
theorem dX2_loose_19 : decode cX2_loose 19 = .ok (.invokevirtual 43, 3) := by decide +kernel
theorem dX2_loose_22 : decode cX2_loose 22 = .ok (.ifCond .eq 6, 3) := by decide +kernel
theorem dX2_loose_25 : decode cX2_loose 25 = .ok (.iinc 3 1, 3) := by decide +kernel
theorem dX2_loose_28 : decode cX2_loose 28 = .ok (.iinc 4 1, 3) := by decide +kernel
theorem dX2_loose_31 : decode cX2_loose 31 = .ok (.goto (-26), 3) := by decide +kernel
theorem dX2_loose_34 : decode cX2_loose 34 = .ok (.iload_n 3, 1) := by decide +kernel
theorem dX2_loose_35 : decode cX2_loose 35 = .ok (.ireturn, 1) := by decide +kernel
theorem dX2_unmelted_0 : decode cX2_unmelted 0 = .ok (.iconst 0, 1) := by decide +kernel
theorem dX2_unmelted_1 : decode cX2_unmelted 1 = .ok (.istore_n 1, 1) := by decide +kernel
theorem dX2_unmelted_2 : decode cX2_unmelted 2 = .ok (.iconst 0, 1) := by decide +kernel
theorem dX2_unmelted_3 : decode cX2_unmelted 3 = .ok (.istore_n 2, 1) := by decide +kernel
theorem dX2_unmelted_4 : decode cX2_unmelted 4 = .ok (.iload_n 2, 1) := by decide +kernel
theorem dX2_unmelted_5 : decode cX2_unmelted 5 = .ok (.aload_n 0, 1) := by decide +kernel
theorem dX2_unmelted_6 : decode cX2_unmelted 6 = .ok (.getfield 31, 3) := by decide +kernel
theorem dX2_unmelted_9 : decode cX2_unmelted 9 = .ok (.if_icmp .ge 22, 3) := by decide +kernel
theorem dX2_unmelted_12 : decode cX2_unmelted 12 = .ok (.aload_n 0, 1) := by decide +kernel
theorem dX2_unmelted_13 : decode cX2_unmelted 13 = .ok (.getfield 18, 3) := by decide +kernel
theorem dX2_unmelted_16 : decode cX2_unmelted 16 = .ok (.iload_n 2, 1) := by decide +kernel
theorem dX2_unmelted_17 : decode cX2_unmelted 17 = .ok (.iaload, 1) := by decide +kernel
theorem dX2_unmelted_18 : decode cX2_unmelted 18 = .ok (.iconst (-1), 1) := by decide +kernel
theorem dX2_unmelted_19 : decode cX2_unmelted 19 = .ok (.if_icmp .eq 6, 3) := by decide +kernel
theorem dX2_unmelted_22 : decode cX2_unmelted 22 = .ok (.iinc 1 1, 3) := by decide +kernel
theorem dX2_unmelted_25 : decode cX2_unmelted 25 = .ok (.iinc 2 1, 3) := by decide +kernel
theorem dX2_unmelted_28 : decode cX2_unmelted 28 = .ok (.goto (-24), 3) := by decide +kernel
theorem dX2_unmelted_31 : decode cX2_unmelted 31 = .ok (.iload_n 1, 1) := by decide +kernel
theorem dX2_unmelted_32 : decode cX2_unmelted 32 = .ok (.ireturn, 1) := by decide +kernel
theorem dX2_lighter_0 : decode cX2_lighter 0 = .ok (.iconst 0, 1) := by decide +kernel
theorem dX2_lighter_1 : decode cX2_lighter 1 = .ok (.istore_n 3, 1) := by decide +kernel
theorem dX2_lighter_2 : decode cX2_lighter 2 = .ok (.iconst 0, 1) := by decide +kernel
theorem dX2_lighter_3 : decode cX2_lighter 3 = .ok (.istore 4, 2) := by decide +kernel
theorem dX2_lighter_5 : decode cX2_lighter 5 = .ok (.iload 4, 2) := by decide +kernel
theorem dX2_lighter_7 : decode cX2_lighter 7 = .ok (.aload_n 0, 1) := by decide +kernel
theorem dX2_lighter_8 : decode cX2_lighter 8 = .ok (.getfield 31, 3) := by decide +kernel
theorem dX2_lighter_11 : decode cX2_lighter 11 = .ok (.if_icmp .ge 45, 3) := by decide +kernel
theorem dX2_lighter_14 : decode cX2_lighter 14 = .ok (.aload_n 0, 1) := by decide +kernel
theorem dX2_lighter_15 : decode cX2_lighter 15 = .ok (.getfield 18, 3) := by decide +kernel
theorem dX2_lighter_18 : decode cX2_lighter 18 = .ok (.iload 4, 2) := by decide +kernel
theorem dX2_lighter_20 : decode cX2_lighter 20 = .ok (.iaload, 1) := by decide +kernel
theorem dX2_lighter_21 : decode cX2_lighter 21 = .ok (.iconst (-1), 1) := by decide +kernel
theorem dX2_lighter_22 : decode cX2_lighter 22 = .ok (.if_icmp .eq 28, 3) := by decide +kernel
theorem dX2_lighter_25 : decode cX2_lighter 25 = .ok (.aload_n 0, 1) := by decide +kernel
theorem dX2_lighter_26 : decode cX2_lighter 26 = .ok (.getfield 9, 3) := by decide +kernel
theorem dX2_lighter_29 : decode cX2_lighter 29 = .ok (.iload 4, 2) := by decide +kernel
theorem dX2_lighter_31 : decode cX2_lighter 31 = .ok (.iaload, 1) := by decide +kernel
theorem dX2_lighter_32 : decode cX2_lighter 32 = .ok (.iload_n 1, 1) := by decide +kernel
theorem dX2_lighter_33 : decode cX2_lighter 33 = .ok (.if_icmp .ne 17, 3) := by decide +kernel
theorem dX2_lighter_36 : decode cX2_lighter 36 = .ok (.aload_n 0, 1) := by decide +kernel
theorem dX2_lighter_37 : decode cX2_lighter 37 = .ok (.getfield 15, 3) := by decide +kernel
theorem dX2_lighter_40 : decode cX2_lighter 40 = .ok (.iload 4, 2) := by decide +kernel
theorem dX2_lighter_42 : decode cX2_lighter 42 = .ok (.iaload, 1) := by decide +kernel
theorem dX2_lighter_43 : decode cX2_lighter 43 = .ok (.iload_n 2, 1) := by decide +kernel
theorem dX2_lighter_44 : decode cX2_lighter 44 = .ok (.if_icmp .ge 6, 3) := by decide +kernel
theorem dX2_lighter_47 : decode cX2_lighter 47 = .ok (.iinc 3 1, 3) := by decide +kernel
theorem dX2_lighter_50 : decode cX2_lighter 50 = .ok (.iinc 4 1, 3) := by decide +kernel
theorem dX2_lighter_53 : decode cX2_lighter 53 = .ok (.goto (-48), 3) := by decide +kernel
theorem dX2_lighter_56 : decode cX2_lighter 56 = .ok (.iload_n 3, 1) := by decide +kernel
theorem dX2_lighter_57 : decode cX2_lighter 57 = .ok (.ireturn, 1) := by decide +kernel
theorem dX2_weightOfAll_0 : decode cX2_weightOfAll 0 = .ok (.iconst 0, 1) := by decide +kernel
theorem dX2_weightOfAll_1 : decode cX2_weightOfAll 1 = .ok (.istore_n 2, 1) := by decide +kernel
theorem dX2_weightOfAll_2 : decode cX2_weightOfAll 2 = .ok (.iconst 0, 1) := by decide +kernel
theorem dX2_weightOfAll_3 : decode cX2_weightOfAll 3 = .ok (.istore_n 3, 1) := by decide +kernel
theorem dX2_weightOfAll_4 : decode cX2_weightOfAll 4 = .ok (.iload_n 3, 1) := by decide +kernel
theorem dX2_weightOfAll_5 : decode cX2_weightOfAll 5 = .ok (.aload_n 0, 1) := by decide +kernel
theorem dX2_weightOfAll_6 : decode cX2_weightOfAll 6 = .ok (.getfield 31, 3) := by decide +kernel
theorem dX2_weightOfAll_9 : decode cX2_weightOfAll 9 = .ok (.if_icmp .ge 28, 3) := by decide +kernel
theorem dX2_weightOfAll_12 : decode cX2_weightOfAll 12 = .ok (.aload_n 0, 1) := by decide +kernel
theorem dX2_weightOfAll_13 : decode cX2_weightOfAll 13 = .ok (.getfield 9, 3) := by decide +kernel
theorem dX2_weightOfAll_16 : decode cX2_weightOfAll 16 = .ok (.iload_n 3, 1) := by decide +kernel
theorem dX2_weightOfAll_17 : decode cX2_weightOfAll 17 = .ok (.iaload, 1) := by decide +kernel
theorem dX2_weightOfAll_18 : decode cX2_weightOfAll 18 = .ok (.iload_n 1, 1) := by decide +kernel
theorem dX2_weightOfAll_19 : decode cX2_weightOfAll 19 = .ok (.if_icmp .ne 12, 3) := by decide +kernel
theorem dX2_weightOfAll_22 : decode cX2_weightOfAll 22 = .ok (.iload_n 2, 1) := by decide +kernel
theorem dX2_weightOfAll_23 : decode cX2_weightOfAll 23 = .ok (.aload_n 0, 1) := by decide +kernel
theorem dX2_weightOfAll_24 : decode cX2_weightOfAll 24 = .ok (.getfield 15, 3) := by decide +kernel
theorem dX2_weightOfAll_27 : decode cX2_weightOfAll 27 = .ok (.iload_n 3, 1) := by decide +kernel
theorem dX2_weightOfAll_28 : decode cX2_weightOfAll 28 = .ok (.iaload, 1) := by decide +kernel
theorem dX2_weightOfAll_29 : decode cX2_weightOfAll 29 = .ok (.iadd, 1) := by decide +kernel
theorem dX2_weightOfAll_30 : decode cX2_weightOfAll 30 = .ok (.istore_n 2, 1) := by decide +kernel
theorem dX2_weightOfAll_31 : decode cX2_weightOfAll 31 = .ok (.iinc 3 1, 3) := by decide +kernel
theorem dX2_weightOfAll_34 : decode cX2_weightOfAll 34 = .ok (.goto (-30), 3) := by decide +kernel
theorem dX2_weightOfAll_37 : decode cX2_weightOfAll 37 = .ok (.iload_n 2, 1) := by decide +kernel
theorem dX2_weightOfAll_38 : decode cX2_weightOfAll 38 = .ok (.ireturn, 1) := by decide +kernel
theorem dX2_areWhereGiven_0 : decode cX2_areWhereGiven 0 = .ok (.iconst 0, 1) := by decide +kernel
theorem dX2_areWhereGiven_1 : decode cX2_areWhereGiven 1 = .ok (.istore_n 1, 1) := by decide +kernel
theorem dX2_areWhereGiven_2 : decode cX2_areWhereGiven 2 = .ok (.iload_n 1, 1) := by decide +kernel
theorem dX2_areWhereGiven_3 : decode cX2_areWhereGiven 3 = .ok (.aload_n 0, 1) := by decide +kernel
theorem dX2_areWhereGiven_4 : decode cX2_areWhereGiven 4 = .ok (.getfield 31, 3) := by decide +kernel
theorem dX2_areWhereGiven_7 : decode cX2_areWhereGiven 7 = .ok (.if_icmp .ge 36, 3) := by decide +kernel
theorem dX2_areWhereGiven_10 : decode cX2_areWhereGiven 10 = .ok (.aload_n 0, 1) := by decide +kernel
theorem dX2_areWhereGiven_11 : decode cX2_areWhereGiven 11 = .ok (.getfield 18, 3) := by decide +kernel
theorem dX2_areWhereGiven_14 : decode cX2_areWhereGiven 14 = .ok (.iload_n 1, 1) := by decide +kernel
theorem dX2_areWhereGiven_15 : decode cX2_areWhereGiven 15 = .ok (.iaload, 1) := by decide +kernel
theorem dX2_areWhereGiven_16 : decode cX2_areWhereGiven 16 = .ok (.iconst (-1), 1) := by decide +kernel
theorem dX2_areWhereGiven_17 : decode cX2_areWhereGiven 17 = .ok (.if_icmp .eq 20, 3) := by decide +kernel
theorem dX2_areWhereGiven_20 : decode cX2_areWhereGiven 20 = .ok (.aload_n 0, 1) := by decide +kernel
theorem dX2_areWhereGiven_21 : decode cX2_areWhereGiven 21 = .ok (.getfield 18, 3) := by decide +kernel
theorem dX2_areWhereGiven_24 : decode cX2_areWhereGiven 24 = .ok (.iload_n 1, 1) := by decide +kernel
theorem dX2_areWhereGiven_25 : decode cX2_areWhereGiven 25 = .ok (.iaload, 1) := by decide +kernel
theorem dX2_areWhereGiven_26 : decode cX2_areWhereGiven 26 = .ok (.aload_n 0, 1) := by decide +kernel
theorem dX2_areWhereGiven_27 : decode cX2_areWhereGiven 27 = .ok (.getfield 28, 3) := by decide +kernel
theorem dX2_areWhereGiven_30 : decode cX2_areWhereGiven 30 = .ok (.iload_n 1, 1) := by decide +kernel
theorem dX2_areWhereGiven_31 : decode cX2_areWhereGiven 31 = .ok (.iaload, 1) := by decide +kernel
theorem dX2_areWhereGiven_32 : decode cX2_areWhereGiven 32 = .ok (.if_icmp .eq 5, 3) := by decide +kernel
theorem dX2_areWhereGiven_35 : decode cX2_areWhereGiven 35 = .ok (.iconst 0, 1) := by decide +kernel
theorem dX2_areWhereGiven_36 : decode cX2_areWhereGiven 36 = .ok (.ireturn, 1) := by decide +kernel
theorem dX2_areWhereGiven_37 : decode cX2_areWhereGiven 37 = .ok (.iinc 1 1, 3) := by decide +kernel
theorem dX2_areWhereGiven_40 : decode cX2_areWhereGiven 40 = .ok (.goto (-38), 3) := by decide +kernel
theorem dX2_areWhereGiven_43 : decode cX2_areWhereGiven 43 = .ok (.iconst 1, 1) := by decide +kernel
theorem dX2_areWhereGiven_44 : decode cX2_areWhereGiven 44 = .ok (.ireturn, 1) := by decide +kernel
theorem dX2_heaviest_0 : decode cX2_heaviest 0 = .ok (.iconst (-1), 1) := by decide +kernel
theorem dX2_heaviest_1 : decode cX2_heaviest 1 = .ok (.istore_n 2, 1) := by decide +kernel
theorem dX2_heaviest_2 : decode cX2_heaviest 2 = .ok (.iconst 0, 1) := by decide +kernel
theorem dX2_heaviest_3 : decode cX2_heaviest 3 = .ok (.istore_n 3, 1) := by decide +kernel
theorem dX2_heaviest_4 : decode cX2_heaviest 4 = .ok (.iload_n 3, 1) := by decide +kernel
theorem dX2_heaviest_5 : decode cX2_heaviest 5 = .ok (.aload_n 0, 1) := by decide +kernel
theorem dX2_heaviest_6 : decode cX2_heaviest 6 = .ok (.getfield 31, 3) := by decide +kernel
theorem dX2_heaviest_9 : decode cX2_heaviest 9 = .ok (.if_icmp .ge 35, 3) := by decide +kernel
theorem dX2_heaviest_12 : decode cX2_heaviest 12 = .ok (.aload_n 0, 1) := by decide +kernel
theorem dX2_heaviest_13 : decode cX2_heaviest 13 = .ok (.getfield 18, 3) := by decide +kernel
theorem dX2_heaviest_16 : decode cX2_heaviest 16 = .ok (.iload_n 3, 1) := by decide +kernel
theorem dX2_heaviest_17 : decode cX2_heaviest 17 = .ok (.iaload, 1) := by decide +kernel
theorem dX2_heaviest_18 : decode cX2_heaviest 18 = .ok (.iload_n 1, 1) := by decide +kernel
theorem dX2_heaviest_19 : decode cX2_heaviest 19 = .ok (.if_icmp .ne 19, 3) := by decide +kernel
theorem dX2_heaviest_22 : decode cX2_heaviest 22 = .ok (.iload_n 2, 1) := by decide +kernel
theorem dX2_heaviest_23 : decode cX2_heaviest 23 = .ok (.iconst (-1), 1) := by decide +kernel
theorem dX2_heaviest_24 : decode cX2_heaviest 24 = .ok (.if_icmp .eq 12, 3) := by decide +kernel
theorem dX2_heaviest_27 : decode cX2_heaviest 27 = .ok (.aload_n 0, 1) := by decide +kernel
theorem dX2_heaviest_28 : decode cX2_heaviest 28 = .ok (.iload_n 3, 1) := by decide +kernel
theorem dX2_heaviest_29 : decode cX2_heaviest 29 = .ok (.iload_n 2, 1) := by decide +kernel
theorem dX2_heaviest_30 : decode cX2_heaviest 30 = .ok (.invokevirtual 47, 3) := by decide +kernel
theorem dX2_heaviest_33 : decode cX2_heaviest 33 = .ok (.ifCond .eq 5, 3) := by decide +kernel
theorem dX2_heaviest_36 : decode cX2_heaviest 36 = .ok (.iload_n 3, 1) := by decide +kernel
theorem dX2_heaviest_37 : decode cX2_heaviest 37 = .ok (.istore_n 2, 1) := by decide +kernel
theorem dX2_heaviest_38 : decode cX2_heaviest 38 = .ok (.iinc 3 1, 3) := by decide +kernel
theorem dX2_heaviest_41 : decode cX2_heaviest 41 = .ok (.goto (-37), 3) := by decide +kernel
theorem dX2_heaviest_44 : decode cX2_heaviest 44 = .ok (.iload_n 2, 1) := by decide +kernel
theorem dX2_heaviest_45 : decode cX2_heaviest 45 = .ok (.ireturn, 1) := by decide +kernel
theorem dX2_isAhead_0 : decode cX2_isAhead 0 = .ok (.aload_n 0, 1) := by decide +kernel
theorem dX2_isAhead_1 : decode cX2_isAhead 1 = .ok (.getfield 15, 3) := by decide +kernel
theorem dX2_isAhead_4 : decode cX2_isAhead 4 = .ok (.iload_n 1, 1) := by decide +kernel
theorem dX2_isAhead_5 : decode cX2_isAhead 5 = .ok (.iaload, 1) := by decide +kernel
theorem dX2_isAhead_6 : decode cX2_isAhead 6 = .ok (.aload_n 0, 1) := by decide +kernel
theorem dX2_isAhead_7 : decode cX2_isAhead 7 = .ok (.getfield 15, 3) := by decide +kernel
theorem dX2_isAhead_10 : decode cX2_isAhead 10 = .ok (.iload_n 2, 1) := by decide +kernel
theorem dX2_isAhead_11 : decode cX2_isAhead 11 = .ok (.iaload, 1) := by decide +kernel
theorem dX2_isAhead_12 : decode cX2_isAhead 12 = .ok (.if_icmp .eq 24, 3) := by decide +kernel
theorem dX2_isAhead_15 : decode cX2_isAhead 15 = .ok (.aload_n 0, 1) := by decide +kernel
theorem dX2_isAhead_16 : decode cX2_isAhead 16 = .ok (.getfield 15, 3) := by decide +kernel
theorem dX2_isAhead_19 : decode cX2_isAhead 19 = .ok (.iload_n 1, 1) := by decide +kernel
theorem dX2_isAhead_20 : decode cX2_isAhead 20 = .ok (.iaload, 1) := by decide +kernel
theorem dX2_isAhead_21 : decode cX2_isAhead 21 = .ok (.aload_n 0, 1) := by decide +kernel
theorem dX2_isAhead_22 : decode cX2_isAhead 22 = .ok (.getfield 15, 3) := by decide +kernel
theorem dX2_isAhead_25 : decode cX2_isAhead 25 = .ok (.iload_n 2, 1) := by decide +kernel
theorem dX2_isAhead_26 : decode cX2_isAhead 26 = .ok (.iaload, 1) := by decide +kernel
theorem dX2_isAhead_27 : decode cX2_isAhead 27 = .ok (.if_icmp .le 7, 3) := by decide +kernel
theorem dX2_isAhead_30 : decode cX2_isAhead 30 = .ok (.iconst 1, 1) := by decide +kernel
theorem dX2_isAhead_31 : decode cX2_isAhead 31 = .ok (.goto 4, 3) := by decide +kernel
theorem dX2_isAhead_34 : decode cX2_isAhead 34 = .ok (.iconst 0, 1) := by decide +kernel
theorem dX2_isAhead_35 : decode cX2_isAhead 35 = .ok (.ireturn, 1) := by decide +kernel
theorem dX2_isAhead_36 : decode cX2_isAhead 36 = .ok (.aload_n 0, 1) := by decide +kernel
theorem dX2_isAhead_37 : decode cX2_isAhead 37 = .ok (.getfield 9, 3) := by decide +kernel
theorem dX2_isAhead_40 : decode cX2_isAhead 40 = .ok (.iload_n 1, 1) := by decide +kernel
theorem dX2_isAhead_41 : decode cX2_isAhead 41 = .ok (.iaload, 1) := by decide +kernel
theorem dX2_isAhead_42 : decode cX2_isAhead 42 = .ok (.ifCond .ne 17, 3) := by decide +kernel
theorem dX2_isAhead_45 : decode cX2_isAhead 45 = .ok (.aload_n 0, 1) := by decide +kernel
theorem dX2_isAhead_46 : decode cX2_isAhead 46 = .ok (.getfield 9, 3) := by decide +kernel
theorem dX2_isAhead_49 : decode cX2_isAhead 49 = .ok (.iload_n 2, 1) := by decide +kernel
theorem dX2_isAhead_50 : decode cX2_isAhead 50 = .ok (.iaload, 1) := by decide +kernel
theorem dX2_isAhead_51 : decode cX2_isAhead 51 = .ok (.iconst 1, 1) := by decide +kernel
theorem dX2_isAhead_52 : decode cX2_isAhead 52 = .ok (.if_icmp .ne 7, 3) := by decide +kernel
theorem dX2_isAhead_55 : decode cX2_isAhead 55 = .ok (.iconst 1, 1) := by decide +kernel
theorem dX2_isAhead_56 : decode cX2_isAhead 56 = .ok (.goto 4, 3) := by decide +kernel
theorem dX2_isAhead_59 : decode cX2_isAhead 59 = .ok (.iconst 0, 1) := by decide +kernel
theorem dX2_isAhead_60 : decode cX2_isAhead 60 = .ok (.ireturn, 1) := by decide +kernel
theorem dX2_lightest_0 : decode cX2_lightest 0 = .ok (.iconst (-1), 1) := by decide +kernel
theorem dX2_lightest_1 : decode cX2_lightest 1 = .ok (.istore_n 3, 1) := by decide +kernel
theorem dX2_lightest_2 : decode cX2_lightest 2 = .ok (.iconst 0, 1) := by decide +kernel
theorem dX2_lightest_3 : decode cX2_lightest 3 = .ok (.istore 4, 2) := by decide +kernel
theorem dX2_lightest_5 : decode cX2_lightest 5 = .ok (.iload 4, 2) := by decide +kernel
theorem dX2_lightest_7 : decode cX2_lightest 7 = .ok (.aload_n 0, 1) := by decide +kernel
theorem dX2_lightest_8 : decode cX2_lightest 8 = .ok (.getfield 31, 3) := by decide +kernel
theorem dX2_lightest_11 : decode cX2_lightest 11 = .ok (.if_icmp .ge 44, 3) := by decide +kernel
theorem dX2_lightest_14 : decode cX2_lightest 14 = .ok (.aload_n 0, 1) := by decide +kernel
theorem dX2_lightest_15 : decode cX2_lightest 15 = .ok (.iload 4, 2) := by decide +kernel
theorem dX2_lightest_17 : decode cX2_lightest 17 = .ok (.iload_n 1, 1) := by decide +kernel
theorem dX2_lightest_18 : decode cX2_lightest 18 = .ok (.iload_n 2, 1) := by decide +kernel
theorem dX2_lightest_19 : decode cX2_lightest 19 = .ok (.invokevirtual 43, 3) := by decide +kernel
theorem dX2_lightest_22 : decode cX2_lightest 22 = .ok (.ifCond .eq 27, 3) := by decide +kernel
theorem dX2_lightest_25 : decode cX2_lightest 25 = .ok (.iload_n 3, 1) := by decide +kernel
theorem dX2_lightest_26 : decode cX2_lightest 26 = .ok (.iconst (-1), 1) := by decide +kernel
theorem dX2_lightest_27 : decode cX2_lightest 27 = .ok (.if_icmp .eq 19, 3) := by decide +kernel
theorem dX2_lightest_30 : decode cX2_lightest 30 = .ok (.aload_n 0, 1) := by decide +kernel
theorem dX2_lightest_31 : decode cX2_lightest 31 = .ok (.getfield 15, 3) := by decide +kernel
theorem dX2_lightest_34 : decode cX2_lightest 34 = .ok (.iload 4, 2) := by decide +kernel
theorem dX2_lightest_36 : decode cX2_lightest 36 = .ok (.iaload, 1) := by decide +kernel
theorem dX2_lightest_37 : decode cX2_lightest 37 = .ok (.aload_n 0, 1) := by decide +kernel
theorem dX2_lightest_38 : decode cX2_lightest 38 = .ok (.getfield 15, 3) := by decide +kernel
theorem dX2_lightest_41 : decode cX2_lightest 41 = .ok (.iload_n 3, 1) := by decide +kernel
theorem dX2_lightest_42 : decode cX2_lightest 42 = .ok (.iaload, 1) := by decide +kernel
theorem dX2_lightest_43 : decode cX2_lightest 43 = .ok (.if_icmp .ge 6, 3) := by decide +kernel
theorem dX2_lightest_46 : decode cX2_lightest 46 = .ok (.iload 4, 2) := by decide +kernel
theorem dX2_lightest_48 : decode cX2_lightest 48 = .ok (.istore_n 3, 1) := by decide +kernel
theorem dX2_lightest_49 : decode cX2_lightest 49 = .ok (.iinc 4 1, 3) := by decide +kernel
theorem dX2_lightest_52 : decode cX2_lightest 52 = .ok (.goto (-47), 3) := by decide +kernel
theorem dX2_lightest_55 : decode cX2_lightest 55 = .ok (.iload_n 3, 1) := by decide +kernel
theorem dX2_lightest_56 : decode cX2_lightest 56 = .ok (.ireturn, 1) := by decide +kernel
theorem dX2_isLoose_0 : decode cX2_isLoose 0 = .ok (.aload_n 0, 1) := by decide +kernel
theorem dX2_isLoose_1 : decode cX2_isLoose 1 = .ok (.getfield 18, 3) := by decide +kernel
theorem dX2_isLoose_4 : decode cX2_isLoose 4 = .ok (.iload_n 1, 1) := by decide +kernel
theorem dX2_isLoose_5 : decode cX2_isLoose 5 = .ok (.iaload, 1) := by decide +kernel
theorem dX2_isLoose_6 : decode cX2_isLoose 6 = .ok (.iload_n 2, 1) := by decide +kernel
theorem dX2_isLoose_7 : decode cX2_isLoose 7 = .ok (.if_icmp .ne 26, 3) := by decide +kernel
theorem dX2_isLoose_10 : decode cX2_isLoose 10 = .ok (.aload_n 0, 1) := by decide +kernel
theorem dX2_isLoose_11 : decode cX2_isLoose 11 = .ok (.getfield 9, 3) := by decide +kernel
theorem dX2_isLoose_14 : decode cX2_isLoose 14 = .ok (.iload_n 1, 1) := by decide +kernel
theorem dX2_isLoose_15 : decode cX2_isLoose 15 = .ok (.iaload, 1) := by decide +kernel
theorem dX2_isLoose_16 : decode cX2_isLoose 16 = .ok (.iload_n 3, 1) := by decide +kernel
theorem dX2_isLoose_17 : decode cX2_isLoose 17 = .ok (.if_icmp .ne 16, 3) := by decide +kernel
theorem dX2_isLoose_20 : decode cX2_isLoose 20 = .ok (.aload_n 0, 1) := by decide +kernel
theorem dX2_isLoose_21 : decode cX2_isLoose 21 = .ok (.getfield 24, 3) := by decide +kernel
theorem dX2_isLoose_24 : decode cX2_isLoose 24 = .ok (.iload_n 1, 1) := by decide +kernel
theorem dX2_isLoose_25 : decode cX2_isLoose 25 = .ok (.baload, 1) := by decide +kernel
theorem dX2_isLoose_26 : decode cX2_isLoose 26 = .ok (.ifCond .ne 7, 3) := by decide +kernel
theorem dX2_isLoose_29 : decode cX2_isLoose 29 = .ok (.iconst 1, 1) := by decide +kernel
theorem dX2_isLoose_30 : decode cX2_isLoose 30 = .ok (.goto 4, 3) := by decide +kernel
theorem dX2_isLoose_33 : decode cX2_isLoose 33 = .ok (.iconst 0, 1) := by decide +kernel
theorem dX2_isLoose_34 : decode cX2_isLoose 34 = .ok (.ireturn, 1) := by decide +kernel
theorem dX3_init_0 : decode cX3_init 0 = .ok (.aload_n 0, 1) := by decide +kernel
theorem dX3_init_1 : decode cX3_init 1 = .ok (.invokespecial 3, 3) := by decide +kernel
theorem dX3_init_4 : decode cX3_init 4 = .ok (.aload_n 0, 1) := by decide +kernel
theorem dX3_init_5 : decode cX3_init 5 = .ok (.bipush 6, 2) := by decide +kernel
theorem dX3_init_7 : decode cX3_init 7 = .ok (.newarray .char, 2) := by decide +kernel
theorem dX3_init_9 : decode cX3_init 9 = .ok (.putfield 9, 3) := by decide +kernel
theorem dX3_init_12 : decode cX3_init 12 = .ok (.aload_n 0, 1) := by decide +kernel
theorem dX3_init_13 : decode cX3_init 13 = .ok (.bipush 6, 2) := by decide +kernel
theorem dX3_init_15 : decode cX3_init 15 = .ok (.newarray .boolean, 2) := by decide +kernel
theorem dX3_init_17 : decode cX3_init 17 = .ok (.putfield 15, 3) := by decide +kernel
theorem dX3_init_20 : decode cX3_init 20 = .ok (.return_, 1) := by decide +kernel
theorem dX3_count_0 : decode cX3_count 0 = .ok (.aload_n 0, 1) := by decide +kernel
theorem dX3_count_1 : decode cX3_count 1 = .ok (.getfield 19, 3) := by decide +kernel
theorem dX3_count_4 : decode cX3_count 4 = .ok (.ireturn, 1) := by decide +kernel
theorem dX3_open_0 : decode cX3_open 0 = .ok (.aload_n 0, 1) := by decide +kernel
theorem dX3_open_1 : decode cX3_open 1 = .ok (.getfield 19, 3) := by decide +kernel
theorem dX3_open_4 : decode cX3_open 4 = .ok (.bipush 6, 2) := by decide +kernel
theorem dX3_open_6 : decode cX3_open 6 = .ok (.if_icmp .lt 5, 3) := by decide +kernel
theorem dX3_open_9 : decode cX3_open 9 = .ok (.iconst (-1), 1) := by decide +kernel
theorem dX3_open_10 : decode cX3_open 10 = .ok (.ireturn, 1) := by decide +kernel
theorem dX3_open_11 : decode cX3_open 11 = .ok (.aload_n 0, 1) := by decide +kernel
theorem dX3_open_12 : decode cX3_open 12 = .ok (.getfield 9, 3) := by decide +kernel
theorem dX3_open_15 : decode cX3_open 15 = .ok (.aload_n 0, 1) := by decide +kernel
theorem dX3_open_16 : decode cX3_open 16 = .ok (.getfield 19, 3) := by decide +kernel
theorem dX3_open_19 : decode cX3_open 19 = .ok (.iload_n 1, 1) := by decide +kernel
theorem dX3_open_20 : decode cX3_open 20 = .ok (.castore, 1) := by decide +kernel
theorem dX3_open_21 : decode cX3_open 21 = .ok (.aload_n 0, 1) := by decide +kernel
theorem dX3_open_22 : decode cX3_open 22 = .ok (.getfield 15, 3) := by decide +kernel
theorem dX3_open_25 : decode cX3_open 25 = .ok (.aload_n 0, 1) := by decide +kernel
theorem dX3_open_26 : decode cX3_open 26 = .ok (.getfield 19, 3) := by decide +kernel
theorem dX3_open_29 : decode cX3_open 29 = .ok (.iconst 1, 1) := by decide +kernel
theorem dX3_open_30 : decode cX3_open 30 = .ok (.bastore, 1) := by decide +kernel
theorem dX3_open_31 : decode cX3_open 31 = .ok (.aload_n 0, 1) := by decide +kernel
theorem dX3_open_32 : decode cX3_open 32 = .ok (.dup, 1) := by decide +kernel
theorem dX3_open_33 : decode cX3_open 33 = .ok (.getfield 19, 3) := by decide +kernel
theorem dX3_open_36 : decode cX3_open 36 = .ok (.iconst 1, 1) := by decide +kernel
theorem dX3_open_37 : decode cX3_open 37 = .ok (.iadd, 1) := by decide +kernel
theorem dX3_open_38 : decode cX3_open 38 = .ok (.putfield 19, 3) := by decide +kernel
theorem dX3_open_41 : decode cX3_open 41 = .ok (.aload_n 0, 1) := by decide +kernel
theorem dX3_open_42 : decode cX3_open 42 = .ok (.getfield 19, 3) := by decide +kernel
theorem dX3_open_45 : decode cX3_open 45 = .ok (.iconst 1, 1) := by decide +kernel
theorem dX3_open_46 : decode cX3_open 46 = .ok (.isub, 1) := by decide +kernel
theorem dX3_open_47 : decode cX3_open 47 = .ok (.ireturn, 1) := by decide +kernel
theorem dX3_close_0 : decode cX3_close 0 = .ok (.aload_n 0, 1) := by decide +kernel
theorem dX3_close_1 : decode cX3_close 1 = .ok (.getfield 15, 3) := by decide +kernel
theorem dX3_close_4 : decode cX3_close 4 = .ok (.iload_n 1, 1) := by decide +kernel
theorem dX3_close_5 : decode cX3_close 5 = .ok (.iconst 0, 1) := by decide +kernel
theorem dX3_close_6 : decode cX3_close 6 = .ok (.bastore, 1) := by decide +kernel
theorem dX3_close_7 : decode cX3_close 7 = .ok (.return_, 1) := by decide +kernel
theorem dX3_kind_0 : decode cX3_kind 0 = .ok (.aload_n 0, 1) := by decide +kernel
theorem dX3_kind_1 : decode cX3_kind 1 = .ok (.getfield 9, 3) := by decide +kernel
theorem dX3_kind_4 : decode cX3_kind 4 = .ok (.iload_n 1, 1) := by decide +kernel
theorem dX3_kind_5 : decode cX3_kind 5 = .ok (.caload, 1) := by decide +kernel
theorem dX3_kind_6 : decode cX3_kind 6 = .ok (.ireturn, 1) := by decide +kernel
theorem dX3_isOpen_0 : decode cX3_isOpen 0 = .ok (.aload_n 0, 1) := by decide +kernel
theorem dX3_isOpen_1 : decode cX3_isOpen 1 = .ok (.getfield 15, 3) := by decide +kernel
theorem dX3_isOpen_4 : decode cX3_isOpen 4 = .ok (.iload_n 1, 1) := by decide +kernel
theorem dX3_isOpen_5 : decode cX3_isOpen 5 = .ok (.baload, 1) := by decide +kernel
theorem dX3_isOpen_6 : decode cX3_isOpen 6 = .ok (.ireturn, 1) := by decide +kernel
theorem dX4_init_0 : decode cX4_init 0 = .ok (.aload_n 0, 1) := by decide +kernel
theorem dX4_init_1 : decode cX4_init 1 = .ok (.invokespecial 3, 3) := by decide +kernel
theorem dX4_init_4 : decode cX4_init 4 = .ok (.aload_n 0, 1) := by decide +kernel
theorem dX4_init_5 : decode cX4_init 5 = .ok (.iconst 2, 1) := by decide +kernel
theorem dX4_init_6 : decode cX4_init 6 = .ok (.newarray .int, 2) := by decide +kernel
theorem dX4_init_8 : decode cX4_init 8 = .ok (.dup, 1) := by decide +kernel
theorem dX4_init_9 : decode cX4_init 9 = .ok (.iconst 0, 1) := by decide +kernel
theorem dX4_init_10 : decode cX4_init 10 = .ok (.bipush 10, 2) := by decide +kernel
theorem dX4_init_12 : decode cX4_init 12 = .ok (.iastore, 1) := by decide +kernel
theorem dX4_init_13 : decode cX4_init 13 = .ok (.dup, 1) := by decide +kernel
theorem dX4_init_14 : decode cX4_init 14 = .ok (.iconst 1, 1) := by decide +kernel
theorem dX4_init_15 : decode cX4_init 15 = .ok (.iconst 1, 1) := by decide +kernel
theorem dX4_init_16 : decode cX4_init 16 = .ok (.iastore, 1) := by decide +kernel
theorem dX4_init_17 : decode cX4_init 17 = .ok (.putfield 9, 3) := by decide +kernel
theorem dX4_init_20 : decode cX4_init 20 = .ok (.aload_n 0, 1) := by decide +kernel
theorem dX4_init_21 : decode cX4_init 21 = .ok (.iconst 2, 1) := by decide +kernel
theorem dX4_init_22 : decode cX4_init 22 = .ok (.newarray .int, 2) := by decide +kernel
theorem dX4_init_24 : decode cX4_init 24 = .ok (.dup, 1) := by decide +kernel
theorem dX4_init_25 : decode cX4_init 25 = .ok (.iconst 0, 1) := by decide +kernel
theorem dX4_init_26 : decode cX4_init 26 = .ok (.iconst 5, 1) := by decide +kernel
theorem dX4_init_27 : decode cX4_init 27 = .ok (.iastore, 1) := by decide +kernel
theorem dX4_init_28 : decode cX4_init 28 = .ok (.dup, 1) := by decide +kernel
theorem dX4_init_29 : decode cX4_init 29 = .ok (.iconst 1, 1) := by decide +kernel
theorem dX4_init_30 : decode cX4_init 30 = .ok (.iconst 5, 1) := by decide +kernel
theorem dX4_init_31 : decode cX4_init 31 = .ok (.iastore, 1) := by decide +kernel
theorem dX4_init_32 : decode cX4_init 32 = .ok (.putfield 15, 3) := by decide +kernel
theorem dX4_init_35 : decode cX4_init 35 = .ok (.aload_n 0, 1) := by decide +kernel
theorem dX4_init_36 : decode cX4_init 36 = .ok (.iconst 2, 1) := by decide +kernel
theorem dX4_init_37 : decode cX4_init 37 = .ok (.newarray .int, 2) := by decide +kernel
theorem dX4_init_39 : decode cX4_init 39 = .ok (.putfield 18, 3) := by decide +kernel
theorem dX4_init_42 : decode cX4_init 42 = .ok (.aload_n 0, 1) := by decide +kernel
theorem dX4_init_43 : decode cX4_init 43 = .ok (.bipush 12, 2) := by decide +kernel
theorem dX4_init_45 : decode cX4_init 45 = .ok (.newarray .int, 2) := by decide +kernel
theorem dX4_init_47 : decode cX4_init 47 = .ok (.putfield 21, 3) := by decide +kernel
theorem dX4_init_50 : decode cX4_init 50 = .ok (.return_, 1) := by decide +kernel
theorem dX4_face_0 : decode cX4_face 0 = .ok (.aload_n 0, 1) := by decide +kernel
theorem dX4_face_1 : decode cX4_face 1 = .ok (.getfield 9, 3) := by decide +kernel
theorem dX4_face_4 : decode cX4_face 4 = .ok (.iload_n 1, 1) := by decide +kernel
theorem dX4_face_5 : decode cX4_face 5 = .ok (.iaload, 1) := by decide +kernel
theorem dX4_face_6 : decode cX4_face 6 = .ok (.ireturn, 1) := by decide +kernel
theorem dX4_fullWeight_0 : decode cX4_fullWeight 0 = .ok (.aload_n 0, 1) := by decide +kernel
theorem dX4_fullWeight_1 : decode cX4_fullWeight 1 = .ok (.getfield 15, 3) := by decide +kernel
theorem dX4_fullWeight_4 : decode cX4_fullWeight 4 = .ok (.iload_n 1, 1) := by decide +kernel
theorem dX4_fullWeight_5 : decode cX4_fullWeight 5 = .ok (.iaload, 1) := by decide +kernel
theorem dX4_fullWeight_6 : decode cX4_fullWeight 6 = .ok (.ireturn, 1) := by decide +kernel
theorem dX4_tell_0 : decode cX4_tell 0 = .ok (.aload_n 0, 1) := by decide +kernel
theorem dX4_tell_1 : decode cX4_tell 1 = .ok (.getfield 9, 3) := by decide +kernel
theorem dX4_tell_4 : decode cX4_tell 4 = .ok (.iload_n 1, 1) := by decide +kernel
theorem dX4_tell_5 : decode cX4_tell 5 = .ok (.iload_n 2, 1) := by decide +kernel
theorem dX4_tell_6 : decode cX4_tell 6 = .ok (.iastore, 1) := by decide +kernel
theorem dX4_tell_7 : decode cX4_tell 7 = .ok (.aload_n 0, 1) := by decide +kernel
theorem dX4_tell_8 : decode cX4_tell 8 = .ok (.getfield 15, 3) := by decide +kernel
theorem dX4_tell_11 : decode cX4_tell 11 = .ok (.iload_n 1, 1) := by decide +kernel
theorem dX4_tell_12 : decode cX4_tell 12 = .ok (.iload_n 3, 1) := by decide +kernel
theorem dX4_tell_13 : decode cX4_tell 13 = .ok (.iastore, 1) := by decide +kernel
theorem dX4_tell_14 : decode cX4_tell 14 = .ok (.return_, 1) := by decide +kernel
theorem dX4_oreOf_0 : decode cX4_oreOf 0 = .ok (.aload_n 0, 1) := by decide +kernel
theorem dX4_oreOf_1 : decode cX4_oreOf 1 = .ok (.getfield 21, 3) := by decide +kernel
theorem dX4_oreOf_4 : decode cX4_oreOf 4 = .ok (.iload_n 1, 1) := by decide +kernel
theorem dX4_oreOf_5 : decode cX4_oreOf 5 = .ok (.iconst 2, 1) := by decide +kernel
theorem dX4_oreOf_6 : decode cX4_oreOf 6 = .ok (.imul, 1) := by decide +kernel
theorem dX4_oreOf_7 : decode cX4_oreOf 7 = .ok (.iload_n 2, 1) := by decide +kernel
theorem dX4_oreOf_8 : decode cX4_oreOf 8 = .ok (.iadd, 1) := by decide +kernel
theorem dX4_oreOf_9 : decode cX4_oreOf 9 = .ok (.iaload, 1) := by decide +kernel
theorem dX4_oreOf_10 : decode cX4_oreOf 10 = .ok (.ireturn, 1) := by decide +kernel
theorem dX4_addOre_0 : decode cX4_addOre 0 = .ok (.aload_n 0, 1) := by decide +kernel
theorem dX4_addOre_1 : decode cX4_addOre 1 = .ok (.getfield 21, 3) := by decide +kernel
theorem dX4_addOre_4 : decode cX4_addOre 4 = .ok (.iload_n 1, 1) := by decide +kernel
theorem dX4_addOre_5 : decode cX4_addOre 5 = .ok (.iconst 2, 1) := by decide +kernel
theorem dX4_addOre_6 : decode cX4_addOre 6 = .ok (.imul, 1) := by decide +kernel
theorem dX4_addOre_7 : decode cX4_addOre 7 = .ok (.iload_n 2, 1) := by decide +kernel
theorem dX4_addOre_8 : decode cX4_addOre 8 = .ok (.iadd, 1) := by decide +kernel
theorem dX4_addOre_9 : decode cX4_addOre 9 = .ok (.dup2, 1) := by decide +kernel
theorem dX4_addOre_10 : decode cX4_addOre 10 = .ok (.iaload, 1) := by decide +kernel
theorem dX4_addOre_11 : decode cX4_addOre 11 = .ok (.iload_n 3, 1) := by decide +kernel
theorem dX4_addOre_12 : decode cX4_addOre 12 = .ok (.iadd, 1) := by decide +kernel
theorem dX4_addOre_13 : decode cX4_addOre 13 = .ok (.iastore, 1) := by decide +kernel
theorem dX4_addOre_14 : decode cX4_addOre 14 = .ok (.return_, 1) := by decide +kernel
theorem dX4_unearth_0 : decode cX4_unearth 0 = .ok (.aload_n 0, 1) := by decide +kernel
theorem dX4_unearth_1 : decode cX4_unearth 1 = .ok (.iload_n 1, 1) := by decide +kernel
theorem dX4_unearth_2 : decode cX4_unearth 2 = .ok (.iload_n 2, 1) := by decide +kernel
theorem dX4_unearth_3 : decode cX4_unearth 3 = .ok (.iload_n 3, 1) := by decide +kernel
theorem dX4_unearth_4 : decode cX4_unearth 4 = .ok (.invokevirtual 24, 3) := by decide +kernel
theorem dX4_unearth_7 : decode cX4_unearth 7 = .ok (.aload_n 0, 1) := by decide +kernel
theorem dX4_unearth_8 : decode cX4_unearth 8 = .ok (.getfield 18, 3) := by decide +kernel
theorem dX4_unearth_11 : decode cX4_unearth 11 = .ok (.iload_n 2, 1) := by decide +kernel
theorem dX4_unearth_12 : decode cX4_unearth 12 = .ok (.dup2, 1) := by decide +kernel
theorem dX4_unearth_13 : decode cX4_unearth 13 = .ok (.iaload, 1) := by decide +kernel
theorem dX4_unearth_14 : decode cX4_unearth 14 = .ok (.iload_n 3, 1) := by decide +kernel
theorem dX4_unearth_15 : decode cX4_unearth 15 = .ok (.iadd, 1) := by decide +kernel
theorem dX4_unearth_16 : decode cX4_unearth 16 = .ok (.iastore, 1) := by decide +kernel
theorem dX4_unearth_17 : decode cX4_unearth 17 = .ok (.return_, 1) := by decide +kernel
theorem dX4_moveOre_0 : decode cX4_moveOre 0 = .ok (.aload_n 0, 1) := by decide +kernel
theorem dX4_moveOre_1 : decode cX4_moveOre 1 = .ok (.iload_n 1, 1) := by decide +kernel
theorem dX4_moveOre_2 : decode cX4_moveOre 2 = .ok (.iload_n 3, 1) := by decide +kernel
theorem dX4_moveOre_3 : decode cX4_moveOre 3 = .ok (.invokevirtual 28, 3) := by decide +kernel
theorem dX4_moveOre_6 : decode cX4_moveOre 6 = .ok (.istore 4, 2) := by decide +kernel
theorem dX4_moveOre_8 : decode cX4_moveOre 8 = .ok (.aload_n 0, 1) := by decide +kernel
theorem dX4_moveOre_9 : decode cX4_moveOre 9 = .ok (.iload_n 1, 1) := by decide +kernel
theorem dX4_moveOre_10 : decode cX4_moveOre 10 = .ok (.iload_n 3, 1) := by decide +kernel
theorem dX4_moveOre_11 : decode cX4_moveOre 11 = .ok (.iload 4, 2) := by decide +kernel
theorem dX4_moveOre_13 : decode cX4_moveOre 13 = .ok (.ineg, 1) := by decide +kernel
theorem dX4_moveOre_14 : decode cX4_moveOre 14 = .ok (.invokevirtual 24, 3) := by decide +kernel
theorem dX4_moveOre_17 : decode cX4_moveOre 17 = .ok (.aload_n 0, 1) := by decide +kernel
theorem dX4_moveOre_18 : decode cX4_moveOre 18 = .ok (.iload_n 2, 1) := by decide +kernel
theorem dX4_moveOre_19 : decode cX4_moveOre 19 = .ok (.iload_n 3, 1) := by decide +kernel
theorem dX4_moveOre_20 : decode cX4_moveOre 20 = .ok (.iload 4, 2) := by decide +kernel
theorem dX4_moveOre_22 : decode cX4_moveOre 22 = .ok (.invokevirtual 24, 3) := by decide +kernel
theorem dX4_moveOre_25 : decode cX4_moveOre 25 = .ok (.return_, 1) := by decide +kernel
theorem dX4_dug_0 : decode cX4_dug 0 = .ok (.aload_n 0, 1) := by decide +kernel
theorem dX4_dug_1 : decode cX4_dug 1 = .ok (.getfield 18, 3) := by decide +kernel
theorem dX4_dug_4 : decode cX4_dug 4 = .ok (.iload_n 1, 1) := by decide +kernel
theorem dX4_dug_5 : decode cX4_dug 5 = .ok (.iaload, 1) := by decide +kernel
theorem dX4_dug_6 : decode cX4_dug 6 = .ok (.ireturn, 1) := by decide +kernel
theorem dX4_oreOfAll_0 : decode cX4_oreOfAll 0 = .ok (.iconst 0, 1) := by decide +kernel
theorem dX4_oreOfAll_1 : decode cX4_oreOfAll 1 = .ok (.istore_n 2, 1) := by decide +kernel
theorem dX4_oreOfAll_2 : decode cX4_oreOfAll 2 = .ok (.iconst 0, 1) := by decide +kernel
theorem dX4_oreOfAll_3 : decode cX4_oreOfAll 3 = .ok (.istore_n 3, 1) := by decide +kernel
theorem dX4_oreOfAll_4 : decode cX4_oreOfAll 4 = .ok (.iload_n 3, 1) := by decide +kernel
theorem dX4_oreOfAll_5 : decode cX4_oreOfAll 5 = .ok (.bipush 6, 2) := by decide +kernel
theorem dX4_oreOfAll_7 : decode cX4_oreOfAll 7 = .ok (.if_icmp .ge 18, 3) := by decide +kernel
theorem dX4_oreOfAll_10 : decode cX4_oreOfAll 10 = .ok (.iload_n 2, 1) := by decide +kernel
theorem dX4_oreOfAll_11 : decode cX4_oreOfAll 11 = .ok (.aload_n 0, 1) := by decide +kernel
theorem dX4_oreOfAll_12 : decode cX4_oreOfAll 12 = .ok (.iload_n 3, 1) := by decide +kernel
theorem dX4_oreOfAll_13 : decode cX4_oreOfAll 13 = .ok (.iload_n 1, 1) := by decide +kernel
theorem dX4_oreOfAll_14 : decode cX4_oreOfAll 14 = .ok (.invokevirtual 28, 3) := by decide +kernel
theorem dX4_oreOfAll_17 : decode cX4_oreOfAll 17 = .ok (.iadd, 1) := by decide +kernel
theorem dX4_oreOfAll_18 : decode cX4_oreOfAll 18 = .ok (.istore_n 2, 1) := by decide +kernel
theorem dX4_oreOfAll_19 : decode cX4_oreOfAll 19 = .ok (.iinc 3 1, 3) := by decide +kernel
theorem dX4_oreOfAll_22 : decode cX4_oreOfAll 22 = .ok (.goto (-18), 3) := by decide +kernel
theorem dX4_oreOfAll_25 : decode cX4_oreOfAll 25 = .ok (.iload_n 2, 1) := by decide +kernel
theorem dX4_oreOfAll_26 : decode cX4_oreOfAll 26 = .ok (.ireturn, 1) := by decide +kernel
theorem dX5_init_0 : decode cX5_init 0 = .ok (.aload_n 0, 1) := by decide +kernel
theorem dX5_init_1 : decode cX5_init 1 = .ok (.invokespecial 3, 3) := by decide +kernel
theorem dX5_init_4 : decode cX5_init 4 = .ok (.aload_n 0, 1) := by decide +kernel
theorem dX5_init_5 : decode cX5_init 5 = .ok (.bipush 24, 2) := by decide +kernel
theorem dX5_init_7 : decode cX5_init 7 = .ok (.newarray .int, 2) := by decide +kernel
theorem dX5_init_9 : decode cX5_init 9 = .ok (.putfield 9, 3) := by decide +kernel
theorem dX5_init_12 : decode cX5_init 12 = .ok (.aload_n 0, 1) := by decide +kernel
theorem dX5_init_13 : decode cX5_init 13 = .ok (.bipush 6, 2) := by decide +kernel
theorem dX5_init_15 : decode cX5_init 15 = .ok (.newarray .int, 2) := by decide +kernel
theorem dX5_init_17 : decode cX5_init 17 = .ok (.putfield 15, 3) := by decide +kernel
theorem dX5_init_20 : decode cX5_init 20 = .ok (.aload_n 0, 1) := by decide +kernel
theorem dX5_init_21 : decode cX5_init 21 = .ok (.bipush 6, 2) := by decide +kernel
theorem dX5_init_23 : decode cX5_init 23 = .ok (.newarray .int, 2) := by decide +kernel
theorem dX5_init_25 : decode cX5_init 25 = .ok (.putfield 18, 3) := by decide +kernel
theorem dX5_init_28 : decode cX5_init 28 = .ok (.return_, 1) := by decide +kernel
theorem dX5_value_0 : decode cX5_value 0 = .ok (.aload_n 0, 1) := by decide +kernel
theorem dX5_value_1 : decode cX5_value 1 = .ok (.getfield 9, 3) := by decide +kernel
theorem dX5_value_4 : decode cX5_value 4 = .ok (.iload_n 1, 1) := by decide +kernel
theorem dX5_value_5 : decode cX5_value 5 = .ok (.bipush 6, 2) := by decide +kernel
theorem dX5_value_7 : decode cX5_value 7 = .ok (.imul, 1) := by decide +kernel
theorem dX5_value_8 : decode cX5_value 8 = .ok (.iload_n 2, 1) := by decide +kernel
theorem dX5_value_9 : decode cX5_value 9 = .ok (.iadd, 1) := by decide +kernel
theorem dX5_value_10 : decode cX5_value 10 = .ok (.iaload, 1) := by decide +kernel
theorem dX5_value_11 : decode cX5_value 11 = .ok (.ireturn, 1) := by decide +kernel
theorem dX5_addValue_0 : decode cX5_addValue 0 = .ok (.aload_n 0, 1) := by decide +kernel
theorem dX5_addValue_1 : decode cX5_addValue 1 = .ok (.getfield 9, 3) := by decide +kernel
theorem dX5_addValue_4 : decode cX5_addValue 4 = .ok (.iload_n 1, 1) := by decide +kernel
theorem dX5_addValue_5 : decode cX5_addValue 5 = .ok (.bipush 6, 2) := by decide +kernel
theorem dX5_addValue_7 : decode cX5_addValue 7 = .ok (.imul, 1) := by decide +kernel
theorem dX5_addValue_8 : decode cX5_addValue 8 = .ok (.iload_n 2, 1) := by decide +kernel
theorem dX5_addValue_9 : decode cX5_addValue 9 = .ok (.iadd, 1) := by decide +kernel
theorem dX5_addValue_10 : decode cX5_addValue 10 = .ok (.dup2, 1) := by decide +kernel
theorem dX5_addValue_11 : decode cX5_addValue 11 = .ok (.iaload, 1) := by decide +kernel
theorem dX5_addValue_12 : decode cX5_addValue 12 = .ok (.iload_n 3, 1) := by decide +kernel
theorem dX5_addValue_13 : decode cX5_addValue 13 = .ok (.iadd, 1) := by decide +kernel
theorem dX5_addValue_14 : decode cX5_addValue 14 = .ok (.iastore, 1) := by decide +kernel
theorem dX5_addValue_15 : decode cX5_addValue 15 = .ok (.return_, 1) := by decide +kernel
theorem dX5_borne_0 : decode cX5_borne 0 = .ok (.aload_n 0, 1) := by decide +kernel
theorem dX5_borne_1 : decode cX5_borne 1 = .ok (.getfield 15, 3) := by decide +kernel
theorem dX5_borne_4 : decode cX5_borne 4 = .ok (.iload_n 1, 1) := by decide +kernel
theorem dX5_borne_5 : decode cX5_borne 5 = .ok (.iaload, 1) := by decide +kernel
theorem dX5_borne_6 : decode cX5_borne 6 = .ok (.ireturn, 1) := by decide +kernel
theorem dX5_part_0 : decode cX5_part 0 = .ok (.aload_n 0, 1) := by decide +kernel
theorem dX5_part_1 : decode cX5_part 1 = .ok (.iload_n 1, 1) := by decide +kernel
theorem dX5_part_2 : decode cX5_part 2 = .ok (.invokevirtual 21, 3) := by decide +kernel
theorem dX5_part_5 : decode cX5_part 5 = .ok (.istore_n 3, 1) := by decide +kernel
theorem dX5_part_6 : decode cX5_part 6 = .ok (.iload_n 3, 1) := by decide +kernel
theorem dX5_part_7 : decode cX5_part 7 = .ok (.ifCond .ne 4, 3) := by decide +kernel
theorem dX5_part_10 : decode cX5_part 10 = .ok (.return_, 1) := by decide +kernel
theorem dX5_part_11 : decode cX5_part 11 = .ok (.iload_n 2, 1) := by decide +kernel
theorem dX5_part_12 : decode cX5_part 12 = .ok (.istore 4, 2) := by decide +kernel
theorem dX5_part_14 : decode cX5_part 14 = .ok (.iconst 0, 1) := by decide +kernel
theorem dX5_part_15 : decode cX5_part 15 = .ok (.istore 5, 2) := by decide +kernel
theorem dX5_part_17 : decode cX5_part 17 = .ok (.iload 5, 2) := by decide +kernel
theorem dX5_part_19 : decode cX5_part 19 = .ok (.bipush 6, 2) := by decide +kernel
theorem dX5_part_21 : decode cX5_part 21 = .ok (.if_icmp .ge 54, 3) := by decide +kernel
theorem dX5_part_24 : decode cX5_part 24 = .ok (.iload_n 2, 1) := by decide +kernel
theorem dX5_part_25 : decode cX5_part 25 = .ok (.aload_n 0, 1) := by decide +kernel
theorem dX5_part_26 : decode cX5_part 26 = .ok (.iload_n 1, 1) := by decide +kernel
theorem dX5_part_27 : decode cX5_part 27 = .ok (.iload 5, 2) := by decide +kernel
theorem dX5_part_29 : decode cX5_part 29 = .ok (.invokevirtual 25, 3) := by decide +kernel
theorem dX5_part_32 : decode cX5_part 32 = .ok (.imul, 1) := by decide +kernel
theorem dX5_part_33 : decode cX5_part 33 = .ok (.istore 6, 2) := by decide +kernel
theorem dX5_part_35 : decode cX5_part 35 = .ok (.aload_n 0, 1) := by decide +kernel
theorem dX5_part_36 : decode cX5_part 36 = .ok (.getfield 15, 3) := by decide +kernel
theorem dX5_part_39 : decode cX5_part 39 = .ok (.iload 5, 2) := by decide +kernel
theorem dX5_part_41 : decode cX5_part 41 = .ok (.iload 6, 2) := by decide +kernel
theorem dX5_part_43 : decode cX5_part 43 = .ok (.iload_n 3, 1) := by decide +kernel
theorem dX5_part_44 : decode cX5_part 44 = .ok (.idiv, 1) := by decide +kernel
theorem dX5_part_45 : decode cX5_part 45 = .ok (.iastore, 1) := by decide +kernel
theorem dX5_part_46 : decode cX5_part 46 = .ok (.aload_n 0, 1) := by decide +kernel
theorem dX5_part_47 : decode cX5_part 47 = .ok (.getfield 18, 3) := by decide +kernel
theorem dX5_part_50 : decode cX5_part 50 = .ok (.iload 5, 2) := by decide +kernel
theorem dX5_part_52 : decode cX5_part 52 = .ok (.iload 6, 2) := by decide +kernel
theorem dX5_part_54 : decode cX5_part 54 = .ok (.iload_n 3, 1) := by decide +kernel
theorem dX5_part_55 : decode cX5_part 55 = .ok (.irem, 1) := by decide +kernel
theorem dX5_part_56 : decode cX5_part 56 = .ok (.iastore, 1) := by decide +kernel
theorem dX5_part_57 : decode cX5_part 57 = .ok (.iload 4, 2) := by decide +kernel
theorem dX5_part_59 : decode cX5_part 59 = .ok (.aload_n 0, 1) := by decide +kernel
theorem dX5_part_60 : decode cX5_part 60 = .ok (.getfield 15, 3) := by decide +kernel
theorem dX5_part_63 : decode cX5_part 63 = .ok (.iload 5, 2) := by decide +kernel
theorem dX5_part_65 : decode cX5_part 65 = .ok (.iaload, 1) := by decide +kernel
theorem dX5_part_66 : decode cX5_part 66 = .ok (.isub, 1) := by decide +kernel
theorem dX5_part_67 : decode cX5_part 67 = .ok (.istore 4, 2) := by decide +kernel
theorem dX5_part_69 : decode cX5_part 69 = .ok (.iinc 5 1, 3) := by decide +kernel
theorem dX5_part_72 : decode cX5_part 72 = .ok (.goto (-55), 3) := by decide +kernel
theorem dX5_part_75 : decode cX5_part 75 = .ok (.iconst 0, 1) := by decide +kernel
theorem dX5_part_76 : decode cX5_part 76 = .ok (.istore 5, 2) := by decide +kernel
theorem dX5_part_78 : decode cX5_part 78 = .ok (.iload 5, 2) := by decide +kernel
theorem dX5_part_80 : decode cX5_part 80 = .ok (.iload 4, 2) := by decide +kernel
theorem dX5_part_82 : decode cX5_part 82 = .ok (.if_icmp .ge 41, 3) := by decide +kernel
theorem dX5_part_85 : decode cX5_part 85 = .ok (.iload 5, 2) := by decide +kernel
theorem dX5_part_87 : decode cX5_part 87 = .ok (.bipush 6, 2) := by decide +kernel
theorem dX5_part_89 : decode cX5_part 89 = .ok (.if_icmp .ge 34, 3) := by decide +kernel
theorem dX5_part_92 : decode cX5_part 92 = .ok (.aload_n 0, 1) := by decide +kernel
theorem dX5_part_93 : decode cX5_part 93 = .ok (.invokevirtual 29, 3) := by decide +kernel
theorem dX5_part_96 : decode cX5_part 96 = .ok (.istore 6, 2) := by decide +kernel
theorem dX5_part_98 : decode cX5_part 98 = .ok (.aload_n 0, 1) := by decide +kernel
theorem dX5_part_99 : decode cX5_part 99 = .ok (.getfield 15, 3) := by decide +kernel
theorem dX5_part_102 : decode cX5_part 102 = .ok (.iload 6, 2) := by decide +kernel
theorem dX5_part_104 : decode cX5_part 104 = .ok (.dup2, 1) := by decide +kernel
theorem dX5_part_105 : decode cX5_part 105 = .ok (.iaload, 1) := by decide +kernel
theorem dX5_part_106 : decode cX5_part 106 = .ok (.iconst 1, 1) := by decide +kernel
theorem dX5_part_107 : decode cX5_part 107 = .ok (.iadd, 1) := by decide +kernel
theorem dX5_part_108 : decode cX5_part 108 = .ok (.iastore, 1) := by decide +kernel
theorem dX5_part_109 : decode cX5_part 109 = .ok (.aload_n 0, 1) := by decide +kernel
theorem dX5_part_110 : decode cX5_part 110 = .ok (.getfield 18, 3) := by decide +kernel
theorem dX5_part_113 : decode cX5_part 113 = .ok (.iload 6, 2) := by decide +kernel
theorem dX5_part_115 : decode cX5_part 115 = .ok (.iconst (-1), 1) := by decide +kernel
theorem dX5_part_116 : decode cX5_part 116 = .ok (.iastore, 1) := by decide +kernel
theorem dX5_part_117 : decode cX5_part 117 = .ok (.iinc 5 1, 3) := by decide +kernel
theorem dX5_part_120 : decode cX5_part 120 = .ok (.goto (-42), 3) := by decide +kernel
theorem dX5_part_123 : decode cX5_part 123 = .ok (.return_, 1) := by decide +kernel
theorem dX5_valueOfAll_0 : decode cX5_valueOfAll 0 = .ok (.iconst 0, 1) := by decide +kernel
theorem dX5_valueOfAll_1 : decode cX5_valueOfAll 1 = .ok (.istore_n 2, 1) := by decide +kernel
theorem dX5_valueOfAll_2 : decode cX5_valueOfAll 2 = .ok (.iconst 0, 1) := by decide +kernel
theorem dX5_valueOfAll_3 : decode cX5_valueOfAll 3 = .ok (.istore_n 3, 1) := by decide +kernel
theorem dX5_valueOfAll_4 : decode cX5_valueOfAll 4 = .ok (.iload_n 3, 1) := by decide +kernel
theorem dX5_valueOfAll_5 : decode cX5_valueOfAll 5 = .ok (.bipush 6, 2) := by decide +kernel
theorem dX5_valueOfAll_7 : decode cX5_valueOfAll 7 = .ok (.if_icmp .ge 18, 3) := by decide +kernel
theorem dX5_valueOfAll_10 : decode cX5_valueOfAll 10 = .ok (.iload_n 2, 1) := by decide +kernel
theorem dX5_valueOfAll_11 : decode cX5_valueOfAll 11 = .ok (.aload_n 0, 1) := by decide +kernel
theorem dX5_valueOfAll_12 : decode cX5_valueOfAll 12 = .ok (.iload_n 1, 1) := by decide +kernel
theorem dX5_valueOfAll_13 : decode cX5_valueOfAll 13 = .ok (.iload_n 3, 1) := by decide +kernel
theorem dX5_valueOfAll_14 : decode cX5_valueOfAll 14 = .ok (.invokevirtual 25, 3) := by decide +kernel
theorem dX5_valueOfAll_17 : decode cX5_valueOfAll 17 = .ok (.iadd, 1) := by decide +kernel
theorem dX5_valueOfAll_18 : decode cX5_valueOfAll 18 = .ok (.istore_n 2, 1) := by decide +kernel
theorem dX5_valueOfAll_19 : decode cX5_valueOfAll 19 = .ok (.iinc 3 1, 3) := by decide +kernel
theorem dX5_valueOfAll_22 : decode cX5_valueOfAll 22 = .ok (.goto (-18), 3) := by decide +kernel
theorem dX5_valueOfAll_25 : decode cX5_valueOfAll 25 = .ok (.iload_n 2, 1) := by decide +kernel
theorem dX5_valueOfAll_26 : decode cX5_valueOfAll 26 = .ok (.ireturn, 1) := by decide +kernel
theorem dX5_greatestRemainder_0 : decode cX5_greatestRemainder 0 = .ok (.iconst 0, 1) := by decide +kernel
theorem dX5_greatestRemainder_1 : decode cX5_greatestRemainder 1 = .ok (.istore_n 1, 1) := by decide +kernel
theorem dX5_greatestRemainder_2 : decode cX5_greatestRemainder 2 = .ok (.iconst 1, 1) := by decide +kernel
theorem dX5_greatestRemainder_3 : decode cX5_greatestRemainder 3 = .ok (.istore_n 2, 1) := by decide +kernel
theorem dX5_greatestRemainder_4 : decode cX5_greatestRemainder 4 = .ok (.iload_n 2, 1) := by decide +kernel
theorem dX5_greatestRemainder_5 : decode cX5_greatestRemainder 5 = .ok (.bipush 6, 2) := by decide +kernel
theorem dX5_greatestRemainder_7 : decode cX5_greatestRemainder 7 = .ok (.if_icmp .ge 26, 3) := by decide +kernel
theorem dX5_greatestRemainder_10 : decode cX5_greatestRemainder 10 = .ok (.aload_n 0, 1) := by decide +kernel
theorem dX5_greatestRemainder_11 : decode cX5_greatestRemainder 11 = .ok (.getfield 18, 3) := by decide +kernel
theorem dX5_greatestRemainder_14 : decode cX5_greatestRemainder 14 = .ok (.iload_n 2, 1) := by decide +kernel
theorem dX5_greatestRemainder_15 : decode cX5_greatestRemainder 15 = .ok (.iaload, 1) := by decide +kernel
theorem dX5_greatestRemainder_16 : decode cX5_greatestRemainder 16 = .ok (.aload_n 0, 1) := by decide +kernel
theorem dX5_greatestRemainder_17 : decode cX5_greatestRemainder 17 = .ok (.getfield 18, 3) := by decide +kernel
theorem dX5_greatestRemainder_20 : decode cX5_greatestRemainder 20 = .ok (.iload_n 1, 1) := by decide +kernel
theorem dX5_greatestRemainder_21 : decode cX5_greatestRemainder 21 = .ok (.iaload, 1) := by decide +kernel
theorem dX5_greatestRemainder_22 : decode cX5_greatestRemainder 22 = .ok (.if_icmp .le 5, 3) := by decide +kernel
theorem dX5_greatestRemainder_25 : decode cX5_greatestRemainder 25 = .ok (.iload_n 2, 1) := by decide +kernel
theorem dX5_greatestRemainder_26 : decode cX5_greatestRemainder 26 = .ok (.istore_n 1, 1) := by decide +kernel
theorem dX5_greatestRemainder_27 : decode cX5_greatestRemainder 27 = .ok (.iinc 2 1, 3) := by decide +kernel
theorem dX5_greatestRemainder_30 : decode cX5_greatestRemainder 30 = .ok (.goto (-26), 3) := by decide +kernel
theorem dX5_greatestRemainder_33 : decode cX5_greatestRemainder 33 = .ok (.iload_n 1, 1) := by decide +kernel
theorem dX5_greatestRemainder_34 : decode cX5_greatestRemainder 34 = .ok (.ireturn, 1) := by decide +kernel
theorem dX6_init_0 : decode cX6_init 0 = .ok (.aload_n 0, 1) := by decide +kernel
theorem dX6_init_1 : decode cX6_init 1 = .ok (.invokespecial 1, 3) := by decide +kernel
theorem dX6_init_4 : decode cX6_init 4 = .ok (.aload_n 0, 1) := by decide +kernel
theorem dX6_init_5 : decode cX6_init 5 = .ok (.new 7, 3) := by decide +kernel
theorem dX6_init_8 : decode cX6_init 8 = .ok (.dup, 1) := by decide +kernel
theorem dX6_init_9 : decode cX6_init 9 = .ok (.invokespecial 9, 3) := by decide +kernel
theorem dX6_init_12 : decode cX6_init 12 = .ok (.putfield 10, 3) := by decide +kernel
theorem dX6_init_15 : decode cX6_init 15 = .ok (.aload_n 0, 1) := by decide +kernel
theorem dX6_init_16 : decode cX6_init 16 = .ok (.new 16, 3) := by decide +kernel
theorem dX6_init_19 : decode cX6_init 19 = .ok (.dup, 1) := by decide +kernel
theorem dX6_init_20 : decode cX6_init 20 = .ok (.invokespecial 18, 3) := by decide +kernel
theorem dX6_init_23 : decode cX6_init 23 = .ok (.putfield 19, 3) := by decide +kernel
theorem dX6_init_26 : decode cX6_init 26 = .ok (.aload_n 0, 1) := by decide +kernel
theorem dX6_init_27 : decode cX6_init 27 = .ok (.new 23, 3) := by decide +kernel
theorem dX6_init_30 : decode cX6_init 30 = .ok (.dup, 1) := by decide +kernel
theorem dX6_init_31 : decode cX6_init 31 = .ok (.invokespecial 25, 3) := by decide +kernel
theorem dX6_init_34 : decode cX6_init 34 = .ok (.putfield 26, 3) := by decide +kernel
theorem dX6_init_37 : decode cX6_init 37 = .ok (.aload_n 0, 1) := by decide +kernel
theorem dX6_init_38 : decode cX6_init 38 = .ok (.new 30, 3) := by decide +kernel
theorem dX6_init_41 : decode cX6_init 41 = .ok (.dup, 1) := by decide +kernel
theorem dX6_init_42 : decode cX6_init 42 = .ok (.invokespecial 32, 3) := by decide +kernel
theorem dX6_init_45 : decode cX6_init 45 = .ok (.putfield 33, 3) := by decide +kernel
theorem dX6_init_48 : decode cX6_init 48 = .ok (.aload_n 0, 1) := by decide +kernel
theorem dX6_init_49 : decode cX6_init 49 = .ok (.new 37, 3) := by decide +kernel
theorem dX6_init_52 : decode cX6_init 52 = .ok (.dup, 1) := by decide +kernel
theorem dX6_init_53 : decode cX6_init 53 = .ok (.invokespecial 39, 3) := by decide +kernel
theorem dX6_init_56 : decode cX6_init 56 = .ok (.putfield 40, 3) := by decide +kernel
theorem dX6_init_59 : decode cX6_init 59 = .ok (.aload_n 0, 1) := by decide +kernel
theorem dX6_init_60 : decode cX6_init 60 = .ok (.new 44, 3) := by decide +kernel
theorem dX6_init_63 : decode cX6_init 63 = .ok (.dup, 1) := by decide +kernel
theorem dX6_init_64 : decode cX6_init 64 = .ok (.invokespecial 46, 3) := by decide +kernel
theorem dX6_init_67 : decode cX6_init 67 = .ok (.putfield 47, 3) := by decide +kernel
theorem dX6_init_70 : decode cX6_init 70 = .ok (.aload_n 0, 1) := by decide +kernel
theorem dX6_init_71 : decode cX6_init 71 = .ok (.getfield 10, 3) := by decide +kernel
theorem dX6_init_74 : decode cX6_init 74 = .ok (.bipush 99, 2) := by decide +kernel
theorem dX6_init_76 : decode cX6_init 76 = .ok (.invokevirtual 51, 3) := by decide +kernel
theorem dX6_init_79 : decode cX6_init 79 = .ok (.pop, 1) := by decide +kernel
theorem dX6_init_80 : decode cX6_init 80 = .ok (.return_, 1) := by decide +kernel
theorem dX6_addHouse_0 : decode cX6_addHouse 0 = .ok (.iload_n 1, 1) := by decide +kernel
theorem dX6_addHouse_1 : decode cX6_addHouse 1 = .ok (.bipush 98, 2) := by decide +kernel
theorem dX6_addHouse_3 : decode cX6_addHouse 3 = .ok (.if_icmp .eq 19, 3) := by decide +kernel
theorem dX6_addHouse_6 : decode cX6_addHouse 6 = .ok (.iload_n 1, 1) := by decide +kernel
theorem dX6_addHouse_7 : decode cX6_addHouse 7 = .ok (.bipush 116, 2) := by decide +kernel
theorem dX6_addHouse_9 : decode cX6_addHouse 9 = .ok (.if_icmp .eq 13, 3) := by decide +kernel
theorem dX6_addHouse_12 : decode cX6_addHouse 12 = .ok (.new 55, 3) := by decide +kernel
theorem dX6_addHouse_15 : decode cX6_addHouse 15 = .ok (.dup, 1) := by decide +kernel
theorem dX6_addHouse_16 : decode cX6_addHouse 16 = .ok (.ldc 57, 2) := by decide +kernel
theorem dX6_addHouse_18 : decode cX6_addHouse 18 = .ok (.invokespecial 59, 3) := by decide +kernel
theorem dX6_addHouse_21 : decode cX6_addHouse 21 = .ok (.athrow, 1) := by decide +kernel
theorem dX6_addHouse_22 : decode cX6_addHouse 22 = .ok (.aload_n 0, 1) := by decide +kernel
theorem dX6_addHouse_23 : decode cX6_addHouse 23 = .ok (.getfield 10, 3) := by decide +kernel
theorem dX6_addHouse_26 : decode cX6_addHouse 26 = .ok (.invokevirtual 62, 3) := by decide +kernel
theorem dX6_addHouse_29 : decode cX6_addHouse 29 = .ok (.bipush 6, 2) := by decide +kernel
theorem dX6_addHouse_31 : decode cX6_addHouse 31 = .ok (.if_icmp .lt 13, 3) := by decide +kernel
theorem dX6_addHouse_34 : decode cX6_addHouse 34 = .ok (.new 66, 3) := by decide +kernel
theorem dX6_addHouse_37 : decode cX6_addHouse 37 = .ok (.dup, 1) := by decide +kernel
theorem dX6_addHouse_38 : decode cX6_addHouse 38 = .ok (.ldc 68, 2) := by decide +kernel
theorem dX6_addHouse_40 : decode cX6_addHouse 40 = .ok (.invokespecial 70, 3) := by decide +kernel
theorem dX6_addHouse_43 : decode cX6_addHouse 43 = .ok (.athrow, 1) := by decide +kernel
theorem dX6_addHouse_44 : decode cX6_addHouse 44 = .ok (.aload_n 0, 1) := by decide +kernel
theorem dX6_addHouse_45 : decode cX6_addHouse 45 = .ok (.getfield 10, 3) := by decide +kernel
theorem dX6_addHouse_48 : decode cX6_addHouse 48 = .ok (.iload_n 1, 1) := by decide +kernel
theorem dX6_addHouse_49 : decode cX6_addHouse 49 = .ok (.invokevirtual 51, 3) := by decide +kernel
theorem dX6_addHouse_52 : decode cX6_addHouse 52 = .ok (.ireturn, 1) := by decide +kernel
theorem dX6_kindOf_0 : decode cX6_kindOf 0 = .ok (.aload_n 0, 1) := by decide +kernel
theorem dX6_kindOf_1 : decode cX6_kindOf 1 = .ok (.iload_n 1, 1) := by decide +kernel
theorem dX6_kindOf_2 : decode cX6_kindOf 2 = .ok (.invokevirtual 71, 3) := by decide +kernel
theorem dX6_kindOf_5 : decode cX6_kindOf 5 = .ok (.aload_n 0, 1) := by decide +kernel
theorem dX6_kindOf_6 : decode cX6_kindOf 6 = .ok (.getfield 10, 3) := by decide +kernel
theorem dX6_kindOf_9 : decode cX6_kindOf 9 = .ok (.iload_n 1, 1) := by decide +kernel
theorem dX6_kindOf_10 : decode cX6_kindOf 10 = .ok (.invokevirtual 75, 3) := by decide +kernel
theorem dX6_kindOf_13 : decode cX6_kindOf 13 = .ok (.ifCond .eq 14, 3) := by decide +kernel
theorem dX6_kindOf_16 : decode cX6_kindOf 16 = .ok (.aload_n 0, 1) := by decide +kernel
theorem dX6_kindOf_17 : decode cX6_kindOf 17 = .ok (.getfield 10, 3) := by decide +kernel
theorem dX6_kindOf_20 : decode cX6_kindOf 20 = .ok (.iload_n 1, 1) := by decide +kernel
theorem dX6_kindOf_21 : decode cX6_kindOf 21 = .ok (.invokevirtual 79, 3) := by decide +kernel
theorem dX6_kindOf_24 : decode cX6_kindOf 24 = .ok (.goto 5, 3) := by decide +kernel
theorem dX6_kindOf_27 : decode cX6_kindOf 27 = .ok (.bipush 120, 2) := by decide +kernel
theorem dX6_kindOf_29 : decode cX6_kindOf 29 = .ok (.ireturn, 1) := by decide +kernel
theorem dX6_dig_0 : decode cX6_dig 0 = .ok (.aload_n 0, 1) := by decide +kernel
theorem dX6_dig_1 : decode cX6_dig 1 = .ok (.iload_n 1, 1) := by decide +kernel
theorem dX6_dig_2 : decode cX6_dig 2 = .ok (.invokevirtual 71, 3) := by decide +kernel
theorem dX6_dig_5 : decode cX6_dig 5 = .ok (.aload_n 0, 1) := by decide +kernel
theorem dX6_dig_6 : decode cX6_dig 6 = .ok (.iload_n 2, 1) := by decide +kernel
theorem dX6_dig_7 : decode cX6_dig 7 = .ok (.invokevirtual 83, 3) := by decide +kernel
theorem dX6_dig_10 : decode cX6_dig 10 = .ok (.istore 4, 2) := by decide +kernel
theorem dX6_dig_12 : decode cX6_dig 12 = .ok (.aload_n 0, 1) := by decide +kernel
theorem dX6_dig_13 : decode cX6_dig 13 = .ok (.iload_n 3, 1) := by decide +kernel
theorem dX6_dig_14 : decode cX6_dig 14 = .ok (.bipush 99, 2) := by decide +kernel
theorem dX6_dig_16 : decode cX6_dig 16 = .ok (.invokevirtual 86, 3) := by decide +kernel
theorem dX6_dig_19 : decode cX6_dig 19 = .ok (.aload_n 0, 1) := by decide +kernel
theorem dX6_dig_20 : decode cX6_dig 20 = .ok (.iload_n 1, 1) := by decide +kernel
theorem dX6_dig_21 : decode cX6_dig 21 = .ok (.invokevirtual 90, 3) := by decide +kernel
theorem dX6_dig_24 : decode cX6_dig 24 = .ok (.aload_n 0, 1) := by decide +kernel
theorem dX6_dig_25 : decode cX6_dig 25 = .ok (.getfield 19, 3) := by decide +kernel
theorem dX6_dig_28 : decode cX6_dig 28 = .ok (.iload_n 1, 1) := by decide +kernel
theorem dX6_dig_29 : decode cX6_dig 29 = .ok (.iload 4, 2) := by decide +kernel
theorem dX6_dig_31 : decode cX6_dig 31 = .ok (.iload_n 3, 1) := by decide +kernel
theorem dX6_dig_32 : decode cX6_dig 32 = .ok (.invokevirtual 93, 3) := by decide +kernel
theorem dX6_dig_35 : decode cX6_dig 35 = .ok (.aload_n 0, 1) := by decide +kernel
theorem dX6_dig_36 : decode cX6_dig 36 = .ok (.getfield 19, 3) := by decide +kernel
theorem dX6_dig_39 : decode cX6_dig 39 = .ok (.iload_n 1, 1) := by decide +kernel
theorem dX6_dig_40 : decode cX6_dig 40 = .ok (.iload 4, 2) := by decide +kernel
theorem dX6_dig_42 : decode cX6_dig 42 = .ok (.invokevirtual 97, 3) := by decide +kernel
theorem dX6_dig_45 : decode cX6_dig 45 = .ok (.ireturn, 1) := by decide +kernel
theorem dX6_decree_0 : decode cX6_decree 0 = .ok (.aload_n 0, 1) := by decide +kernel
theorem dX6_decree_1 : decode cX6_decree 1 = .ok (.iload_n 1, 1) := by decide +kernel
theorem dX6_decree_2 : decode cX6_decree 2 = .ok (.invokevirtual 83, 3) := by decide +kernel
theorem dX6_decree_5 : decode cX6_decree 5 = .ok (.istore 4, 2) := by decide +kernel
theorem dX6_decree_7 : decode cX6_decree 7 = .ok (.aload_n 0, 1) := by decide +kernel
theorem dX6_decree_8 : decode cX6_decree 8 = .ok (.iload_n 2, 1) := by decide +kernel
theorem dX6_decree_9 : decode cX6_decree 9 = .ok (.bipush 99, 2) := by decide +kernel
theorem dX6_decree_11 : decode cX6_decree 11 = .ok (.invokevirtual 86, 3) := by decide +kernel
theorem dX6_decree_14 : decode cX6_decree 14 = .ok (.aload_n 0, 1) := by decide +kernel
theorem dX6_decree_15 : decode cX6_decree 15 = .ok (.iload_n 3, 1) := by decide +kernel
theorem dX6_decree_16 : decode cX6_decree 16 = .ok (.bipush 9, 2) := by decide +kernel
theorem dX6_decree_18 : decode cX6_decree 18 = .ok (.invokevirtual 86, 3) := by decide +kernel
theorem dX6_decree_21 : decode cX6_decree 21 = .ok (.bipush 100, 2) := by decide +kernel
theorem dX6_decree_23 : decode cX6_decree 23 = .ok (.aload_n 0, 1) := by decide +kernel
theorem dX6_decree_24 : decode cX6_decree 24 = .ok (.getfield 19, 3) := by decide +kernel
theorem dX6_decree_27 : decode cX6_decree 27 = .ok (.iload 4, 2) := by decide +kernel
theorem dX6_decree_29 : decode cX6_decree 29 = .ok (.invokevirtual 101, 3) := by decide +kernel
theorem dX6_decree_32 : decode cX6_decree 32 = .ok (.imul, 1) := by decide +kernel
theorem dX6_decree_33 : decode cX6_decree 33 = .ok (.aload_n 0, 1) := by decide +kernel
theorem dX6_decree_34 : decode cX6_decree 34 = .ok (.getfield 19, 3) := by decide +kernel
theorem dX6_decree_37 : decode cX6_decree 37 = .ok (.iload 4, 2) := by decide +kernel
theorem dX6_decree_39 : decode cX6_decree 39 = .ok (.invokevirtual 105, 3) := by decide +kernel
theorem dX6_decree_42 : decode cX6_decree 42 = .ok (.iadd, 1) := by decide +kernel
theorem dX6_decree_43 : decode cX6_decree 43 = .ok (.istore 5, 2) := by decide +kernel
theorem dX6_decree_45 : decode cX6_decree 45 = .ok (.aload_n 0, 1) := by decide +kernel
theorem dX6_decree_46 : decode cX6_decree 46 = .ok (.getfield 19, 3) := by decide +kernel
theorem dX6_decree_49 : decode cX6_decree 49 = .ok (.iload 4, 2) := by decide +kernel
theorem dX6_decree_51 : decode cX6_decree 51 = .ok (.iload_n 2, 1) := by decide +kernel
theorem dX6_decree_52 : decode cX6_decree 52 = .ok (.iload_n 3, 1) := by decide +kernel
theorem dX6_decree_53 : decode cX6_decree 53 = .ok (.invokevirtual 108, 3) := by decide +kernel
theorem dX6_decree_56 : decode cX6_decree 56 = .ok (.iload 5, 2) := by decide +kernel
theorem dX6_decree_58 : decode cX6_decree 58 = .ok (.ireturn, 1) := by decide +kernel
theorem dX6_mint_0 : decode cX6_mint 0 = .ok (.aload_n 0, 1) := by decide +kernel
theorem dX6_mint_1 : decode cX6_mint 1 = .ok (.iload_n 1, 1) := by decide +kernel
theorem dX6_mint_2 : decode cX6_mint 2 = .ok (.invokevirtual 71, 3) := by decide +kernel
theorem dX6_mint_5 : decode cX6_mint 5 = .ok (.aload_n 0, 1) := by decide +kernel
theorem dX6_mint_6 : decode cX6_mint 6 = .ok (.iload_n 2, 1) := by decide +kernel
theorem dX6_mint_7 : decode cX6_mint 7 = .ok (.invokevirtual 83, 3) := by decide +kernel
theorem dX6_mint_10 : decode cX6_mint 10 = .ok (.istore 4, 2) := by decide +kernel
theorem dX6_mint_12 : decode cX6_mint 12 = .ok (.aload_n 0, 1) := by decide +kernel
theorem dX6_mint_13 : decode cX6_mint 13 = .ok (.iload_n 3, 1) := by decide +kernel
theorem dX6_mint_14 : decode cX6_mint 14 = .ok (.bipush 90, 2) := by decide +kernel
theorem dX6_mint_16 : decode cX6_mint 16 = .ok (.invokevirtual 86, 3) := by decide +kernel
theorem dX6_mint_19 : decode cX6_mint 19 = .ok (.aload_n 0, 1) := by decide +kernel
theorem dX6_mint_20 : decode cX6_mint 20 = .ok (.iload_n 1, 1) := by decide +kernel
theorem dX6_mint_21 : decode cX6_mint 21 = .ok (.invokevirtual 90, 3) := by decide +kernel
theorem dX6_mint_24 : decode cX6_mint 24 = .ok (.aload_n 0, 1) := by decide +kernel
theorem dX6_mint_25 : decode cX6_mint 25 = .ok (.getfield 19, 3) := by decide +kernel
theorem dX6_mint_28 : decode cX6_mint 28 = .ok (.iload_n 1, 1) := by decide +kernel
theorem dX6_mint_29 : decode cX6_mint 29 = .ok (.iload 4, 2) := by decide +kernel
theorem dX6_mint_31 : decode cX6_mint 31 = .ok (.invokevirtual 97, 3) := by decide +kernel
theorem dX6_mint_34 : decode cX6_mint 34 = .ok (.iload_n 3, 1) := by decide +kernel
theorem dX6_mint_35 : decode cX6_mint 35 = .ok (.aload_n 0, 1) := by decide +kernel
theorem dX6_mint_36 : decode cX6_mint 36 = .ok (.getfield 19, 3) := by decide +kernel
theorem dX6_mint_39 : decode cX6_mint 39 = .ok (.iload 4, 2) := by decide +kernel
theorem dX6_mint_41 : decode cX6_mint 41 = .ok (.invokevirtual 105, 3) := by decide +kernel
theorem dX6_mint_44 : decode cX6_mint 44 = .ok (.imul, 1) := by decide +kernel
theorem dX6_mint_45 : decode cX6_mint 45 = .ok (.if_icmp .ge 13, 3) := by decide +kernel
theorem dX6_mint_48 : decode cX6_mint 48 = .ok (.new 111, 3) := by decide +kernel
theorem dX6_mint_51 : decode cX6_mint 51 = .ok (.dup, 1) := by decide +kernel
theorem dX6_mint_52 : decode cX6_mint 52 = .ok (.ldc 113, 2) := by decide +kernel
theorem dX6_mint_54 : decode cX6_mint 54 = .ok (.invokespecial 115, 3) := by decide +kernel
theorem dX6_mint_57 : decode cX6_mint 57 = .ok (.athrow, 1) := by decide +kernel
theorem dX6_mint_58 : decode cX6_mint 58 = .ok (.iload_n 3, 1) := by decide +kernel
theorem dX6_mint_59 : decode cX6_mint 59 = .ok (.aload_n 0, 1) := by decide +kernel
theorem dX6_mint_60 : decode cX6_mint 60 = .ok (.getfield 26, 3) := by decide +kernel
theorem dX6_mint_63 : decode cX6_mint 63 = .ok (.invokevirtual 116, 3) := by decide +kernel
theorem dX6_mint_66 : decode cX6_mint 66 = .ok (.if_icmp .le 13, 3) := by decide +kernel
theorem dX6_mint_69 : decode cX6_mint 69 = .ok (.new 111, 3) := by decide +kernel
theorem dX6_mint_72 : decode cX6_mint 72 = .ok (.dup, 1) := by decide +kernel
theorem dX6_mint_73 : decode cX6_mint 73 = .ok (.ldc 119, 2) := by decide +kernel
theorem dX6_mint_75 : decode cX6_mint 75 = .ok (.invokespecial 115, 3) := by decide +kernel
theorem dX6_mint_78 : decode cX6_mint 78 = .ok (.athrow, 1) := by decide +kernel
theorem dX6_mint_79 : decode cX6_mint 79 = .ok (.aload_n 0, 1) := by decide +kernel
theorem dX6_mint_80 : decode cX6_mint 80 = .ok (.getfield 26, 3) := by decide +kernel
theorem dX6_mint_83 : decode cX6_mint 83 = .ok (.invokevirtual 121, 3) := by decide +kernel
theorem dX6_mint_86 : decode cX6_mint 86 = .ok (.istore 5, 2) := by decide +kernel
theorem dX6_mint_88 : decode cX6_mint 88 = .ok (.aload_n 0, 1) := by decide +kernel
theorem dX6_mint_89 : decode cX6_mint 89 = .ok (.iload_n 1, 1) := by decide +kernel
theorem dX6_mint_90 : decode cX6_mint 90 = .ok (.iload 4, 2) := by decide +kernel
theorem dX6_mint_92 : decode cX6_mint 92 = .ok (.iload_n 3, 1) := by decide +kernel
theorem dX6_mint_93 : decode cX6_mint 93 = .ok (.invokevirtual 122, 3) := by decide +kernel
theorem dX6_mint_96 : decode cX6_mint 96 = .ok (.pop, 1) := by decide +kernel
theorem dX6_mint_97 : decode cX6_mint 97 = .ok (.iload 5, 2) := by decide +kernel
theorem dX6_mint_99 : decode cX6_mint 99 = .ok (.ireturn, 1) := by decide +kernel
theorem dX6_clip_0 : decode cX6_clip 0 = .ok (.aload_n 0, 1) := by decide +kernel
theorem dX6_clip_1 : decode cX6_clip 1 = .ok (.iload_n 1, 1) := by decide +kernel
theorem dX6_clip_2 : decode cX6_clip 2 = .ok (.invokevirtual 126, 3) := by decide +kernel
theorem dX6_clip_5 : decode cX6_clip 5 = .ok (.aload_n 0, 1) := by decide +kernel
theorem dX6_clip_6 : decode cX6_clip 6 = .ok (.iload_n 2, 1) := by decide +kernel
theorem dX6_clip_7 : decode cX6_clip 7 = .ok (.bipush 9, 2) := by decide +kernel
theorem dX6_clip_9 : decode cX6_clip 9 = .ok (.invokevirtual 86, 3) := by decide +kernel
theorem dX6_clip_12 : decode cX6_clip 12 = .ok (.aload_n 0, 1) := by decide +kernel
theorem dX6_clip_13 : decode cX6_clip 13 = .ok (.iload_n 1, 1) := by decide +kernel
theorem dX6_clip_14 : decode cX6_clip 14 = .ok (.invokevirtual 129, 3) := by decide +kernel
theorem dX6_clip_17 : decode cX6_clip 17 = .ok (.aload_n 0, 1) := by decide +kernel
theorem dX6_clip_18 : decode cX6_clip 18 = .ok (.getfield 26, 3) := by decide +kernel
theorem dX6_clip_21 : decode cX6_clip 21 = .ok (.iload_n 1, 1) := by decide +kernel
theorem dX6_clip_22 : decode cX6_clip 22 = .ok (.invokevirtual 132, 3) := by decide +kernel
theorem dX6_clip_25 : decode cX6_clip 25 = .ok (.iload_n 2, 1) := by decide +kernel
theorem dX6_clip_26 : decode cX6_clip 26 = .ok (.isub, 1) := by decide +kernel
theorem dX6_clip_27 : decode cX6_clip 27 = .ok (.iconst 1, 1) := by decide +kernel
theorem dX6_clip_28 : decode cX6_clip 28 = .ok (.if_icmp .ge 13, 3) := by decide +kernel
theorem dX6_clip_31 : decode cX6_clip 31 = .ok (.new 111, 3) := by decide +kernel
theorem dX6_clip_34 : decode cX6_clip 34 = .ok (.dup, 1) := by decide +kernel
theorem dX6_clip_35 : decode cX6_clip 35 = .ok (.ldc 135, 2) := by decide +kernel
theorem dX6_clip_37 : decode cX6_clip 37 = .ok (.invokespecial 115, 3) := by decide +kernel
theorem dX6_clip_40 : decode cX6_clip 40 = .ok (.athrow, 1) := by decide +kernel
theorem dX6_clip_41 : decode cX6_clip 41 = .ok (.aload_n 0, 1) := by decide +kernel
theorem dX6_clip_42 : decode cX6_clip 42 = .ok (.getfield 26, 3) := by decide +kernel
theorem dX6_clip_45 : decode cX6_clip 45 = .ok (.iload_n 1, 1) := by decide +kernel
theorem dX6_clip_46 : decode cX6_clip 46 = .ok (.iload_n 2, 1) := by decide +kernel
theorem dX6_clip_47 : decode cX6_clip 47 = .ok (.invokevirtual 137, 3) := by decide +kernel
theorem dX6_clip_50 : decode cX6_clip 50 = .ok (.aload_n 0, 1) := by decide +kernel
theorem dX6_clip_51 : decode cX6_clip 51 = .ok (.getfield 19, 3) := by decide +kernel
theorem dX6_clip_54 : decode cX6_clip 54 = .ok (.aload_n 0, 1) := by decide +kernel
theorem dX6_clip_55 : decode cX6_clip 55 = .ok (.getfield 26, 3) := by decide +kernel
theorem dX6_clip_58 : decode cX6_clip 58 = .ok (.iload_n 1, 1) := by decide +kernel
theorem dX6_clip_59 : decode cX6_clip 59 = .ok (.invokevirtual 140, 3) := by decide +kernel
theorem dX6_clip_62 : decode cX6_clip 62 = .ok (.aload_n 0, 1) := by decide +kernel
theorem dX6_clip_63 : decode cX6_clip 63 = .ok (.getfield 26, 3) := by decide +kernel
theorem dX6_clip_66 : decode cX6_clip 66 = .ok (.iload_n 1, 1) := by decide +kernel
theorem dX6_clip_67 : decode cX6_clip 67 = .ok (.invokevirtual 143, 3) := by decide +kernel
theorem dX6_clip_70 : decode cX6_clip 70 = .ok (.iload_n 2, 1) := by decide +kernel
theorem dX6_clip_71 : decode cX6_clip 71 = .ok (.invokevirtual 146, 3) := by decide +kernel
theorem dX6_clip_74 : decode cX6_clip 74 = .ok (.aload_n 0, 1) := by decide +kernel
theorem dX6_clip_75 : decode cX6_clip 75 = .ok (.getfield 26, 3) := by decide +kernel
theorem dX6_clip_78 : decode cX6_clip 78 = .ok (.iload_n 1, 1) := by decide +kernel
theorem dX6_clip_79 : decode cX6_clip 79 = .ok (.invokevirtual 132, 3) := by decide +kernel
theorem dX6_clip_82 : decode cX6_clip 82 = .ok (.ireturn, 1) := by decide +kernel
theorem dX6_hoard_0 : decode cX6_hoard 0 = .ok (.aload_n 0, 1) := by decide +kernel
theorem dX6_hoard_1 : decode cX6_hoard 1 = .ok (.iload_n 1, 1) := by decide +kernel
theorem dX6_hoard_2 : decode cX6_hoard 2 = .ok (.invokevirtual 126, 3) := by decide +kernel
theorem dX6_hoard_5 : decode cX6_hoard 5 = .ok (.aload_n 0, 1) := by decide +kernel
theorem dX6_hoard_6 : decode cX6_hoard 6 = .ok (.iload_n 1, 1) := by decide +kernel
theorem dX6_hoard_7 : decode cX6_hoard 7 = .ok (.invokevirtual 129, 3) := by decide +kernel
theorem dX6_hoard_10 : decode cX6_hoard 10 = .ok (.aload_n 0, 1) := by decide +kernel
theorem dX6_hoard_11 : decode cX6_hoard 11 = .ok (.getfield 26, 3) := by decide +kernel
theorem dX6_hoard_14 : decode cX6_hoard 14 = .ok (.iload_n 1, 1) := by decide +kernel
theorem dX6_hoard_15 : decode cX6_hoard 15 = .ok (.invokevirtual 149, 3) := by decide +kernel
theorem dX6_hoard_18 : decode cX6_hoard 18 = .ok (.istore_n 3, 1) := by decide +kernel
theorem dX6_hoard_19 : decode cX6_hoard 19 = .ok (.aload_n 0, 1) := by decide +kernel
theorem dX6_hoard_20 : decode cX6_hoard 20 = .ok (.getfield 26, 3) := by decide +kernel
theorem dX6_hoard_23 : decode cX6_hoard 23 = .ok (.iload_n 1, 1) := by decide +kernel
theorem dX6_hoard_24 : decode cX6_hoard 24 = .ok (.iload_n 2, 1) := by decide +kernel
theorem dX6_hoard_25 : decode cX6_hoard 25 = .ok (.invokevirtual 152, 3) := by decide +kernel
theorem dX6_hoard_28 : decode cX6_hoard 28 = .ok (.iload_n 3, 1) := by decide +kernel
theorem dX6_hoard_29 : decode cX6_hoard 29 = .ok (.ireturn, 1) := by decide +kernel
theorem dX6_recoin_0 : decode cX6_recoin 0 = .ok (.aload_n 0, 1) := by decide +kernel
theorem dX6_recoin_1 : decode cX6_recoin 1 = .ok (.iload_n 1, 1) := by decide +kernel
theorem dX6_recoin_2 : decode cX6_recoin 2 = .ok (.invokevirtual 71, 3) := by decide +kernel
theorem dX6_recoin_5 : decode cX6_recoin 5 = .ok (.aload_n 0, 1) := by decide +kernel
theorem dX6_recoin_6 : decode cX6_recoin 6 = .ok (.iload_n 2, 1) := by decide +kernel
theorem dX6_recoin_7 : decode cX6_recoin 7 = .ok (.invokevirtual 83, 3) := by decide +kernel
theorem dX6_recoin_10 : decode cX6_recoin 10 = .ok (.istore_n 3, 1) := by decide +kernel
theorem dX6_recoin_11 : decode cX6_recoin 11 = .ok (.aload_n 0, 1) := by decide +kernel
theorem dX6_recoin_12 : decode cX6_recoin 12 = .ok (.iload_n 1, 1) := by decide +kernel
theorem dX6_recoin_13 : decode cX6_recoin 13 = .ok (.invokevirtual 90, 3) := by decide +kernel
theorem dX6_recoin_16 : decode cX6_recoin 16 = .ok (.aload_n 0, 1) := by decide +kernel
theorem dX6_recoin_17 : decode cX6_recoin 17 = .ok (.getfield 19, 3) := by decide +kernel
theorem dX6_recoin_20 : decode cX6_recoin 20 = .ok (.iload_n 1, 1) := by decide +kernel
theorem dX6_recoin_21 : decode cX6_recoin 21 = .ok (.iload_n 3, 1) := by decide +kernel
theorem dX6_recoin_22 : decode cX6_recoin 22 = .ok (.aload_n 0, 1) := by decide +kernel
theorem dX6_recoin_23 : decode cX6_recoin 23 = .ok (.getfield 26, 3) := by decide +kernel
theorem dX6_recoin_26 : decode cX6_recoin 26 = .ok (.iload_n 1, 1) := by decide +kernel
theorem dX6_recoin_27 : decode cX6_recoin 27 = .ok (.iload_n 3, 1) := by decide +kernel
theorem dX6_recoin_28 : decode cX6_recoin 28 = .ok (.invokevirtual 156, 3) := by decide +kernel
theorem dX6_recoin_31 : decode cX6_recoin 31 = .ok (.invokevirtual 146, 3) := by decide +kernel
theorem dX6_recoin_34 : decode cX6_recoin 34 = .ok (.aload_n 0, 1) := by decide +kernel
theorem dX6_recoin_35 : decode cX6_recoin 35 = .ok (.iload_n 1, 1) := by decide +kernel
theorem dX6_recoin_36 : decode cX6_recoin 36 = .ok (.iload_n 3, 1) := by decide +kernel
theorem dX6_recoin_37 : decode cX6_recoin 37 = .ok (.bipush 90, 2) := by decide +kernel
theorem dX6_recoin_39 : decode cX6_recoin 39 = .ok (.invokevirtual 122, 3) := by decide +kernel
theorem dX6_recoin_42 : decode cX6_recoin 42 = .ok (.ireturn, 1) := by decide +kernel
theorem dX6_pay_0 : decode cX6_pay 0 = .ok (.aload_n 0, 1) := by decide +kernel
theorem dX6_pay_1 : decode cX6_pay 1 = .ok (.iload_n 1, 1) := by decide +kernel
theorem dX6_pay_2 : decode cX6_pay 2 = .ok (.invokevirtual 71, 3) := by decide +kernel
theorem dX6_pay_5 : decode cX6_pay 5 = .ok (.aload_n 0, 1) := by decide +kernel
theorem dX6_pay_6 : decode cX6_pay 6 = .ok (.iload_n 2, 1) := by decide +kernel
theorem dX6_pay_7 : decode cX6_pay 7 = .ok (.invokevirtual 71, 3) := by decide +kernel
theorem dX6_pay_10 : decode cX6_pay 10 = .ok (.aload_n 0, 1) := by decide +kernel
theorem dX6_pay_11 : decode cX6_pay 11 = .ok (.iload_n 3, 1) := by decide +kernel
theorem dX6_pay_12 : decode cX6_pay 12 = .ok (.invokevirtual 83, 3) := by decide +kernel
theorem dX6_pay_15 : decode cX6_pay 15 = .ok (.istore 5, 2) := by decide +kernel
theorem dX6_pay_17 : decode cX6_pay 17 = .ok (.aload_n 0, 1) := by decide +kernel
theorem dX6_pay_18 : decode cX6_pay 18 = .ok (.iload 4, 2) := by decide +kernel
theorem dX6_pay_20 : decode cX6_pay 20 = .ok (.bipush 90, 2) := by decide +kernel
theorem dX6_pay_22 : decode cX6_pay 22 = .ok (.invokevirtual 86, 3) := by decide +kernel
theorem dX6_pay_25 : decode cX6_pay 25 = .ok (.aload_n 0, 1) := by decide +kernel
theorem dX6_pay_26 : decode cX6_pay 26 = .ok (.iload_n 1, 1) := by decide +kernel
theorem dX6_pay_27 : decode cX6_pay 27 = .ok (.iload_n 2, 1) := by decide +kernel
theorem dX6_pay_28 : decode cX6_pay 28 = .ok (.invokevirtual 159, 3) := by decide +kernel
theorem dX6_pay_31 : decode cX6_pay 31 = .ok (.aload_n 0, 1) := by decide +kernel
theorem dX6_pay_32 : decode cX6_pay 32 = .ok (.iload_n 1, 1) := by decide +kernel
theorem dX6_pay_33 : decode cX6_pay 33 = .ok (.invokevirtual 90, 3) := by decide +kernel
theorem dX6_pay_36 : decode cX6_pay 36 = .ok (.aload_n 0, 1) := by decide +kernel
theorem dX6_pay_37 : decode cX6_pay 37 = .ok (.iload_n 2, 1) := by decide +kernel
theorem dX6_pay_38 : decode cX6_pay 38 = .ok (.invokevirtual 90, 3) := by decide +kernel
theorem dX6_pay_41 : decode cX6_pay 41 = .ok (.aload_n 0, 1) := by decide +kernel
theorem dX6_pay_42 : decode cX6_pay 42 = .ok (.iload_n 1, 1) := by decide +kernel
theorem dX6_pay_43 : decode cX6_pay 43 = .ok (.iload 5, 2) := by decide +kernel
theorem dX6_pay_45 : decode cX6_pay 45 = .ok (.iload 4, 2) := by decide +kernel
theorem dX6_pay_47 : decode cX6_pay 47 = .ok (.invokevirtual 162, 3) := by decide +kernel
theorem dX6_pay_50 : decode cX6_pay 50 = .ok (.aload_n 0, 1) := by decide +kernel
theorem dX6_pay_51 : decode cX6_pay 51 = .ok (.getfield 26, 3) := by decide +kernel
theorem dX6_pay_54 : decode cX6_pay 54 = .ok (.iload_n 1, 1) := by decide +kernel
theorem dX6_pay_55 : decode cX6_pay 55 = .ok (.iload_n 2, 1) := by decide +kernel
theorem dX6_pay_56 : decode cX6_pay 56 = .ok (.iload 5, 2) := by decide +kernel
theorem dX6_pay_58 : decode cX6_pay 58 = .ok (.iload 4, 2) := by decide +kernel
theorem dX6_pay_60 : decode cX6_pay 60 = .ok (.invokevirtual 165, 3) := by decide +kernel
theorem dX6_pay_63 : decode cX6_pay 63 = .ok (.ireturn, 1) := by decide +kernel
theorem dX6_deposit_0 : decode cX6_deposit 0 = .ok (.aload_n 0, 1) := by decide +kernel
theorem dX6_deposit_1 : decode cX6_deposit 1 = .ok (.iload_n 1, 1) := by decide +kernel
theorem dX6_deposit_2 : decode cX6_deposit 2 = .ok (.invokevirtual 71, 3) := by decide +kernel
theorem dX6_deposit_5 : decode cX6_deposit 5 = .ok (.aload_n 0, 1) := by decide +kernel
theorem dX6_deposit_6 : decode cX6_deposit 6 = .ok (.iload_n 2, 1) := by decide +kernel
theorem dX6_deposit_7 : decode cX6_deposit 7 = .ok (.invokevirtual 71, 3) := by decide +kernel
theorem dX6_deposit_10 : decode cX6_deposit 10 = .ok (.aload_n 0, 1) := by decide +kernel
theorem dX6_deposit_11 : decode cX6_deposit 11 = .ok (.iload_n 3, 1) := by decide +kernel
theorem dX6_deposit_12 : decode cX6_deposit 12 = .ok (.invokevirtual 83, 3) := by decide +kernel
theorem dX6_deposit_15 : decode cX6_deposit 15 = .ok (.istore 5, 2) := by decide +kernel
theorem dX6_deposit_17 : decode cX6_deposit 17 = .ok (.aload_n 0, 1) := by decide +kernel
theorem dX6_deposit_18 : decode cX6_deposit 18 = .ok (.iload 4, 2) := by decide +kernel
theorem dX6_deposit_20 : decode cX6_deposit 20 = .ok (.bipush 90, 2) := by decide +kernel
theorem dX6_deposit_22 : decode cX6_deposit 22 = .ok (.invokevirtual 86, 3) := by decide +kernel
theorem dX6_deposit_25 : decode cX6_deposit 25 = .ok (.aload_n 0, 1) := by decide +kernel
theorem dX6_deposit_26 : decode cX6_deposit 26 = .ok (.iload_n 1, 1) := by decide +kernel
theorem dX6_deposit_27 : decode cX6_deposit 27 = .ok (.iload_n 2, 1) := by decide +kernel
theorem dX6_deposit_28 : decode cX6_deposit 28 = .ok (.invokevirtual 169, 3) := by decide +kernel
theorem dX6_deposit_31 : decode cX6_deposit 31 = .ok (.aload_n 0, 1) := by decide +kernel
theorem dX6_deposit_32 : decode cX6_deposit 32 = .ok (.iload_n 1, 1) := by decide +kernel
theorem dX6_deposit_33 : decode cX6_deposit 33 = .ok (.iload 5, 2) := by decide +kernel
theorem dX6_deposit_35 : decode cX6_deposit 35 = .ok (.iload 4, 2) := by decide +kernel
theorem dX6_deposit_37 : decode cX6_deposit 37 = .ok (.invokevirtual 162, 3) := by decide +kernel
theorem dX6_deposit_40 : decode cX6_deposit 40 = .ok (.aload_n 0, 1) := by decide +kernel
theorem dX6_deposit_41 : decode cX6_deposit 41 = .ok (.getfield 26, 3) := by decide +kernel
theorem dX6_deposit_44 : decode cX6_deposit 44 = .ok (.iload_n 1, 1) := by decide +kernel
theorem dX6_deposit_45 : decode cX6_deposit 45 = .ok (.iload_n 2, 1) := by decide +kernel
theorem dX6_deposit_46 : decode cX6_deposit 46 = .ok (.iload 5, 2) := by decide +kernel
theorem dX6_deposit_48 : decode cX6_deposit 48 = .ok (.iload 4, 2) := by decide +kernel
theorem dX6_deposit_50 : decode cX6_deposit 50 = .ok (.invokevirtual 165, 3) := by decide +kernel
theorem dX6_deposit_53 : decode cX6_deposit 53 = .ok (.pop, 1) := by decide +kernel
theorem dX6_deposit_54 : decode cX6_deposit 54 = .ok (.aload_n 0, 1) := by decide +kernel
theorem dX6_deposit_55 : decode cX6_deposit 55 = .ok (.getfield 33, 3) := by decide +kernel
theorem dX6_deposit_58 : decode cX6_deposit 58 = .ok (.iload_n 1, 1) := by decide +kernel
theorem dX6_deposit_59 : decode cX6_deposit 59 = .ok (.iload_n 2, 1) := by decide +kernel
theorem dX6_deposit_60 : decode cX6_deposit 60 = .ok (.iload 4, 2) := by decide +kernel
theorem dX6_deposit_62 : decode cX6_deposit 62 = .ok (.aload_n 0, 1) := by decide +kernel
theorem dX6_deposit_63 : decode cX6_deposit 63 = .ok (.getfield 19, 3) := by decide +kernel
theorem dX6_deposit_66 : decode cX6_deposit 66 = .ok (.iload 5, 2) := by decide +kernel
theorem dX6_deposit_68 : decode cX6_deposit 68 = .ok (.invokevirtual 101, 3) := by decide +kernel
theorem dX6_deposit_71 : decode cX6_deposit 71 = .ok (.imul, 1) := by decide +kernel
theorem dX6_deposit_72 : decode cX6_deposit 72 = .ok (.invokevirtual 172, 3) := by decide +kernel
theorem dX6_deposit_75 : decode cX6_deposit 75 = .ok (.aload_n 0, 1) := by decide +kernel
theorem dX6_deposit_76 : decode cX6_deposit 76 = .ok (.getfield 33, 3) := by decide +kernel
theorem dX6_deposit_79 : decode cX6_deposit 79 = .ok (.iload_n 1, 1) := by decide +kernel
theorem dX6_deposit_80 : decode cX6_deposit 80 = .ok (.iload_n 2, 1) := by decide +kernel
theorem dX6_deposit_81 : decode cX6_deposit 81 = .ok (.invokevirtual 175, 3) := by decide +kernel
theorem dX6_deposit_84 : decode cX6_deposit 84 = .ok (.ireturn, 1) := by decide +kernel
theorem dX6_withdraw_0 : decode cX6_withdraw 0 = .ok (.aload_n 0, 1) := by decide +kernel
theorem dX6_withdraw_1 : decode cX6_withdraw 1 = .ok (.iload_n 1, 1) := by decide +kernel
theorem dX6_withdraw_2 : decode cX6_withdraw 2 = .ok (.invokevirtual 71, 3) := by decide +kernel
theorem dX6_withdraw_5 : decode cX6_withdraw 5 = .ok (.aload_n 0, 1) := by decide +kernel
theorem dX6_withdraw_6 : decode cX6_withdraw 6 = .ok (.iload_n 2, 1) := by decide +kernel
theorem dX6_withdraw_7 : decode cX6_withdraw 7 = .ok (.invokevirtual 71, 3) := by decide +kernel
theorem dX6_withdraw_10 : decode cX6_withdraw 10 = .ok (.aload_n 0, 1) := by decide +kernel
theorem dX6_withdraw_11 : decode cX6_withdraw 11 = .ok (.iload_n 3, 1) := by decide +kernel
theorem dX6_withdraw_12 : decode cX6_withdraw 12 = .ok (.invokevirtual 83, 3) := by decide +kernel
theorem dX6_withdraw_15 : decode cX6_withdraw 15 = .ok (.istore 5, 2) := by decide +kernel
theorem dX6_withdraw_17 : decode cX6_withdraw 17 = .ok (.aload_n 0, 1) := by decide +kernel
theorem dX6_withdraw_18 : decode cX6_withdraw 18 = .ok (.iload 4, 2) := by decide +kernel
theorem dX6_withdraw_20 : decode cX6_withdraw 20 = .ok (.bipush 90, 2) := by decide +kernel
theorem dX6_withdraw_22 : decode cX6_withdraw 22 = .ok (.invokevirtual 86, 3) := by decide +kernel
theorem dX6_withdraw_25 : decode cX6_withdraw 25 = .ok (.aload_n 0, 1) := by decide +kernel
theorem dX6_withdraw_26 : decode cX6_withdraw 26 = .ok (.iload_n 1, 1) := by decide +kernel
theorem dX6_withdraw_27 : decode cX6_withdraw 27 = .ok (.iload_n 2, 1) := by decide +kernel
theorem dX6_withdraw_28 : decode cX6_withdraw 28 = .ok (.invokevirtual 169, 3) := by decide +kernel
theorem dX6_withdraw_31 : decode cX6_withdraw 31 = .ok (.iload 4, 2) := by decide +kernel
theorem dX6_withdraw_33 : decode cX6_withdraw 33 = .ok (.aload_n 0, 1) := by decide +kernel
theorem dX6_withdraw_34 : decode cX6_withdraw 34 = .ok (.getfield 19, 3) := by decide +kernel
theorem dX6_withdraw_37 : decode cX6_withdraw 37 = .ok (.iload 5, 2) := by decide +kernel
theorem dX6_withdraw_39 : decode cX6_withdraw 39 = .ok (.invokevirtual 101, 3) := by decide +kernel
theorem dX6_withdraw_42 : decode cX6_withdraw 42 = .ok (.imul, 1) := by decide +kernel
theorem dX6_withdraw_43 : decode cX6_withdraw 43 = .ok (.istore 6, 2) := by decide +kernel
theorem dX6_withdraw_45 : decode cX6_withdraw 45 = .ok (.aload_n 0, 1) := by decide +kernel
theorem dX6_withdraw_46 : decode cX6_withdraw 46 = .ok (.iload_n 1, 1) := by decide +kernel
theorem dX6_withdraw_47 : decode cX6_withdraw 47 = .ok (.iload_n 2, 1) := by decide +kernel
theorem dX6_withdraw_48 : decode cX6_withdraw 48 = .ok (.iload 6, 2) := by decide +kernel
theorem dX6_withdraw_50 : decode cX6_withdraw 50 = .ok (.invokevirtual 178, 3) := by decide +kernel
theorem dX6_withdraw_53 : decode cX6_withdraw 53 = .ok (.aload_n 0, 1) := by decide +kernel
theorem dX6_withdraw_54 : decode cX6_withdraw 54 = .ok (.getfield 26, 3) := by decide +kernel
theorem dX6_withdraw_57 : decode cX6_withdraw 57 = .ok (.iload_n 2, 1) := by decide +kernel
theorem dX6_withdraw_58 : decode cX6_withdraw 58 = .ok (.iload 5, 2) := by decide +kernel
theorem dX6_withdraw_60 : decode cX6_withdraw 60 = .ok (.invokevirtual 181, 3) := by decide +kernel
theorem dX6_withdraw_63 : decode cX6_withdraw 63 = .ok (.iload 4, 2) := by decide +kernel
theorem dX6_withdraw_65 : decode cX6_withdraw 65 = .ok (.if_icmp .ge 11, 3) := by decide +kernel
theorem dX6_withdraw_68 : decode cX6_withdraw 68 = .ok (.aload_n 0, 1) := by decide +kernel
theorem dX6_withdraw_69 : decode cX6_withdraw 69 = .ok (.iload_n 2, 1) := by decide +kernel
theorem dX6_withdraw_70 : decode cX6_withdraw 70 = .ok (.invokevirtual 184, 3) := by decide +kernel
theorem dX6_withdraw_73 : decode cX6_withdraw 73 = .ok (.bipush 120, 2) := by decide +kernel
theorem dX6_withdraw_75 : decode cX6_withdraw 75 = .ok (.ireturn, 1) := by decide +kernel
theorem dX6_withdraw_76 : decode cX6_withdraw 76 = .ok (.aload_n 0, 1) := by decide +kernel
theorem dX6_withdraw_77 : decode cX6_withdraw 77 = .ok (.getfield 26, 3) := by decide +kernel
theorem dX6_withdraw_80 : decode cX6_withdraw 80 = .ok (.iload_n 2, 1) := by decide +kernel
theorem dX6_withdraw_81 : decode cX6_withdraw 81 = .ok (.iload_n 1, 1) := by decide +kernel
theorem dX6_withdraw_82 : decode cX6_withdraw 82 = .ok (.iload 5, 2) := by decide +kernel
theorem dX6_withdraw_84 : decode cX6_withdraw 84 = .ok (.iload 4, 2) := by decide +kernel
theorem dX6_withdraw_86 : decode cX6_withdraw 86 = .ok (.invokevirtual 165, 3) := by decide +kernel
theorem dX6_withdraw_89 : decode cX6_withdraw 89 = .ok (.pop, 1) := by decide +kernel
theorem dX6_withdraw_90 : decode cX6_withdraw 90 = .ok (.aload_n 0, 1) := by decide +kernel
theorem dX6_withdraw_91 : decode cX6_withdraw 91 = .ok (.getfield 33, 3) := by decide +kernel
theorem dX6_withdraw_94 : decode cX6_withdraw 94 = .ok (.iload_n 1, 1) := by decide +kernel
theorem dX6_withdraw_95 : decode cX6_withdraw 95 = .ok (.iload_n 2, 1) := by decide +kernel
theorem dX6_withdraw_96 : decode cX6_withdraw 96 = .ok (.iload 6, 2) := by decide +kernel
theorem dX6_withdraw_98 : decode cX6_withdraw 98 = .ok (.ineg, 1) := by decide +kernel
theorem dX6_withdraw_99 : decode cX6_withdraw 99 = .ok (.invokevirtual 172, 3) := by decide +kernel
theorem dX6_withdraw_102 : decode cX6_withdraw 102 = .ok (.bipush 112, 2) := by decide +kernel
theorem dX6_withdraw_104 : decode cX6_withdraw 104 = .ok (.ireturn, 1) := by decide +kernel
theorem dX6_lend_0 : decode cX6_lend 0 = .ok (.aload_n 0, 1) := by decide +kernel
theorem dX6_lend_1 : decode cX6_lend 1 = .ok (.iload_n 1, 1) := by decide +kernel
theorem dX6_lend_2 : decode cX6_lend 2 = .ok (.invokevirtual 71, 3) := by decide +kernel
theorem dX6_lend_5 : decode cX6_lend 5 = .ok (.aload_n 0, 1) := by decide +kernel
theorem dX6_lend_6 : decode cX6_lend 6 = .ok (.iload_n 2, 1) := by decide +kernel
theorem dX6_lend_7 : decode cX6_lend 7 = .ok (.invokevirtual 71, 3) := by decide +kernel
theorem dX6_lend_10 : decode cX6_lend 10 = .ok (.aload_n 0, 1) := by decide +kernel
theorem dX6_lend_11 : decode cX6_lend 11 = .ok (.iload_n 3, 1) := by decide +kernel
theorem dX6_lend_12 : decode cX6_lend 12 = .ok (.sipush 9999, 3) := by decide +kernel
theorem dX6_lend_15 : decode cX6_lend 15 = .ok (.invokevirtual 86, 3) := by decide +kernel
theorem dX6_lend_18 : decode cX6_lend 18 = .ok (.aload_n 0, 1) := by decide +kernel
theorem dX6_lend_19 : decode cX6_lend 19 = .ok (.iload_n 2, 1) := by decide +kernel
theorem dX6_lend_20 : decode cX6_lend 20 = .ok (.iload_n 1, 1) := by decide +kernel
theorem dX6_lend_21 : decode cX6_lend 21 = .ok (.invokevirtual 169, 3) := by decide +kernel
theorem dX6_lend_24 : decode cX6_lend 24 = .ok (.aload_n 0, 1) := by decide +kernel
theorem dX6_lend_25 : decode cX6_lend 25 = .ok (.getfield 33, 3) := by decide +kernel
theorem dX6_lend_28 : decode cX6_lend 28 = .ok (.iload_n 2, 1) := by decide +kernel
theorem dX6_lend_29 : decode cX6_lend 29 = .ok (.iload_n 1, 1) := by decide +kernel
theorem dX6_lend_30 : decode cX6_lend 30 = .ok (.iload_n 3, 1) := by decide +kernel
theorem dX6_lend_31 : decode cX6_lend 31 = .ok (.invokevirtual 172, 3) := by decide +kernel
theorem dX6_lend_34 : decode cX6_lend 34 = .ok (.aload_n 0, 1) := by decide +kernel
theorem dX6_lend_35 : decode cX6_lend 35 = .ok (.getfield 33, 3) := by decide +kernel
theorem dX6_lend_38 : decode cX6_lend 38 = .ok (.iload_n 1, 1) := by decide +kernel
theorem dX6_lend_39 : decode cX6_lend 39 = .ok (.iload_n 2, 1) := by decide +kernel
theorem dX6_lend_40 : decode cX6_lend 40 = .ok (.iload_n 3, 1) := by decide +kernel
theorem dX6_lend_41 : decode cX6_lend 41 = .ok (.invokevirtual 172, 3) := by decide +kernel
theorem dX6_lend_44 : decode cX6_lend 44 = .ok (.aload_n 0, 1) := by decide +kernel
theorem dX6_lend_45 : decode cX6_lend 45 = .ok (.getfield 33, 3) := by decide +kernel
theorem dX6_lend_48 : decode cX6_lend 48 = .ok (.iload_n 2, 1) := by decide +kernel
theorem dX6_lend_49 : decode cX6_lend 49 = .ok (.iload_n 1, 1) := by decide +kernel
theorem dX6_lend_50 : decode cX6_lend 50 = .ok (.invokevirtual 175, 3) := by decide +kernel
theorem dX6_lend_53 : decode cX6_lend 53 = .ok (.ireturn, 1) := by decide +kernel
theorem dX6_hand_0 : decode cX6_hand 0 = .ok (.aload_n 0, 1) := by decide +kernel
theorem dX6_hand_1 : decode cX6_hand 1 = .ok (.iload_n 1, 1) := by decide +kernel
theorem dX6_hand_2 : decode cX6_hand 2 = .ok (.invokevirtual 71, 3) := by decide +kernel
theorem dX6_hand_5 : decode cX6_hand 5 = .ok (.aload_n 0, 1) := by decide +kernel
theorem dX6_hand_6 : decode cX6_hand 6 = .ok (.iload_n 2, 1) := by decide +kernel
theorem dX6_hand_7 : decode cX6_hand 7 = .ok (.invokevirtual 71, 3) := by decide +kernel
theorem dX6_hand_10 : decode cX6_hand 10 = .ok (.aload_n 0, 1) := by decide +kernel
theorem dX6_hand_11 : decode cX6_hand 11 = .ok (.iload_n 3, 1) := by decide +kernel
theorem dX6_hand_12 : decode cX6_hand 12 = .ok (.invokevirtual 71, 3) := by decide +kernel
theorem dX6_hand_15 : decode cX6_hand 15 = .ok (.aload_n 0, 1) := by decide +kernel
theorem dX6_hand_16 : decode cX6_hand 16 = .ok (.iload 4, 2) := by decide +kernel
theorem dX6_hand_18 : decode cX6_hand 18 = .ok (.sipush 9999, 3) := by decide +kernel
theorem dX6_hand_21 : decode cX6_hand 21 = .ok (.invokevirtual 86, 3) := by decide +kernel
theorem dX6_hand_24 : decode cX6_hand 24 = .ok (.aload_n 0, 1) := by decide +kernel
theorem dX6_hand_25 : decode cX6_hand 25 = .ok (.iload_n 1, 1) := by decide +kernel
theorem dX6_hand_26 : decode cX6_hand 26 = .ok (.iload_n 2, 1) := by decide +kernel
theorem dX6_hand_27 : decode cX6_hand 27 = .ok (.invokevirtual 159, 3) := by decide +kernel
theorem dX6_hand_30 : decode cX6_hand 30 = .ok (.aload_n 0, 1) := by decide +kernel
theorem dX6_hand_31 : decode cX6_hand 31 = .ok (.iload_n 2, 1) := by decide +kernel
theorem dX6_hand_32 : decode cX6_hand 32 = .ok (.iload_n 3, 1) := by decide +kernel
theorem dX6_hand_33 : decode cX6_hand 33 = .ok (.invokevirtual 159, 3) := by decide +kernel
theorem dX6_hand_36 : decode cX6_hand 36 = .ok (.aload_n 0, 1) := by decide +kernel
theorem dX6_hand_37 : decode cX6_hand 37 = .ok (.iload_n 1, 1) := by decide +kernel
theorem dX6_hand_38 : decode cX6_hand 38 = .ok (.iload_n 3, 1) := by decide +kernel
theorem dX6_hand_39 : decode cX6_hand 39 = .ok (.invokevirtual 169, 3) := by decide +kernel
theorem dX6_hand_42 : decode cX6_hand 42 = .ok (.aload_n 0, 1) := by decide +kernel
theorem dX6_hand_43 : decode cX6_hand 43 = .ok (.iload_n 2, 1) := by decide +kernel
theorem dX6_hand_44 : decode cX6_hand 44 = .ok (.invokevirtual 90, 3) := by decide +kernel
theorem dX6_hand_47 : decode cX6_hand 47 = .ok (.aload_n 0, 1) := by decide +kernel
theorem dX6_hand_48 : decode cX6_hand 48 = .ok (.iload_n 1, 1) := by decide +kernel
theorem dX6_hand_49 : decode cX6_hand 49 = .ok (.iload_n 3, 1) := by decide +kernel
theorem dX6_hand_50 : decode cX6_hand 50 = .ok (.iload 4, 2) := by decide +kernel
theorem dX6_hand_52 : decode cX6_hand 52 = .ok (.invokevirtual 178, 3) := by decide +kernel
theorem dX6_hand_55 : decode cX6_hand 55 = .ok (.aload_n 0, 1) := by decide +kernel
theorem dX6_hand_56 : decode cX6_hand 56 = .ok (.getfield 33, 3) := by decide +kernel
theorem dX6_hand_59 : decode cX6_hand 59 = .ok (.iload_n 1, 1) := by decide +kernel
theorem dX6_hand_60 : decode cX6_hand 60 = .ok (.iload_n 3, 1) := by decide +kernel
theorem dX6_hand_61 : decode cX6_hand 61 = .ok (.iload 4, 2) := by decide +kernel
theorem dX6_hand_63 : decode cX6_hand 63 = .ok (.ineg, 1) := by decide +kernel
theorem dX6_hand_64 : decode cX6_hand 64 = .ok (.invokevirtual 172, 3) := by decide +kernel
theorem dX6_hand_67 : decode cX6_hand 67 = .ok (.aload_n 0, 1) := by decide +kernel
theorem dX6_hand_68 : decode cX6_hand 68 = .ok (.getfield 33, 3) := by decide +kernel
theorem dX6_hand_71 : decode cX6_hand 71 = .ok (.iload_n 2, 1) := by decide +kernel
theorem dX6_hand_72 : decode cX6_hand 72 = .ok (.iload_n 3, 1) := by decide +kernel
theorem dX6_hand_73 : decode cX6_hand 73 = .ok (.iload 4, 2) := by decide +kernel
theorem dX6_hand_75 : decode cX6_hand 75 = .ok (.invokevirtual 172, 3) := by decide +kernel
theorem dX6_hand_78 : decode cX6_hand 78 = .ok (.aload_n 0, 1) := by decide +kernel
theorem dX6_hand_79 : decode cX6_hand 79 = .ok (.getfield 33, 3) := by decide +kernel
theorem dX6_hand_82 : decode cX6_hand 82 = .ok (.iload_n 1, 1) := by decide +kernel
theorem dX6_hand_83 : decode cX6_hand 83 = .ok (.iload_n 3, 1) := by decide +kernel
theorem dX6_hand_84 : decode cX6_hand 84 = .ok (.invokevirtual 175, 3) := by decide +kernel
theorem dX6_hand_87 : decode cX6_hand 87 = .ok (.ireturn, 1) := by decide +kernel
theorem dX6_forgive_0 : decode cX6_forgive 0 = .ok (.aload_n 0, 1) := by decide +kernel
theorem dX6_forgive_1 : decode cX6_forgive 1 = .ok (.iload_n 1, 1) := by decide +kernel
theorem dX6_forgive_2 : decode cX6_forgive 2 = .ok (.invokevirtual 71, 3) := by decide +kernel
theorem dX6_forgive_5 : decode cX6_forgive 5 = .ok (.aload_n 0, 1) := by decide +kernel
theorem dX6_forgive_6 : decode cX6_forgive 6 = .ok (.iload_n 2, 1) := by decide +kernel
theorem dX6_forgive_7 : decode cX6_forgive 7 = .ok (.invokevirtual 71, 3) := by decide +kernel
theorem dX6_forgive_10 : decode cX6_forgive 10 = .ok (.aload_n 0, 1) := by decide +kernel
theorem dX6_forgive_11 : decode cX6_forgive 11 = .ok (.iload_n 3, 1) := by decide +kernel
theorem dX6_forgive_12 : decode cX6_forgive 12 = .ok (.sipush 9999, 3) := by decide +kernel
theorem dX6_forgive_15 : decode cX6_forgive 15 = .ok (.invokevirtual 86, 3) := by decide +kernel
theorem dX6_forgive_18 : decode cX6_forgive 18 = .ok (.aload_n 0, 1) := by decide +kernel
theorem dX6_forgive_19 : decode cX6_forgive 19 = .ok (.iload_n 1, 1) := by decide +kernel
theorem dX6_forgive_20 : decode cX6_forgive 20 = .ok (.iload_n 2, 1) := by decide +kernel
theorem dX6_forgive_21 : decode cX6_forgive 21 = .ok (.iload_n 3, 1) := by decide +kernel
theorem dX6_forgive_22 : decode cX6_forgive 22 = .ok (.invokevirtual 178, 3) := by decide +kernel
theorem dX6_forgive_25 : decode cX6_forgive 25 = .ok (.aload_n 0, 1) := by decide +kernel
theorem dX6_forgive_26 : decode cX6_forgive 26 = .ok (.getfield 33, 3) := by decide +kernel
theorem dX6_forgive_29 : decode cX6_forgive 29 = .ok (.iload_n 1, 1) := by decide +kernel
theorem dX6_forgive_30 : decode cX6_forgive 30 = .ok (.iload_n 2, 1) := by decide +kernel
theorem dX6_forgive_31 : decode cX6_forgive 31 = .ok (.iload_n 3, 1) := by decide +kernel
theorem dX6_forgive_32 : decode cX6_forgive 32 = .ok (.ineg, 1) := by decide +kernel
theorem dX6_forgive_33 : decode cX6_forgive 33 = .ok (.invokevirtual 172, 3) := by decide +kernel
theorem dX6_forgive_36 : decode cX6_forgive 36 = .ok (.aload_n 0, 1) := by decide +kernel
theorem dX6_forgive_37 : decode cX6_forgive 37 = .ok (.getfield 33, 3) := by decide +kernel
theorem dX6_forgive_40 : decode cX6_forgive 40 = .ok (.iload_n 1, 1) := by decide +kernel
theorem dX6_forgive_41 : decode cX6_forgive 41 = .ok (.iload_n 2, 1) := by decide +kernel
theorem dX6_forgive_42 : decode cX6_forgive 42 = .ok (.invokevirtual 175, 3) := by decide +kernel
theorem dX6_forgive_45 : decode cX6_forgive 45 = .ok (.ireturn, 1) := by decide +kernel
theorem dX6_claim_0 : decode cX6_claim 0 = .ok (.aload_n 0, 1) := by decide +kernel
theorem dX6_claim_1 : decode cX6_claim 1 = .ok (.iload_n 1, 1) := by decide +kernel
theorem dX6_claim_2 : decode cX6_claim 2 = .ok (.invokevirtual 71, 3) := by decide +kernel
theorem dX6_claim_5 : decode cX6_claim 5 = .ok (.aload_n 0, 1) := by decide +kernel
theorem dX6_claim_6 : decode cX6_claim 6 = .ok (.iload_n 2, 1) := by decide +kernel
theorem dX6_claim_7 : decode cX6_claim 7 = .ok (.invokevirtual 71, 3) := by decide +kernel
theorem dX6_claim_10 : decode cX6_claim 10 = .ok (.aload_n 0, 1) := by decide +kernel
theorem dX6_claim_11 : decode cX6_claim 11 = .ok (.getfield 33, 3) := by decide +kernel
theorem dX6_claim_14 : decode cX6_claim 14 = .ok (.iload_n 1, 1) := by decide +kernel
theorem dX6_claim_15 : decode cX6_claim 15 = .ok (.iload_n 2, 1) := by decide +kernel
theorem dX6_claim_16 : decode cX6_claim 16 = .ok (.invokevirtual 175, 3) := by decide +kernel
theorem dX6_claim_19 : decode cX6_claim 19 = .ok (.ireturn, 1) := by decide +kernel
theorem dX6_draw_0 : decode cX6_draw 0 = .ok (.aload_n 0, 1) := by decide +kernel
theorem dX6_draw_1 : decode cX6_draw 1 = .ok (.iload_n 1, 1) := by decide +kernel
theorem dX6_draw_2 : decode cX6_draw 2 = .ok (.invokevirtual 71, 3) := by decide +kernel
theorem dX6_draw_5 : decode cX6_draw 5 = .ok (.aload_n 0, 1) := by decide +kernel
theorem dX6_draw_6 : decode cX6_draw 6 = .ok (.iload_n 2, 1) := by decide +kernel
theorem dX6_draw_7 : decode cX6_draw 7 = .ok (.invokevirtual 71, 3) := by decide +kernel
theorem dX6_draw_10 : decode cX6_draw 10 = .ok (.aload_n 0, 1) := by decide +kernel
theorem dX6_draw_11 : decode cX6_draw 11 = .ok (.iload_n 3, 1) := by decide +kernel
theorem dX6_draw_12 : decode cX6_draw 12 = .ok (.sipush 9999, 3) := by decide +kernel
theorem dX6_draw_15 : decode cX6_draw 15 = .ok (.invokevirtual 86, 3) := by decide +kernel
theorem dX6_draw_18 : decode cX6_draw 18 = .ok (.aload_n 0, 1) := by decide +kernel
theorem dX6_draw_19 : decode cX6_draw 19 = .ok (.iload 4, 2) := by decide +kernel
theorem dX6_draw_21 : decode cX6_draw 21 = .ok (.bipush 9, 2) := by decide +kernel
theorem dX6_draw_23 : decode cX6_draw 23 = .ok (.invokevirtual 86, 3) := by decide +kernel
theorem dX6_draw_26 : decode cX6_draw 26 = .ok (.aload_n 0, 1) := by decide +kernel
theorem dX6_draw_27 : decode cX6_draw 27 = .ok (.iload_n 1, 1) := by decide +kernel
theorem dX6_draw_28 : decode cX6_draw 28 = .ok (.iload_n 2, 1) := by decide +kernel
theorem dX6_draw_29 : decode cX6_draw 29 = .ok (.invokevirtual 159, 3) := by decide +kernel
theorem dX6_draw_32 : decode cX6_draw 32 = .ok (.aload_n 0, 1) := by decide +kernel
theorem dX6_draw_33 : decode cX6_draw 33 = .ok (.iload_n 1, 1) := by decide +kernel
theorem dX6_draw_34 : decode cX6_draw 34 = .ok (.invokevirtual 90, 3) := by decide +kernel
theorem dX6_draw_37 : decode cX6_draw 37 = .ok (.aload_n 0, 1) := by decide +kernel
theorem dX6_draw_38 : decode cX6_draw 38 = .ok (.iload_n 2, 1) := by decide +kernel
theorem dX6_draw_39 : decode cX6_draw 39 = .ok (.invokevirtual 90, 3) := by decide +kernel
theorem dX6_draw_42 : decode cX6_draw 42 = .ok (.aload_n 0, 1) := by decide +kernel
theorem dX6_draw_43 : decode cX6_draw 43 = .ok (.getfield 40, 3) := by decide +kernel
theorem dX6_draw_46 : decode cX6_draw 46 = .ok (.invokevirtual 187, 3) := by decide +kernel
theorem dX6_draw_49 : decode cX6_draw 49 = .ok (.bipush 12, 2) := by decide +kernel
theorem dX6_draw_51 : decode cX6_draw 51 = .ok (.if_icmp .lt 13, 3) := by decide +kernel
theorem dX6_draw_54 : decode cX6_draw 54 = .ok (.new 111, 3) := by decide +kernel
theorem dX6_draw_57 : decode cX6_draw 57 = .ok (.dup, 1) := by decide +kernel
theorem dX6_draw_58 : decode cX6_draw 58 = .ok (.ldc 188, 2) := by decide +kernel
theorem dX6_draw_60 : decode cX6_draw 60 = .ok (.invokespecial 115, 3) := by decide +kernel
theorem dX6_draw_63 : decode cX6_draw 63 = .ok (.athrow, 1) := by decide +kernel
theorem dX6_draw_64 : decode cX6_draw 64 = .ok (.aload_n 0, 1) := by decide +kernel
theorem dX6_draw_65 : decode cX6_draw 65 = .ok (.getfield 40, 3) := by decide +kernel
theorem dX6_draw_68 : decode cX6_draw 68 = .ok (.iload_n 1, 1) := by decide +kernel
theorem dX6_draw_69 : decode cX6_draw 69 = .ok (.iload_n 2, 1) := by decide +kernel
theorem dX6_draw_70 : decode cX6_draw 70 = .ok (.iload_n 3, 1) := by decide +kernel
theorem dX6_draw_71 : decode cX6_draw 71 = .ok (.iload 4, 2) := by decide +kernel
theorem dX6_draw_73 : decode cX6_draw 73 = .ok (.invokevirtual 190, 3) := by decide +kernel
theorem dX6_draw_76 : decode cX6_draw 76 = .ok (.ireturn, 1) := by decide +kernel
theorem dX6_endorse_0 : decode cX6_endorse 0 = .ok (.aload_n 0, 1) := by decide +kernel
theorem dX6_endorse_1 : decode cX6_endorse 1 = .ok (.iload_n 1, 1) := by decide +kernel
theorem dX6_endorse_2 : decode cX6_endorse 2 = .ok (.invokevirtual 193, 3) := by decide +kernel
theorem dX6_endorse_5 : decode cX6_endorse 5 = .ok (.aload_n 0, 1) := by decide +kernel
theorem dX6_endorse_6 : decode cX6_endorse 6 = .ok (.iload_n 2, 1) := by decide +kernel
theorem dX6_endorse_7 : decode cX6_endorse 7 = .ok (.invokevirtual 71, 3) := by decide +kernel
theorem dX6_endorse_10 : decode cX6_endorse 10 = .ok (.aload_n 0, 1) := by decide +kernel
theorem dX6_endorse_11 : decode cX6_endorse 11 = .ok (.getfield 40, 3) := by decide +kernel
theorem dX6_endorse_14 : decode cX6_endorse 14 = .ok (.iload_n 1, 1) := by decide +kernel
theorem dX6_endorse_15 : decode cX6_endorse 15 = .ok (.invokevirtual 196, 3) := by decide +kernel
theorem dX6_endorse_18 : decode cX6_endorse 18 = .ok (.istore_n 3, 1) := by decide +kernel
theorem dX6_endorse_19 : decode cX6_endorse 19 = .ok (.aload_n 0, 1) := by decide +kernel
theorem dX6_endorse_20 : decode cX6_endorse 20 = .ok (.iload_n 3, 1) := by decide +kernel
theorem dX6_endorse_21 : decode cX6_endorse 21 = .ok (.iload_n 2, 1) := by decide +kernel
theorem dX6_endorse_22 : decode cX6_endorse 22 = .ok (.invokevirtual 159, 3) := by decide +kernel
theorem dX6_endorse_25 : decode cX6_endorse 25 = .ok (.iload_n 3, 1) := by decide +kernel
theorem dX6_endorse_26 : decode cX6_endorse 26 = .ok (.iconst (-1), 1) := by decide +kernel
theorem dX6_endorse_27 : decode cX6_endorse 27 = .ok (.if_icmp .ne 13, 3) := by decide +kernel
theorem dX6_endorse_30 : decode cX6_endorse 30 = .ok (.new 66, 3) := by decide +kernel
theorem dX6_endorse_33 : decode cX6_endorse 33 = .ok (.dup, 1) := by decide +kernel
theorem dX6_endorse_34 : decode cX6_endorse 34 = .ok (.ldc 199, 2) := by decide +kernel
theorem dX6_endorse_36 : decode cX6_endorse 36 = .ok (.invokespecial 70, 3) := by decide +kernel
theorem dX6_endorse_39 : decode cX6_endorse 39 = .ok (.athrow, 1) := by decide +kernel
theorem dX6_endorse_40 : decode cX6_endorse 40 = .ok (.aload_n 0, 1) := by decide +kernel
theorem dX6_endorse_41 : decode cX6_endorse 41 = .ok (.iload_n 3, 1) := by decide +kernel
theorem dX6_endorse_42 : decode cX6_endorse 42 = .ok (.invokevirtual 90, 3) := by decide +kernel
theorem dX6_endorse_45 : decode cX6_endorse 45 = .ok (.aload_n 0, 1) := by decide +kernel
theorem dX6_endorse_46 : decode cX6_endorse 46 = .ok (.iload_n 2, 1) := by decide +kernel
theorem dX6_endorse_47 : decode cX6_endorse 47 = .ok (.invokevirtual 90, 3) := by decide +kernel
theorem dX6_endorse_50 : decode cX6_endorse 50 = .ok (.aload_n 0, 1) := by decide +kernel
theorem dX6_endorse_51 : decode cX6_endorse 51 = .ok (.getfield 40, 3) := by decide +kernel
theorem dX6_endorse_54 : decode cX6_endorse 54 = .ok (.iload_n 1, 1) := by decide +kernel
theorem dX6_endorse_55 : decode cX6_endorse 55 = .ok (.invokevirtual 201, 3) := by decide +kernel
theorem dX6_endorse_58 : decode cX6_endorse 58 = .ok (.iconst 5, 1) := by decide +kernel
theorem dX6_endorse_59 : decode cX6_endorse 59 = .ok (.if_icmp .lt 13, 3) := by decide +kernel
theorem dX6_endorse_62 : decode cX6_endorse 62 = .ok (.new 111, 3) := by decide +kernel
theorem dX6_endorse_65 : decode cX6_endorse 65 = .ok (.dup, 1) := by decide +kernel
theorem dX6_endorse_66 : decode cX6_endorse 66 = .ok (.ldc 204, 2) := by decide +kernel
theorem dX6_endorse_68 : decode cX6_endorse 68 = .ok (.invokespecial 115, 3) := by decide +kernel
theorem dX6_endorse_71 : decode cX6_endorse 71 = .ok (.athrow, 1) := by decide +kernel
theorem dX6_endorse_72 : decode cX6_endorse 72 = .ok (.aload_n 0, 1) := by decide +kernel
theorem dX6_endorse_73 : decode cX6_endorse 73 = .ok (.getfield 40, 3) := by decide +kernel
theorem dX6_endorse_76 : decode cX6_endorse 76 = .ok (.iload_n 1, 1) := by decide +kernel
theorem dX6_endorse_77 : decode cX6_endorse 77 = .ok (.iload_n 2, 1) := by decide +kernel
theorem dX6_endorse_78 : decode cX6_endorse 78 = .ok (.invokevirtual 206, 3) := by decide +kernel
theorem dX6_endorse_81 : decode cX6_endorse 81 = .ok (.iload_n 3, 1) := by decide +kernel
theorem dX6_endorse_82 : decode cX6_endorse 82 = .ok (.ireturn, 1) := by decide +kernel
theorem dX6_holderOf_0 : decode cX6_holderOf 0 = .ok (.aload_n 0, 1) := by decide +kernel
theorem dX6_holderOf_1 : decode cX6_holderOf 1 = .ok (.iload_n 1, 1) := by decide +kernel
theorem dX6_holderOf_2 : decode cX6_holderOf 2 = .ok (.invokevirtual 193, 3) := by decide +kernel
theorem dX6_holderOf_5 : decode cX6_holderOf 5 = .ok (.aload_n 0, 1) := by decide +kernel
theorem dX6_holderOf_6 : decode cX6_holderOf 6 = .ok (.getfield 40, 3) := by decide +kernel
theorem dX6_holderOf_9 : decode cX6_holderOf 9 = .ok (.iload_n 1, 1) := by decide +kernel
theorem dX6_holderOf_10 : decode cX6_holderOf 10 = .ok (.invokevirtual 196, 3) := by decide +kernel
theorem dX6_holderOf_13 : decode cX6_holderOf 13 = .ok (.ireturn, 1) := by decide +kernel
theorem dX6_nextDay_0 : decode cX6_nextDay 0 = .ok (.aload_n 0, 1) := by decide +kernel
theorem dX6_nextDay_1 : decode cX6_nextDay 1 = .ok (.getfield 40, 3) := by decide +kernel
theorem dX6_nextDay_4 : decode cX6_nextDay 4 = .ok (.invokevirtual 209, 3) := by decide +kernel
theorem dX6_nextDay_7 : decode cX6_nextDay 7 = .ok (.iconst 0, 1) := by decide +kernel
theorem dX6_nextDay_8 : decode cX6_nextDay 8 = .ok (.istore_n 1, 1) := by decide +kernel
theorem dX6_nextDay_9 : decode cX6_nextDay 9 = .ok (.iconst 0, 1) := by decide +kernel
theorem dX6_nextDay_10 : decode cX6_nextDay 10 = .ok (.istore_n 2, 1) := by decide +kernel
theorem dX6_nextDay_11 : decode cX6_nextDay 11 = .ok (.iload_n 2, 1) := by decide +kernel
theorem dX6_nextDay_12 : decode cX6_nextDay 12 = .ok (.aload_n 0, 1) := by decide +kernel
theorem dX6_nextDay_13 : decode cX6_nextDay 13 = .ok (.getfield 40, 3) := by decide +kernel
theorem dX6_nextDay_16 : decode cX6_nextDay 16 = .ok (.invokevirtual 187, 3) := by decide +kernel
theorem dX6_nextDay_19 : decode cX6_nextDay 19 = .ok (.if_icmp .ge 31, 3) := by decide +kernel
theorem dX6_nextDay_22 : decode cX6_nextDay 22 = .ok (.aload_n 0, 1) := by decide +kernel
theorem dX6_nextDay_23 : decode cX6_nextDay 23 = .ok (.getfield 40, 3) := by decide +kernel
theorem dX6_nextDay_26 : decode cX6_nextDay 26 = .ok (.iload_n 2, 1) := by decide +kernel
theorem dX6_nextDay_27 : decode cX6_nextDay 27 = .ok (.invokevirtual 212, 3) := by decide +kernel
theorem dX6_nextDay_30 : decode cX6_nextDay 30 = .ok (.ifCond .eq 14, 3) := by decide +kernel
theorem dX6_nextDay_33 : decode cX6_nextDay 33 = .ok (.aload_n 0, 1) := by decide +kernel
theorem dX6_nextDay_34 : decode cX6_nextDay 34 = .ok (.iload_n 2, 1) := by decide +kernel
theorem dX6_nextDay_35 : decode cX6_nextDay 35 = .ok (.invokevirtual 215, 3) := by decide +kernel
theorem dX6_nextDay_38 : decode cX6_nextDay 38 = .ok (.ifCond .eq 6, 3) := by decide +kernel
theorem dX6_nextDay_41 : decode cX6_nextDay 41 = .ok (.iinc 1 1, 3) := by decide +kernel
theorem dX6_nextDay_44 : decode cX6_nextDay 44 = .ok (.iinc 2 1, 3) := by decide +kernel
theorem dX6_nextDay_47 : decode cX6_nextDay 47 = .ok (.goto (-36), 3) := by decide +kernel
theorem dX6_nextDay_50 : decode cX6_nextDay 50 = .ok (.iload_n 1, 1) := by decide +kernel
theorem dX6_nextDay_51 : decode cX6_nextDay 51 = .ok (.ireturn, 1) := by decide +kernel
theorem dX6_addShare_0 : decode cX6_addShare 0 = .ok (.aload_n 0, 1) := by decide +kernel
theorem dX6_addShare_1 : decode cX6_addShare 1 = .ok (.iload_n 1, 1) := by decide +kernel
theorem dX6_addShare_2 : decode cX6_addShare 2 = .ok (.invokevirtual 218, 3) := by decide +kernel
theorem dX6_addShare_5 : decode cX6_addShare 5 = .ok (.aload_n 0, 1) := by decide +kernel
theorem dX6_addShare_6 : decode cX6_addShare 6 = .ok (.iload_n 2, 1) := by decide +kernel
theorem dX6_addShare_7 : decode cX6_addShare 7 = .ok (.invokevirtual 71, 3) := by decide +kernel
theorem dX6_addShare_10 : decode cX6_addShare 10 = .ok (.aload_n 0, 1) := by decide +kernel
theorem dX6_addShare_11 : decode cX6_addShare 11 = .ok (.iload_n 3, 1) := by decide +kernel
theorem dX6_addShare_12 : decode cX6_addShare 12 = .ok (.bipush 99, 2) := by decide +kernel
theorem dX6_addShare_14 : decode cX6_addShare 14 = .ok (.invokevirtual 86, 3) := by decide +kernel
theorem dX6_addShare_17 : decode cX6_addShare 17 = .ok (.aload_n 0, 1) := by decide +kernel
theorem dX6_addShare_18 : decode cX6_addShare 18 = .ok (.iload_n 2, 1) := by decide +kernel
theorem dX6_addShare_19 : decode cX6_addShare 19 = .ok (.invokevirtual 90, 3) := by decide +kernel
theorem dX6_addShare_22 : decode cX6_addShare 22 = .ok (.aload_n 0, 1) := by decide +kernel
theorem dX6_addShare_23 : decode cX6_addShare 23 = .ok (.getfield 47, 3) := by decide +kernel
theorem dX6_addShare_26 : decode cX6_addShare 26 = .ok (.iload_n 1, 1) := by decide +kernel
theorem dX6_addShare_27 : decode cX6_addShare 27 = .ok (.iload_n 2, 1) := by decide +kernel
theorem dX6_addShare_28 : decode cX6_addShare 28 = .ok (.iload_n 3, 1) := by decide +kernel
theorem dX6_addShare_29 : decode cX6_addShare 29 = .ok (.invokevirtual 221, 3) := by decide +kernel
theorem dX6_addShare_32 : decode cX6_addShare 32 = .ok (.aload_n 0, 1) := by decide +kernel
theorem dX6_addShare_33 : decode cX6_addShare 33 = .ok (.getfield 47, 3) := by decide +kernel
theorem dX6_addShare_36 : decode cX6_addShare 36 = .ok (.iload_n 1, 1) := by decide +kernel
theorem dX6_addShare_37 : decode cX6_addShare 37 = .ok (.iload_n 2, 1) := by decide +kernel
theorem dX6_addShare_38 : decode cX6_addShare 38 = .ok (.invokevirtual 224, 3) := by decide +kernel
theorem dX6_addShare_41 : decode cX6_addShare 41 = .ok (.ireturn, 1) := by decide +kernel
theorem dX6_throwOver_0 : decode cX6_throwOver 0 = .ok (.aload_n 0, 1) := by decide +kernel
theorem dX6_throwOver_1 : decode cX6_throwOver 1 = .ok (.iload_n 1, 1) := by decide +kernel
theorem dX6_throwOver_2 : decode cX6_throwOver 2 = .ok (.invokevirtual 218, 3) := by decide +kernel
theorem dX6_throwOver_5 : decode cX6_throwOver 5 = .ok (.aload_n 0, 1) := by decide +kernel
theorem dX6_throwOver_6 : decode cX6_throwOver 6 = .ok (.iload_n 2, 1) := by decide +kernel
theorem dX6_throwOver_7 : decode cX6_throwOver 7 = .ok (.invokevirtual 71, 3) := by decide +kernel
theorem dX6_throwOver_10 : decode cX6_throwOver 10 = .ok (.aload_n 0, 1) := by decide +kernel
theorem dX6_throwOver_11 : decode cX6_throwOver 11 = .ok (.iload_n 3, 1) := by decide +kernel
theorem dX6_throwOver_12 : decode cX6_throwOver 12 = .ok (.bipush 99, 2) := by decide +kernel
theorem dX6_throwOver_14 : decode cX6_throwOver 14 = .ok (.invokevirtual 86, 3) := by decide +kernel
theorem dX6_throwOver_17 : decode cX6_throwOver 17 = .ok (.aload_n 0, 1) := by decide +kernel
theorem dX6_throwOver_18 : decode cX6_throwOver 18 = .ok (.iload_n 2, 1) := by decide +kernel
theorem dX6_throwOver_19 : decode cX6_throwOver 19 = .ok (.invokevirtual 90, 3) := by decide +kernel
theorem dX6_throwOver_22 : decode cX6_throwOver 22 = .ok (.aload_n 0, 1) := by decide +kernel
theorem dX6_throwOver_23 : decode cX6_throwOver 23 = .ok (.iload_n 1, 1) := by decide +kernel
theorem dX6_throwOver_24 : decode cX6_throwOver 24 = .ok (.invokevirtual 227, 3) := by decide +kernel
theorem dX6_throwOver_27 : decode cX6_throwOver 27 = .ok (.aload_n 0, 1) := by decide +kernel
theorem dX6_throwOver_28 : decode cX6_throwOver 28 = .ok (.getfield 47, 3) := by decide +kernel
theorem dX6_throwOver_31 : decode cX6_throwOver 31 = .ok (.iload_n 1, 1) := by decide +kernel
theorem dX6_throwOver_32 : decode cX6_throwOver 32 = .ok (.iload_n 2, 1) := by decide +kernel
theorem dX6_throwOver_33 : decode cX6_throwOver 33 = .ok (.invokevirtual 224, 3) := by decide +kernel
theorem dX6_throwOver_36 : decode cX6_throwOver 36 = .ok (.ifCond .ne 13, 3) := by decide +kernel
theorem dX6_throwOver_39 : decode cX6_throwOver 39 = .ok (.new 111, 3) := by decide +kernel
theorem dX6_throwOver_42 : decode cX6_throwOver 42 = .ok (.dup, 1) := by decide +kernel
theorem dX6_throwOver_43 : decode cX6_throwOver 43 = .ok (.ldc 230, 2) := by decide +kernel
theorem dX6_throwOver_45 : decode cX6_throwOver 45 = .ok (.invokespecial 115, 3) := by decide +kernel
theorem dX6_throwOver_48 : decode cX6_throwOver 48 = .ok (.athrow, 1) := by decide +kernel
theorem dX6_throwOver_49 : decode cX6_throwOver 49 = .ok (.aload_n 0, 1) := by decide +kernel
theorem dX6_throwOver_50 : decode cX6_throwOver 50 = .ok (.getfield 47, 3) := by decide +kernel
theorem dX6_throwOver_53 : decode cX6_throwOver 53 = .ok (.iload_n 1, 1) := by decide +kernel
theorem dX6_throwOver_54 : decode cX6_throwOver 54 = .ok (.iload_n 3, 1) := by decide +kernel
theorem dX6_throwOver_55 : decode cX6_throwOver 55 = .ok (.invokevirtual 232, 3) := by decide +kernel
theorem dX6_throwOver_58 : decode cX6_throwOver 58 = .ok (.iconst 0, 1) := by decide +kernel
theorem dX6_throwOver_59 : decode cX6_throwOver 59 = .ok (.istore 4, 2) := by decide +kernel
theorem dX6_throwOver_61 : decode cX6_throwOver 61 = .ok (.iload 4, 2) := by decide +kernel
theorem dX6_throwOver_63 : decode cX6_throwOver 63 = .ok (.bipush 6, 2) := by decide +kernel
theorem dX6_throwOver_65 : decode cX6_throwOver 65 = .ok (.if_icmp .ge 34, 3) := by decide +kernel
theorem dX6_throwOver_68 : decode cX6_throwOver 68 = .ok (.iload 4, 2) := by decide +kernel
theorem dX6_throwOver_70 : decode cX6_throwOver 70 = .ok (.iload_n 2, 1) := by decide +kernel
theorem dX6_throwOver_71 : decode cX6_throwOver 71 = .ok (.if_icmp .eq 22, 3) := by decide +kernel
theorem dX6_throwOver_74 : decode cX6_throwOver 74 = .ok (.aload_n 0, 1) := by decide +kernel
theorem dX6_throwOver_75 : decode cX6_throwOver 75 = .ok (.getfield 33, 3) := by decide +kernel
theorem dX6_throwOver_78 : decode cX6_throwOver 78 = .ok (.iload_n 2, 1) := by decide +kernel
theorem dX6_throwOver_79 : decode cX6_throwOver 79 = .ok (.iload 4, 2) := by decide +kernel
theorem dX6_throwOver_81 : decode cX6_throwOver 81 = .ok (.aload_n 0, 1) := by decide +kernel
theorem dX6_throwOver_82 : decode cX6_throwOver 82 = .ok (.getfield 47, 3) := by decide +kernel
theorem dX6_throwOver_85 : decode cX6_throwOver 85 = .ok (.iload 4, 2) := by decide +kernel
theorem dX6_throwOver_87 : decode cX6_throwOver 87 = .ok (.invokevirtual 235, 3) := by decide +kernel
theorem dX6_throwOver_90 : decode cX6_throwOver 90 = .ok (.invokevirtual 172, 3) := by decide +kernel
theorem dX6_throwOver_93 : decode cX6_throwOver 93 = .ok (.iinc 4 1, 3) := by decide +kernel
theorem dX6_throwOver_96 : decode cX6_throwOver 96 = .ok (.goto (-35), 3) := by decide +kernel
theorem dX6_throwOver_99 : decode cX6_throwOver 99 = .ok (.aload_n 0, 1) := by decide +kernel
theorem dX6_throwOver_100 : decode cX6_throwOver 100 = .ok (.getfield 47, 3) := by decide +kernel
theorem dX6_throwOver_103 : decode cX6_throwOver 103 = .ok (.iload_n 2, 1) := by decide +kernel
theorem dX6_throwOver_104 : decode cX6_throwOver 104 = .ok (.invokevirtual 235, 3) := by decide +kernel
theorem dX6_throwOver_107 : decode cX6_throwOver 107 = .ok (.ireturn, 1) := by decide +kernel
theorem dX6_coins_0 : decode cX6_coins 0 = .ok (.aload_n 0, 1) := by decide +kernel
theorem dX6_coins_1 : decode cX6_coins 1 = .ok (.iload_n 1, 1) := by decide +kernel
theorem dX6_coins_2 : decode cX6_coins 2 = .ok (.invokevirtual 71, 3) := by decide +kernel
theorem dX6_coins_5 : decode cX6_coins 5 = .ok (.aload_n 0, 1) := by decide +kernel
theorem dX6_coins_6 : decode cX6_coins 6 = .ok (.getfield 26, 3) := by decide +kernel
theorem dX6_coins_9 : decode cX6_coins 9 = .ok (.iload_n 1, 1) := by decide +kernel
theorem dX6_coins_10 : decode cX6_coins 10 = .ok (.aload_n 0, 1) := by decide +kernel
theorem dX6_coins_11 : decode cX6_coins 11 = .ok (.iload_n 2, 1) := by decide +kernel
theorem dX6_coins_12 : decode cX6_coins 12 = .ok (.invokevirtual 83, 3) := by decide +kernel
theorem dX6_coins_15 : decode cX6_coins 15 = .ok (.invokevirtual 238, 3) := by decide +kernel
theorem dX6_coins_18 : decode cX6_coins 18 = .ok (.ireturn, 1) := by decide +kernel
theorem dX6_weightOf_0 : decode cX6_weightOf 0 = .ok (.aload_n 0, 1) := by decide +kernel
theorem dX6_weightOf_1 : decode cX6_weightOf 1 = .ok (.iload_n 1, 1) := by decide +kernel
theorem dX6_weightOf_2 : decode cX6_weightOf 2 = .ok (.invokevirtual 126, 3) := by decide +kernel
theorem dX6_weightOf_5 : decode cX6_weightOf 5 = .ok (.aload_n 0, 1) := by decide +kernel
theorem dX6_weightOf_6 : decode cX6_weightOf 6 = .ok (.getfield 26, 3) := by decide +kernel
theorem dX6_weightOf_9 : decode cX6_weightOf 9 = .ok (.iload_n 1, 1) := by decide +kernel
theorem dX6_weightOf_10 : decode cX6_weightOf 10 = .ok (.invokevirtual 132, 3) := by decide +kernel
theorem dX6_weightOf_13 : decode cX6_weightOf 13 = .ok (.ireturn, 1) := by decide +kernel
theorem dX6_ownerOf_0 : decode cX6_ownerOf 0 = .ok (.aload_n 0, 1) := by decide +kernel
theorem dX6_ownerOf_1 : decode cX6_ownerOf 1 = .ok (.iload_n 1, 1) := by decide +kernel
theorem dX6_ownerOf_2 : decode cX6_ownerOf 2 = .ok (.invokevirtual 126, 3) := by decide +kernel
theorem dX6_ownerOf_5 : decode cX6_ownerOf 5 = .ok (.aload_n 0, 1) := by decide +kernel
theorem dX6_ownerOf_6 : decode cX6_ownerOf 6 = .ok (.getfield 26, 3) := by decide +kernel
theorem dX6_ownerOf_9 : decode cX6_ownerOf 9 = .ok (.iload_n 1, 1) := by decide +kernel
theorem dX6_ownerOf_10 : decode cX6_ownerOf 10 = .ok (.invokevirtual 140, 3) := by decide +kernel
theorem dX6_ownerOf_13 : decode cX6_ownerOf 13 = .ok (.ireturn, 1) := by decide +kernel
theorem dX6_owners_0 : decode cX6_owners 0 = .ok (.aload_n 0, 1) := by decide +kernel
theorem dX6_owners_1 : decode cX6_owners 1 = .ok (.iload_n 1, 1) := by decide +kernel
theorem dX6_owners_2 : decode cX6_owners 2 = .ok (.invokevirtual 126, 3) := by decide +kernel
theorem dX6_owners_5 : decode cX6_owners 5 = .ok (.aload_n 0, 1) := by decide +kernel
theorem dX6_owners_6 : decode cX6_owners 6 = .ok (.getfield 26, 3) := by decide +kernel
theorem dX6_owners_9 : decode cX6_owners 9 = .ok (.iload_n 1, 1) := by decide +kernel
theorem dX6_owners_10 : decode cX6_owners 10 = .ok (.invokevirtual 241, 3) := by decide +kernel
theorem dX6_owners_13 : decode cX6_owners 13 = .ok (.ireturn, 1) := by decide +kernel
theorem dX6_ore_0 : decode cX6_ore 0 = .ok (.aload_n 0, 1) := by decide +kernel
theorem dX6_ore_1 : decode cX6_ore 1 = .ok (.iload_n 1, 1) := by decide +kernel
theorem dX6_ore_2 : decode cX6_ore 2 = .ok (.invokevirtual 71, 3) := by decide +kernel
theorem dX6_ore_5 : decode cX6_ore 5 = .ok (.aload_n 0, 1) := by decide +kernel
theorem dX6_ore_6 : decode cX6_ore 6 = .ok (.getfield 19, 3) := by decide +kernel
theorem dX6_ore_9 : decode cX6_ore 9 = .ok (.iload_n 1, 1) := by decide +kernel
theorem dX6_ore_10 : decode cX6_ore 10 = .ok (.aload_n 0, 1) := by decide +kernel
theorem dX6_ore_11 : decode cX6_ore 11 = .ok (.iload_n 2, 1) := by decide +kernel
theorem dX6_ore_12 : decode cX6_ore 12 = .ok (.invokevirtual 83, 3) := by decide +kernel
theorem dX6_ore_15 : decode cX6_ore 15 = .ok (.invokevirtual 97, 3) := by decide +kernel
theorem dX6_ore_18 : decode cX6_ore 18 = .ok (.ireturn, 1) := by decide +kernel
theorem dX6_wealth_0 : decode cX6_wealth 0 = .ok (.aload_n 0, 1) := by decide +kernel
theorem dX6_wealth_1 : decode cX6_wealth 1 = .ok (.iload_n 1, 1) := by decide +kernel
theorem dX6_wealth_2 : decode cX6_wealth 2 = .ok (.invokevirtual 71, 3) := by decide +kernel
theorem dX6_wealth_5 : decode cX6_wealth 5 = .ok (.lconst 0, 1) := by decide +kernel
theorem dX6_wealth_6 : decode cX6_wealth 6 = .ok (.lstore_n 2, 1) := by decide +kernel
theorem dX6_wealth_7 : decode cX6_wealth 7 = .ok (.iconst 0, 1) := by decide +kernel
theorem dX6_wealth_8 : decode cX6_wealth 8 = .ok (.istore 4, 2) := by decide +kernel
theorem dX6_wealth_10 : decode cX6_wealth 10 = .ok (.iload 4, 2) := by decide +kernel
theorem dX6_wealth_12 : decode cX6_wealth 12 = .ok (.iconst 2, 1) := by decide +kernel
theorem dX6_wealth_13 : decode cX6_wealth 13 = .ok (.if_icmp .ge 34, 3) := by decide +kernel
theorem dX6_wealth_16 : decode cX6_wealth 16 = .ok (.lload_n 2, 1) := by decide +kernel
theorem dX6_wealth_17 : decode cX6_wealth 17 = .ok (.aload_n 0, 1) := by decide +kernel
theorem dX6_wealth_18 : decode cX6_wealth 18 = .ok (.getfield 26, 3) := by decide +kernel
theorem dX6_wealth_21 : decode cX6_wealth 21 = .ok (.iload_n 1, 1) := by decide +kernel
theorem dX6_wealth_22 : decode cX6_wealth 22 = .ok (.iload 4, 2) := by decide +kernel
theorem dX6_wealth_24 : decode cX6_wealth 24 = .ok (.invokevirtual 238, 3) := by decide +kernel
theorem dX6_wealth_27 : decode cX6_wealth 27 = .ok (.i2l, 1) := by decide +kernel
theorem dX6_wealth_28 : decode cX6_wealth 28 = .ok (.aload_n 0, 1) := by decide +kernel
theorem dX6_wealth_29 : decode cX6_wealth 29 = .ok (.getfield 19, 3) := by decide +kernel
theorem dX6_wealth_32 : decode cX6_wealth 32 = .ok (.iload 4, 2) := by decide +kernel
theorem dX6_wealth_34 : decode cX6_wealth 34 = .ok (.invokevirtual 101, 3) := by decide +kernel
theorem dX6_wealth_37 : decode cX6_wealth 37 = .ok (.i2l, 1) := by decide +kernel
theorem dX6_wealth_38 : decode cX6_wealth 38 = .ok (.lmul, 1) := by decide +kernel
theorem dX6_wealth_39 : decode cX6_wealth 39 = .ok (.ladd, 1) := by decide +kernel
theorem dX6_wealth_40 : decode cX6_wealth 40 = .ok (.lstore_n 2, 1) := by decide +kernel
theorem dX6_wealth_41 : decode cX6_wealth 41 = .ok (.iinc 4 1, 3) := by decide +kernel
theorem dX6_wealth_44 : decode cX6_wealth 44 = .ok (.goto (-34), 3) := by decide +kernel
theorem dX6_wealth_47 : decode cX6_wealth 47 = .ok (.lload_n 2, 1) := by decide +kernel
theorem dX6_wealth_48 : decode cX6_wealth 48 = .ok (.aload_n 0, 1) := by decide +kernel
theorem dX6_wealth_49 : decode cX6_wealth 49 = .ok (.getfield 33, 3) := by decide +kernel
theorem dX6_wealth_52 : decode cX6_wealth 52 = .ok (.iload_n 1, 1) := by decide +kernel
theorem dX6_wealth_53 : decode cX6_wealth 53 = .ok (.invokevirtual 244, 3) := by decide +kernel
theorem dX6_wealth_56 : decode cX6_wealth 56 = .ok (.ladd, 1) := by decide +kernel
theorem dX6_wealth_57 : decode cX6_wealth 57 = .ok (.aload_n 0, 1) := by decide +kernel
theorem dX6_wealth_58 : decode cX6_wealth 58 = .ok (.getfield 33, 3) := by decide +kernel
theorem dX6_wealth_61 : decode cX6_wealth 61 = .ok (.iload_n 1, 1) := by decide +kernel
theorem dX6_wealth_62 : decode cX6_wealth 62 = .ok (.invokevirtual 248, 3) := by decide +kernel
theorem dX6_wealth_65 : decode cX6_wealth 65 = .ok (.lsub, 1) := by decide +kernel
theorem dX6_wealth_66 : decode cX6_wealth 66 = .ok (.lreturn, 1) := by decide +kernel
theorem dX6_lost_0 : decode cX6_lost 0 = .ok (.aload_n 0, 1) := by decide +kernel
theorem dX6_lost_1 : decode cX6_lost 1 = .ok (.getfield 251, 3) := by decide +kernel
theorem dX6_lost_4 : decode cX6_lost 4 = .ok (.lreturn, 1) := by decide +kernel
theorem dX6_lightShare_0 : decode cX6_lightShare 0 = .ok (.aload_n 0, 1) := by decide +kernel
theorem dX6_lightShare_1 : decode cX6_lightShare 1 = .ok (.invokevirtual 255, 3) := by decide +kernel
theorem dX6_lightShare_4 : decode cX6_lightShare 4 = .ok (.istore_n 1, 1) := by decide +kernel
theorem dX6_lightShare_5 : decode cX6_lightShare 5 = .ok (.iconst 0, 1) := by decide +kernel
theorem dX6_lightShare_6 : decode cX6_lightShare 6 = .ok (.istore_n 2, 1) := by decide +kernel
theorem dX6_lightShare_7 : decode cX6_lightShare 7 = .ok (.iconst 0, 1) := by decide +kernel
theorem dX6_lightShare_8 : decode cX6_lightShare 8 = .ok (.istore_n 3, 1) := by decide +kernel
theorem dX6_lightShare_9 : decode cX6_lightShare 9 = .ok (.iload_n 3, 1) := by decide +kernel
theorem dX6_lightShare_10 : decode cX6_lightShare 10 = .ok (.iconst 2, 1) := by decide +kernel
theorem dX6_lightShare_11 : decode cX6_lightShare 11 = .ok (.if_icmp .ge 28, 3) := by decide +kernel
theorem dX6_lightShare_14 : decode cX6_lightShare 14 = .ok (.iload_n 2, 1) := by decide +kernel
theorem dX6_lightShare_15 : decode cX6_lightShare 15 = .ok (.aload_n 0, 1) := by decide +kernel
theorem dX6_lightShare_16 : decode cX6_lightShare 16 = .ok (.getfield 26, 3) := by decide +kernel
theorem dX6_lightShare_19 : decode cX6_lightShare 19 = .ok (.iload_n 3, 1) := by decide +kernel
theorem dX6_lightShare_20 : decode cX6_lightShare 20 = .ok (.aload_n 0, 1) := by decide +kernel
theorem dX6_lightShare_21 : decode cX6_lightShare 21 = .ok (.getfield 19, 3) := by decide +kernel
theorem dX6_lightShare_24 : decode cX6_lightShare 24 = .ok (.iload_n 3, 1) := by decide +kernel
theorem dX6_lightShare_25 : decode cX6_lightShare 25 = .ok (.invokevirtual 105, 3) := by decide +kernel
theorem dX6_lightShare_28 : decode cX6_lightShare 28 = .ok (.invokevirtual 258, 3) := by decide +kernel
theorem dX6_lightShare_31 : decode cX6_lightShare 31 = .ok (.iadd, 1) := by decide +kernel
theorem dX6_lightShare_32 : decode cX6_lightShare 32 = .ok (.istore_n 2, 1) := by decide +kernel
theorem dX6_lightShare_33 : decode cX6_lightShare 33 = .ok (.iinc 3 1, 3) := by decide +kernel
theorem dX6_lightShare_36 : decode cX6_lightShare 36 = .ok (.goto (-27), 3) := by decide +kernel
theorem dX6_lightShare_39 : decode cX6_lightShare 39 = .ok (.iload_n 2, 1) := by decide +kernel
theorem dX6_lightShare_40 : decode cX6_lightShare 40 = .ok (.i2f, 1) := by decide +kernel
theorem dX6_lightShare_41 : decode cX6_lightShare 41 = .ok (.iload_n 1, 1) := by decide +kernel
theorem dX6_lightShare_42 : decode cX6_lightShare 42 = .ok (.i2f, 1) := by decide +kernel
theorem dX6_lightShare_43 : decode cX6_lightShare 43 = .ok (.fdiv, 1) := by decide +kernel
theorem dX6_lightShare_44 : decode cX6_lightShare 44 = .ok (.freturn, 1) := by decide +kernel
theorem dX6_meanWeight_0 : decode cX6_meanWeight 0 = .ok (.aload_n 0, 1) := by decide +kernel
theorem dX6_meanWeight_1 : decode cX6_meanWeight 1 = .ok (.invokevirtual 255, 3) := by decide +kernel
theorem dX6_meanWeight_4 : decode cX6_meanWeight 4 = .ok (.istore_n 1, 1) := by decide +kernel
theorem dX6_meanWeight_5 : decode cX6_meanWeight 5 = .ok (.aload_n 0, 1) := by decide +kernel
theorem dX6_meanWeight_6 : decode cX6_meanWeight 6 = .ok (.getfield 26, 3) := by decide +kernel
theorem dX6_meanWeight_9 : decode cX6_meanWeight 9 = .ok (.iconst 0, 1) := by decide +kernel
theorem dX6_meanWeight_10 : decode cX6_meanWeight 10 = .ok (.invokevirtual 261, 3) := by decide +kernel
theorem dX6_meanWeight_13 : decode cX6_meanWeight 13 = .ok (.aload_n 0, 1) := by decide +kernel
theorem dX6_meanWeight_14 : decode cX6_meanWeight 14 = .ok (.getfield 26, 3) := by decide +kernel
theorem dX6_meanWeight_17 : decode cX6_meanWeight 17 = .ok (.iconst 1, 1) := by decide +kernel
theorem dX6_meanWeight_18 : decode cX6_meanWeight 18 = .ok (.invokevirtual 261, 3) := by decide +kernel
theorem dX6_meanWeight_21 : decode cX6_meanWeight 21 = .ok (.iadd, 1) := by decide +kernel
theorem dX6_meanWeight_22 : decode cX6_meanWeight 22 = .ok (.istore_n 2, 1) := by decide +kernel
theorem dX6_meanWeight_23 : decode cX6_meanWeight 23 = .ok (.iload_n 2, 1) := by decide +kernel
theorem dX6_meanWeight_24 : decode cX6_meanWeight 24 = .ok (.i2d, 1) := by decide +kernel
theorem dX6_meanWeight_25 : decode cX6_meanWeight 25 = .ok (.iload_n 1, 1) := by decide +kernel
theorem dX6_meanWeight_26 : decode cX6_meanWeight 26 = .ok (.i2d, 1) := by decide +kernel
theorem dX6_meanWeight_27 : decode cX6_meanWeight 27 = .ok (.ddiv, 1) := by decide +kernel
theorem dX6_meanWeight_28 : decode cX6_meanWeight 28 = .ok (.dreturn, 1) := by decide +kernel
theorem dX6_isSound_0 : decode cX6_isSound 0 = .ok (.aload_n 0, 1) := by decide +kernel
theorem dX6_isSound_1 : decode cX6_isSound 1 = .ok (.iconst 0, 1) := by decide +kernel
theorem dX6_isSound_2 : decode cX6_isSound 2 = .ok (.invokevirtual 264, 3) := by decide +kernel
theorem dX6_isSound_5 : decode cX6_isSound 5 = .ok (.ifCond .eq 32, 3) := by decide +kernel
theorem dX6_isSound_8 : decode cX6_isSound 8 = .ok (.aload_n 0, 1) := by decide +kernel
theorem dX6_isSound_9 : decode cX6_isSound 9 = .ok (.iconst 1, 1) := by decide +kernel
theorem dX6_isSound_10 : decode cX6_isSound 10 = .ok (.invokevirtual 264, 3) := by decide +kernel
theorem dX6_isSound_13 : decode cX6_isSound 13 = .ok (.ifCond .eq 24, 3) := by decide +kernel
theorem dX6_isSound_16 : decode cX6_isSound 16 = .ok (.aload_n 0, 1) := by decide +kernel
theorem dX6_isSound_17 : decode cX6_isSound 17 = .ok (.invokevirtual 267, 3) := by decide +kernel
theorem dX6_isSound_20 : decode cX6_isSound 20 = .ok (.ifCond .eq 17, 3) := by decide +kernel
theorem dX6_isSound_23 : decode cX6_isSound 23 = .ok (.aload_n 0, 1) := by decide +kernel
theorem dX6_isSound_24 : decode cX6_isSound 24 = .ok (.getfield 26, 3) := by decide +kernel
theorem dX6_isSound_27 : decode cX6_isSound 27 = .ok (.invokevirtual 271, 3) := by decide +kernel
theorem dX6_isSound_30 : decode cX6_isSound 30 = .ok (.ifCond .eq 7, 3) := by decide +kernel
theorem dX6_isSound_33 : decode cX6_isSound 33 = .ok (.iconst 1, 1) := by decide +kernel
theorem dX6_isSound_34 : decode cX6_isSound 34 = .ok (.goto 4, 3) := by decide +kernel
theorem dX6_isSound_37 : decode cX6_isSound 37 = .ok (.iconst 0, 1) := by decide +kernel
theorem dX6_isSound_38 : decode cX6_isSound 38 = .ok (.ireturn, 1) := by decide +kernel
theorem dX6_needHouse_0 : decode cX6_needHouse 0 = .ok (.iload_n 1, 1) := by decide +kernel
theorem dX6_needHouse_1 : decode cX6_needHouse 1 = .ok (.ifCond .lt 14, 3) := by decide +kernel
theorem dX6_needHouse_4 : decode cX6_needHouse 4 = .ok (.iload_n 1, 1) := by decide +kernel
theorem dX6_needHouse_5 : decode cX6_needHouse 5 = .ok (.aload_n 0, 1) := by decide +kernel
theorem dX6_needHouse_6 : decode cX6_needHouse 6 = .ok (.getfield 10, 3) := by decide +kernel
theorem dX6_needHouse_9 : decode cX6_needHouse 9 = .ok (.invokevirtual 62, 3) := by decide +kernel
theorem dX6_needHouse_12 : decode cX6_needHouse 12 = .ok (.if_icmp .lt 14, 3) := by decide +kernel
theorem dX6_needHouse_15 : decode cX6_needHouse 15 = .ok (.new 274, 3) := by decide +kernel
theorem dX6_needHouse_18 : decode cX6_needHouse 18 = .ok (.dup, 1) := by decide +kernel
theorem dX6_needHouse_19 : decode cX6_needHouse 19 = .ok (.ldc_w 276, 3) := by decide +kernel
theorem dX6_needHouse_22 : decode cX6_needHouse 22 = .ok (.invokespecial 278, 3) := by decide +kernel
theorem dX6_needHouse_25 : decode cX6_needHouse 25 = .ok (.athrow, 1) := by decide +kernel
theorem dX6_needHouse_26 : decode cX6_needHouse 26 = .ok (.return_, 1) := by decide +kernel
theorem dX6_needCoin_0 : decode cX6_needCoin 0 = .ok (.iload_n 1, 1) := by decide +kernel
theorem dX6_needCoin_1 : decode cX6_needCoin 1 = .ok (.ifCond .lt 14, 3) := by decide +kernel
theorem dX6_needCoin_4 : decode cX6_needCoin 4 = .ok (.iload_n 1, 1) := by decide +kernel
theorem dX6_needCoin_5 : decode cX6_needCoin 5 = .ok (.aload_n 0, 1) := by decide +kernel
theorem dX6_needCoin_6 : decode cX6_needCoin 6 = .ok (.getfield 26, 3) := by decide +kernel
theorem dX6_needCoin_9 : decode cX6_needCoin 9 = .ok (.invokevirtual 121, 3) := by decide +kernel
theorem dX6_needCoin_12 : decode cX6_needCoin 12 = .ok (.if_icmp .lt 14, 3) := by decide +kernel
theorem dX6_needCoin_15 : decode cX6_needCoin 15 = .ok (.new 274, 3) := by decide +kernel
theorem dX6_needCoin_18 : decode cX6_needCoin 18 = .ok (.dup, 1) := by decide +kernel
theorem dX6_needCoin_19 : decode cX6_needCoin 19 = .ok (.ldc_w 279, 3) := by decide +kernel
theorem dX6_needCoin_22 : decode cX6_needCoin 22 = .ok (.invokespecial 278, 3) := by decide +kernel
theorem dX6_needCoin_25 : decode cX6_needCoin 25 = .ok (.athrow, 1) := by decide +kernel
theorem dX6_needCoin_26 : decode cX6_needCoin 26 = .ok (.return_, 1) := by decide +kernel
theorem dX6_needBill_0 : decode cX6_needBill 0 = .ok (.iload_n 1, 1) := by decide +kernel
theorem dX6_needBill_1 : decode cX6_needBill 1 = .ok (.ifCond .lt 14, 3) := by decide +kernel
theorem dX6_needBill_4 : decode cX6_needBill 4 = .ok (.iload_n 1, 1) := by decide +kernel
theorem dX6_needBill_5 : decode cX6_needBill 5 = .ok (.aload_n 0, 1) := by decide +kernel
theorem dX6_needBill_6 : decode cX6_needBill 6 = .ok (.getfield 40, 3) := by decide +kernel
theorem dX6_needBill_9 : decode cX6_needBill 9 = .ok (.invokevirtual 187, 3) := by decide +kernel
theorem dX6_needBill_12 : decode cX6_needBill 12 = .ok (.if_icmp .lt 14, 3) := by decide +kernel
theorem dX6_needBill_15 : decode cX6_needBill 15 = .ok (.new 274, 3) := by decide +kernel
theorem dX6_needBill_18 : decode cX6_needBill 18 = .ok (.dup, 1) := by decide +kernel
theorem dX6_needBill_19 : decode cX6_needBill 19 = .ok (.ldc_w 281, 3) := by decide +kernel
theorem dX6_needBill_22 : decode cX6_needBill 22 = .ok (.invokespecial 278, 3) := by decide +kernel
theorem dX6_needBill_25 : decode cX6_needBill 25 = .ok (.athrow, 1) := by decide +kernel
theorem dX6_needBill_26 : decode cX6_needBill 26 = .ok (.return_, 1) := by decide +kernel
theorem dX6_needVoyage_0 : decode cX6_needVoyage 0 = .ok (.iload_n 1, 1) := by decide +kernel
theorem dX6_needVoyage_1 : decode cX6_needVoyage 1 = .ok (.ifCond .lt 8, 3) := by decide +kernel
theorem dX6_needVoyage_4 : decode cX6_needVoyage 4 = .ok (.iload_n 1, 1) := by decide +kernel
theorem dX6_needVoyage_5 : decode cX6_needVoyage 5 = .ok (.iconst 4, 1) := by decide +kernel
theorem dX6_needVoyage_6 : decode cX6_needVoyage 6 = .ok (.if_icmp .lt 14, 3) := by decide +kernel
theorem dX6_needVoyage_9 : decode cX6_needVoyage 9 = .ok (.new 274, 3) := by decide +kernel
theorem dX6_needVoyage_12 : decode cX6_needVoyage 12 = .ok (.dup, 1) := by decide +kernel
theorem dX6_needVoyage_13 : decode cX6_needVoyage 13 = .ok (.ldc_w 283, 3) := by decide +kernel
theorem dX6_needVoyage_16 : decode cX6_needVoyage 16 = .ok (.invokespecial 278, 3) := by decide +kernel
theorem dX6_needVoyage_19 : decode cX6_needVoyage 19 = .ok (.athrow, 1) := by decide +kernel
theorem dX6_needVoyage_20 : decode cX6_needVoyage 20 = .ok (.return_, 1) := by decide +kernel
theorem dX6_metalNumber_0 : decode cX6_metalNumber 0 = .ok (.iload_n 1, 1) := by decide +kernel
theorem dX6_metalNumber_1 : decode cX6_metalNumber 1 = .ok (.bipush 103, 2) := by decide +kernel
theorem dX6_metalNumber_3 : decode cX6_metalNumber 3 = .ok (.if_icmp .ne 5, 3) := by decide +kernel
theorem dX6_metalNumber_6 : decode cX6_metalNumber 6 = .ok (.iconst 0, 1) := by decide +kernel
theorem dX6_metalNumber_7 : decode cX6_metalNumber 7 = .ok (.ireturn, 1) := by decide +kernel
theorem dX6_metalNumber_8 : decode cX6_metalNumber 8 = .ok (.iload_n 1, 1) := by decide +kernel
theorem dX6_metalNumber_9 : decode cX6_metalNumber 9 = .ok (.bipush 115, 2) := by decide +kernel
theorem dX6_metalNumber_11 : decode cX6_metalNumber 11 = .ok (.if_icmp .ne 5, 3) := by decide +kernel
theorem dX6_metalNumber_14 : decode cX6_metalNumber 14 = .ok (.iconst 1, 1) := by decide +kernel
theorem dX6_metalNumber_15 : decode cX6_metalNumber 15 = .ok (.ireturn, 1) := by decide +kernel
theorem dX6_metalNumber_16 : decode cX6_metalNumber 16 = .ok (.new 55, 3) := by decide +kernel
theorem dX6_metalNumber_19 : decode cX6_metalNumber 19 = .ok (.dup, 1) := by decide +kernel
theorem dX6_metalNumber_20 : decode cX6_metalNumber 20 = .ok (.ldc_w 285, 3) := by decide +kernel
theorem dX6_metalNumber_23 : decode cX6_metalNumber 23 = .ok (.invokespecial 59, 3) := by decide +kernel
theorem dX6_metalNumber_26 : decode cX6_metalNumber 26 = .ok (.athrow, 1) := by decide +kernel
theorem dX6_needRange_0 : decode cX6_needRange 0 = .ok (.iload_n 1, 1) := by decide +kernel
theorem dX6_needRange_1 : decode cX6_needRange 1 = .ok (.iconst 1, 1) := by decide +kernel
theorem dX6_needRange_2 : decode cX6_needRange 2 = .ok (.if_icmp .lt 8, 3) := by decide +kernel
theorem dX6_needRange_5 : decode cX6_needRange 5 = .ok (.iload_n 1, 1) := by decide +kernel
theorem dX6_needRange_6 : decode cX6_needRange 6 = .ok (.iload_n 2, 1) := by decide +kernel
theorem dX6_needRange_7 : decode cX6_needRange 7 = .ok (.if_icmp .le 14, 3) := by decide +kernel
theorem dX6_needRange_10 : decode cX6_needRange 10 = .ok (.new 55, 3) := by decide +kernel
theorem dX6_needRange_13 : decode cX6_needRange 13 = .ok (.dup, 1) := by decide +kernel
theorem dX6_needRange_14 : decode cX6_needRange 14 = .ok (.ldc_w 287, 3) := by decide +kernel
theorem dX6_needRange_17 : decode cX6_needRange 17 = .ok (.invokespecial 59, 3) := by decide +kernel
theorem dX6_needRange_20 : decode cX6_needRange 20 = .ok (.athrow, 1) := by decide +kernel
theorem dX6_needRange_21 : decode cX6_needRange 21 = .ok (.return_, 1) := by decide +kernel
theorem dX6_needDifferent_0 : decode cX6_needDifferent 0 = .ok (.iload_n 1, 1) := by decide +kernel
theorem dX6_needDifferent_1 : decode cX6_needDifferent 1 = .ok (.iload_n 2, 1) := by decide +kernel
theorem dX6_needDifferent_2 : decode cX6_needDifferent 2 = .ok (.if_icmp .ne 14, 3) := by decide +kernel
theorem dX6_needDifferent_5 : decode cX6_needDifferent 5 = .ok (.new 55, 3) := by decide +kernel
theorem dX6_needDifferent_8 : decode cX6_needDifferent 8 = .ok (.dup, 1) := by decide +kernel
theorem dX6_needDifferent_9 : decode cX6_needDifferent 9 = .ok (.ldc_w 289, 3) := by decide +kernel
theorem dX6_needDifferent_12 : decode cX6_needDifferent 12 = .ok (.invokespecial 59, 3) := by decide +kernel
theorem dX6_needDifferent_15 : decode cX6_needDifferent 15 = .ok (.athrow, 1) := by decide +kernel
theorem dX6_needDifferent_16 : decode cX6_needDifferent 16 = .ok (.return_, 1) := by decide +kernel
theorem dX6_needCustomer_0 : decode cX6_needCustomer 0 = .ok (.aload_n 0, 1) := by decide +kernel
theorem dX6_needCustomer_1 : decode cX6_needCustomer 1 = .ok (.iload_n 1, 1) := by decide +kernel
theorem dX6_needCustomer_2 : decode cX6_needCustomer 2 = .ok (.iload_n 2, 1) := by decide +kernel
theorem dX6_needCustomer_3 : decode cX6_needCustomer 3 = .ok (.invokevirtual 159, 3) := by decide +kernel
theorem dX6_needCustomer_6 : decode cX6_needCustomer 6 = .ok (.aload_n 0, 1) := by decide +kernel
theorem dX6_needCustomer_7 : decode cX6_needCustomer 7 = .ok (.getfield 10, 3) := by decide +kernel
theorem dX6_needCustomer_10 : decode cX6_needCustomer 10 = .ok (.iload_n 2, 1) := by decide +kernel
theorem dX6_needCustomer_11 : decode cX6_needCustomer 11 = .ok (.invokevirtual 79, 3) := by decide +kernel
theorem dX6_needCustomer_14 : decode cX6_needCustomer 14 = .ok (.bipush 98, 2) := by decide +kernel
theorem dX6_needCustomer_16 : decode cX6_needCustomer 16 = .ok (.if_icmp .eq 14, 3) := by decide +kernel
theorem dX6_needCustomer_19 : decode cX6_needCustomer 19 = .ok (.new 55, 3) := by decide +kernel
theorem dX6_needCustomer_22 : decode cX6_needCustomer 22 = .ok (.dup, 1) := by decide +kernel
theorem dX6_needCustomer_23 : decode cX6_needCustomer 23 = .ok (.ldc_w 291, 3) := by decide +kernel
theorem dX6_needCustomer_26 : decode cX6_needCustomer 26 = .ok (.invokespecial 59, 3) := by decide +kernel
theorem dX6_needCustomer_29 : decode cX6_needCustomer 29 = .ok (.athrow, 1) := by decide +kernel
theorem dX6_needCustomer_30 : decode cX6_needCustomer 30 = .ok (.aload_n 0, 1) := by decide +kernel
theorem dX6_needCustomer_31 : decode cX6_needCustomer 31 = .ok (.iload_n 1, 1) := by decide +kernel
theorem dX6_needCustomer_32 : decode cX6_needCustomer 32 = .ok (.invokevirtual 90, 3) := by decide +kernel
theorem dX6_needCustomer_35 : decode cX6_needCustomer 35 = .ok (.aload_n 0, 1) := by decide +kernel
theorem dX6_needCustomer_36 : decode cX6_needCustomer 36 = .ok (.iload_n 2, 1) := by decide +kernel
theorem dX6_needCustomer_37 : decode cX6_needCustomer 37 = .ok (.invokevirtual 90, 3) := by decide +kernel
theorem dX6_needCustomer_40 : decode cX6_needCustomer 40 = .ok (.return_, 1) := by decide +kernel
theorem dX6_needOpen_0 : decode cX6_needOpen 0 = .ok (.aload_n 0, 1) := by decide +kernel
theorem dX6_needOpen_1 : decode cX6_needOpen 1 = .ok (.getfield 10, 3) := by decide +kernel
theorem dX6_needOpen_4 : decode cX6_needOpen 4 = .ok (.iload_n 1, 1) := by decide +kernel
theorem dX6_needOpen_5 : decode cX6_needOpen 5 = .ok (.invokevirtual 75, 3) := by decide +kernel
theorem dX6_needOpen_8 : decode cX6_needOpen 8 = .ok (.ifCond .ne 14, 3) := by decide +kernel
theorem dX6_needOpen_11 : decode cX6_needOpen 11 = .ok (.new 66, 3) := by decide +kernel
theorem dX6_needOpen_14 : decode cX6_needOpen 14 = .ok (.dup, 1) := by decide +kernel
theorem dX6_needOpen_15 : decode cX6_needOpen 15 = .ok (.ldc_w 293, 3) := by decide +kernel
theorem dX6_needOpen_18 : decode cX6_needOpen 18 = .ok (.invokespecial 70, 3) := by decide +kernel
theorem dX6_needOpen_21 : decode cX6_needOpen 21 = .ok (.athrow, 1) := by decide +kernel
theorem dX6_needOpen_22 : decode cX6_needOpen 22 = .ok (.return_, 1) := by decide +kernel
theorem dX6_needOpenSharers_0 : decode cX6_needOpenSharers 0 = .ok (.iconst 0, 1) := by decide +kernel
theorem dX6_needOpenSharers_1 : decode cX6_needOpenSharers 1 = .ok (.istore_n 2, 1) := by decide +kernel
theorem dX6_needOpenSharers_2 : decode cX6_needOpenSharers 2 = .ok (.iload_n 2, 1) := by decide +kernel
theorem dX6_needOpenSharers_3 : decode cX6_needOpenSharers 3 = .ok (.aload_n 0, 1) := by decide +kernel
theorem dX6_needOpenSharers_4 : decode cX6_needOpenSharers 4 = .ok (.getfield 10, 3) := by decide +kernel
theorem dX6_needOpenSharers_7 : decode cX6_needOpenSharers 7 = .ok (.invokevirtual 62, 3) := by decide +kernel
theorem dX6_needOpenSharers_10 : decode cX6_needOpenSharers 10 = .ok (.if_icmp .ge 26, 3) := by decide +kernel
theorem dX6_needOpenSharers_13 : decode cX6_needOpenSharers 13 = .ok (.aload_n 0, 1) := by decide +kernel
theorem dX6_needOpenSharers_14 : decode cX6_needOpenSharers 14 = .ok (.getfield 47, 3) := by decide +kernel
theorem dX6_needOpenSharers_17 : decode cX6_needOpenSharers 17 = .ok (.iload_n 1, 1) := by decide +kernel
theorem dX6_needOpenSharers_18 : decode cX6_needOpenSharers 18 = .ok (.iload_n 2, 1) := by decide +kernel
theorem dX6_needOpenSharers_19 : decode cX6_needOpenSharers 19 = .ok (.invokevirtual 224, 3) := by decide +kernel
theorem dX6_needOpenSharers_22 : decode cX6_needOpenSharers 22 = .ok (.ifCond .eq 8, 3) := by decide +kernel
theorem dX6_needOpenSharers_25 : decode cX6_needOpenSharers 25 = .ok (.aload_n 0, 1) := by decide +kernel
theorem dX6_needOpenSharers_26 : decode cX6_needOpenSharers 26 = .ok (.iload_n 2, 1) := by decide +kernel
theorem dX6_needOpenSharers_27 : decode cX6_needOpenSharers 27 = .ok (.invokevirtual 90, 3) := by decide +kernel
theorem dX6_needOpenSharers_30 : decode cX6_needOpenSharers 30 = .ok (.iinc 2 1, 3) := by decide +kernel
theorem dX6_needOpenSharers_33 : decode cX6_needOpenSharers 33 = .ok (.goto (-31), 3) := by decide +kernel
theorem dX6_needOpenSharers_36 : decode cX6_needOpenSharers 36 = .ok (.return_, 1) := by decide +kernel
theorem dX6_needWhole_0 : decode cX6_needWhole 0 = .ok (.aload_n 0, 1) := by decide +kernel
theorem dX6_needWhole_1 : decode cX6_needWhole 1 = .ok (.getfield 26, 3) := by decide +kernel
theorem dX6_needWhole_4 : decode cX6_needWhole 4 = .ok (.iload_n 1, 1) := by decide +kernel
theorem dX6_needWhole_5 : decode cX6_needWhole 5 = .ok (.invokevirtual 140, 3) := by decide +kernel
theorem dX6_needWhole_8 : decode cX6_needWhole 8 = .ok (.iconst (-1), 1) := by decide +kernel
theorem dX6_needWhole_9 : decode cX6_needWhole 9 = .ok (.if_icmp .ne 14, 3) := by decide +kernel
theorem dX6_needWhole_12 : decode cX6_needWhole 12 = .ok (.new 111, 3) := by decide +kernel
theorem dX6_needWhole_15 : decode cX6_needWhole 15 = .ok (.dup, 1) := by decide +kernel
theorem dX6_needWhole_16 : decode cX6_needWhole 16 = .ok (.ldc_w 295, 3) := by decide +kernel
theorem dX6_needWhole_19 : decode cX6_needWhole 19 = .ok (.invokespecial 115, 3) := by decide +kernel
theorem dX6_needWhole_22 : decode cX6_needWhole 22 = .ok (.athrow, 1) := by decide +kernel
theorem dX6_needWhole_23 : decode cX6_needWhole 23 = .ok (.return_, 1) := by decide +kernel
theorem dX6_needLoose_0 : decode cX6_needLoose 0 = .ok (.aload_n 0, 1) := by decide +kernel
theorem dX6_needLoose_1 : decode cX6_needLoose 1 = .ok (.getfield 26, 3) := by decide +kernel
theorem dX6_needLoose_4 : decode cX6_needLoose 4 = .ok (.iload_n 1, 1) := by decide +kernel
theorem dX6_needLoose_5 : decode cX6_needLoose 5 = .ok (.iload_n 2, 1) := by decide +kernel
theorem dX6_needLoose_6 : decode cX6_needLoose 6 = .ok (.invokevirtual 181, 3) := by decide +kernel
theorem dX6_needLoose_9 : decode cX6_needLoose 9 = .ok (.iload_n 3, 1) := by decide +kernel
theorem dX6_needLoose_10 : decode cX6_needLoose 10 = .ok (.if_icmp .ge 14, 3) := by decide +kernel
theorem dX6_needLoose_13 : decode cX6_needLoose 13 = .ok (.new 111, 3) := by decide +kernel
theorem dX6_needLoose_16 : decode cX6_needLoose 16 = .ok (.dup, 1) := by decide +kernel
theorem dX6_needLoose_17 : decode cX6_needLoose 17 = .ok (.ldc_w 297, 3) := by decide +kernel
theorem dX6_needLoose_20 : decode cX6_needLoose 20 = .ok (.invokespecial 115, 3) := by decide +kernel
theorem dX6_needLoose_23 : decode cX6_needLoose 23 = .ok (.athrow, 1) := by decide +kernel
theorem dX6_needLoose_24 : decode cX6_needLoose 24 = .ok (.return_, 1) := by decide +kernel
theorem dX6_needClaim_0 : decode cX6_needClaim 0 = .ok (.aload_n 0, 1) := by decide +kernel
theorem dX6_needClaim_1 : decode cX6_needClaim 1 = .ok (.getfield 33, 3) := by decide +kernel
theorem dX6_needClaim_4 : decode cX6_needClaim 4 = .ok (.iload_n 1, 1) := by decide +kernel
theorem dX6_needClaim_5 : decode cX6_needClaim 5 = .ok (.iload_n 2, 1) := by decide +kernel
theorem dX6_needClaim_6 : decode cX6_needClaim 6 = .ok (.invokevirtual 175, 3) := by decide +kernel
theorem dX6_needClaim_9 : decode cX6_needClaim 9 = .ok (.iload_n 3, 1) := by decide +kernel
theorem dX6_needClaim_10 : decode cX6_needClaim 10 = .ok (.if_icmp .ge 14, 3) := by decide +kernel
theorem dX6_needClaim_13 : decode cX6_needClaim 13 = .ok (.new 111, 3) := by decide +kernel
theorem dX6_needClaim_16 : decode cX6_needClaim 16 = .ok (.dup, 1) := by decide +kernel
theorem dX6_needClaim_17 : decode cX6_needClaim 17 = .ok (.ldc_w 299, 3) := by decide +kernel
theorem dX6_needClaim_20 : decode cX6_needClaim 20 = .ok (.invokespecial 115, 3) := by decide +kernel
theorem dX6_needClaim_23 : decode cX6_needClaim 23 = .ok (.athrow, 1) := by decide +kernel
theorem dX6_needClaim_24 : decode cX6_needClaim 24 = .ok (.return_, 1) := by decide +kernel
theorem dX6_needCoins_0 : decode cX6_needCoins 0 = .ok (.aload_n 0, 1) := by decide +kernel
theorem dX6_needCoins_1 : decode cX6_needCoins 1 = .ok (.getfield 26, 3) := by decide +kernel
theorem dX6_needCoins_4 : decode cX6_needCoins 4 = .ok (.invokevirtual 301, 3) := by decide +kernel
theorem dX6_needCoins_7 : decode cX6_needCoins 7 = .ok (.istore_n 1, 1) := by decide +kernel
theorem dX6_needCoins_8 : decode cX6_needCoins 8 = .ok (.iload_n 1, 1) := by decide +kernel
theorem dX6_needCoins_9 : decode cX6_needCoins 9 = .ok (.ifCond .ne 14, 3) := by decide +kernel
theorem dX6_needCoins_12 : decode cX6_needCoins 12 = .ok (.new 304, 3) := by decide +kernel
theorem dX6_needCoins_15 : decode cX6_needCoins 15 = .ok (.dup, 1) := by decide +kernel
theorem dX6_needCoins_16 : decode cX6_needCoins 16 = .ok (.ldc_w 306, 3) := by decide +kernel
theorem dX6_needCoins_19 : decode cX6_needCoins 19 = .ok (.invokespecial 308, 3) := by decide +kernel
theorem dX6_needCoins_22 : decode cX6_needCoins 22 = .ok (.athrow, 1) := by decide +kernel
theorem dX6_needCoins_23 : decode cX6_needCoins 23 = .ok (.iload_n 1, 1) := by decide +kernel
theorem dX6_needCoins_24 : decode cX6_needCoins 24 = .ok (.ireturn, 1) := by decide +kernel
theorem dX6_strike_0 : decode cX6_strike 0 = .ok (.aload_n 0, 1) := by decide +kernel
theorem dX6_strike_1 : decode cX6_strike 1 = .ok (.getfield 19, 3) := by decide +kernel
theorem dX6_strike_4 : decode cX6_strike 4 = .ok (.iload_n 2, 1) := by decide +kernel
theorem dX6_strike_5 : decode cX6_strike 5 = .ok (.invokevirtual 105, 3) := by decide +kernel
theorem dX6_strike_8 : decode cX6_strike 8 = .ok (.istore 4, 2) := by decide +kernel
theorem dX6_strike_10 : decode cX6_strike 10 = .ok (.iconst 0, 1) := by decide +kernel
theorem dX6_strike_11 : decode cX6_strike 11 = .ok (.istore 5, 2) := by decide +kernel
theorem dX6_strike_13 : decode cX6_strike 13 = .ok (.iload 5, 2) := by decide +kernel
theorem dX6_strike_15 : decode cX6_strike 15 = .ok (.iload_n 3, 1) := by decide +kernel
theorem dX6_strike_16 : decode cX6_strike 16 = .ok (.if_icmp .ge 56, 3) := by decide +kernel
theorem dX6_strike_19 : decode cX6_strike 19 = .ok (.aload_n 0, 1) := by decide +kernel
theorem dX6_strike_20 : decode cX6_strike 20 = .ok (.getfield 26, 3) := by decide +kernel
theorem dX6_strike_23 : decode cX6_strike 23 = .ok (.invokevirtual 116, 3) := by decide +kernel
theorem dX6_strike_26 : decode cX6_strike 26 = .ok (.ifCond .le 46, 3) := by decide +kernel
theorem dX6_strike_29 : decode cX6_strike 29 = .ok (.aload_n 0, 1) := by decide +kernel
theorem dX6_strike_30 : decode cX6_strike 30 = .ok (.getfield 19, 3) := by decide +kernel
theorem dX6_strike_33 : decode cX6_strike 33 = .ok (.iload_n 1, 1) := by decide +kernel
theorem dX6_strike_34 : decode cX6_strike 34 = .ok (.iload_n 2, 1) := by decide +kernel
theorem dX6_strike_35 : decode cX6_strike 35 = .ok (.invokevirtual 97, 3) := by decide +kernel
theorem dX6_strike_38 : decode cX6_strike 38 = .ok (.iload 4, 2) := by decide +kernel
theorem dX6_strike_40 : decode cX6_strike 40 = .ok (.if_icmp .lt 32, 3) := by decide +kernel
theorem dX6_strike_43 : decode cX6_strike 43 = .ok (.aload_n 0, 1) := by decide +kernel
theorem dX6_strike_44 : decode cX6_strike 44 = .ok (.getfield 19, 3) := by decide +kernel
theorem dX6_strike_47 : decode cX6_strike 47 = .ok (.iload_n 1, 1) := by decide +kernel
theorem dX6_strike_48 : decode cX6_strike 48 = .ok (.iload_n 2, 1) := by decide +kernel
theorem dX6_strike_49 : decode cX6_strike 49 = .ok (.iload 4, 2) := by decide +kernel
theorem dX6_strike_51 : decode cX6_strike 51 = .ok (.ineg, 1) := by decide +kernel
theorem dX6_strike_52 : decode cX6_strike 52 = .ok (.invokevirtual 146, 3) := by decide +kernel
theorem dX6_strike_55 : decode cX6_strike 55 = .ok (.aload_n 0, 1) := by decide +kernel
theorem dX6_strike_56 : decode cX6_strike 56 = .ok (.getfield 26, 3) := by decide +kernel
theorem dX6_strike_59 : decode cX6_strike 59 = .ok (.iload_n 1, 1) := by decide +kernel
theorem dX6_strike_60 : decode cX6_strike 60 = .ok (.iload_n 2, 1) := by decide +kernel
theorem dX6_strike_61 : decode cX6_strike 61 = .ok (.iload 4, 2) := by decide +kernel
theorem dX6_strike_63 : decode cX6_strike 63 = .ok (.invokevirtual 309, 3) := by decide +kernel
theorem dX6_strike_66 : decode cX6_strike 66 = .ok (.iinc 5 1, 3) := by decide +kernel
theorem dX6_strike_69 : decode cX6_strike 69 = .ok (.goto (-56), 3) := by decide +kernel
theorem dX6_strike_72 : decode cX6_strike 72 = .ok (.iload 5, 2) := by decide +kernel
theorem dX6_strike_74 : decode cX6_strike 74 = .ok (.ireturn, 1) := by decide +kernel
theorem dX6_fail_0 : decode cX6_fail 0 = .ok (.aload_n 0, 1) := by decide +kernel
theorem dX6_fail_1 : decode cX6_fail 1 = .ok (.getfield 10, 3) := by decide +kernel
theorem dX6_fail_4 : decode cX6_fail 4 = .ok (.iload_n 1, 1) := by decide +kernel
theorem dX6_fail_5 : decode cX6_fail 5 = .ok (.invokevirtual 310, 3) := by decide +kernel
theorem dX6_fail_8 : decode cX6_fail 8 = .ok (.aload_n 0, 1) := by decide +kernel
theorem dX6_fail_9 : decode cX6_fail 9 = .ok (.iload_n 1, 1) := by decide +kernel
theorem dX6_fail_10 : decode cX6_fail 10 = .ok (.invokevirtual 313, 3) := by decide +kernel
theorem dX6_fail_13 : decode cX6_fail 13 = .ok (.aload_n 0, 1) := by decide +kernel
theorem dX6_fail_14 : decode cX6_fail 14 = .ok (.dup, 1) := by decide +kernel
theorem dX6_fail_15 : decode cX6_fail 15 = .ok (.getfield 251, 3) := by decide +kernel
theorem dX6_fail_18 : decode cX6_fail 18 = .ok (.aload_n 0, 1) := by decide +kernel
theorem dX6_fail_19 : decode cX6_fail 19 = .ok (.getfield 33, 3) := by decide +kernel
theorem dX6_fail_22 : decode cX6_fail 22 = .ok (.iload_n 1, 1) := by decide +kernel
theorem dX6_fail_23 : decode cX6_fail 23 = .ok (.invokevirtual 316, 3) := by decide +kernel
theorem dX6_fail_26 : decode cX6_fail 26 = .ok (.ladd, 1) := by decide +kernel
theorem dX6_fail_27 : decode cX6_fail 27 = .ok (.putfield 251, 3) := by decide +kernel
theorem dX6_fail_30 : decode cX6_fail 30 = .ok (.aload_n 0, 1) := by decide +kernel
theorem dX6_fail_31 : decode cX6_fail 31 = .ok (.getfield 26, 3) := by decide +kernel
theorem dX6_fail_34 : decode cX6_fail 34 = .ok (.iload_n 1, 1) := by decide +kernel
theorem dX6_fail_35 : decode cX6_fail 35 = .ok (.iconst 0, 1) := by decide +kernel
theorem dX6_fail_36 : decode cX6_fail 36 = .ok (.invokevirtual 319, 3) := by decide +kernel
theorem dX6_fail_39 : decode cX6_fail 39 = .ok (.iconst 0, 1) := by decide +kernel
theorem dX6_fail_40 : decode cX6_fail 40 = .ok (.istore_n 2, 1) := by decide +kernel
theorem dX6_fail_41 : decode cX6_fail 41 = .ok (.iload_n 2, 1) := by decide +kernel
theorem dX6_fail_42 : decode cX6_fail 42 = .ok (.iconst 2, 1) := by decide +kernel
theorem dX6_fail_43 : decode cX6_fail 43 = .ok (.if_icmp .ge 19, 3) := by decide +kernel
theorem dX6_fail_46 : decode cX6_fail 46 = .ok (.aload_n 0, 1) := by decide +kernel
theorem dX6_fail_47 : decode cX6_fail 47 = .ok (.getfield 19, 3) := by decide +kernel
theorem dX6_fail_50 : decode cX6_fail 50 = .ok (.iload_n 1, 1) := by decide +kernel
theorem dX6_fail_51 : decode cX6_fail 51 = .ok (.iconst 0, 1) := by decide +kernel
theorem dX6_fail_52 : decode cX6_fail 52 = .ok (.iload_n 2, 1) := by decide +kernel
theorem dX6_fail_53 : decode cX6_fail 53 = .ok (.invokevirtual 322, 3) := by decide +kernel
theorem dX6_fail_56 : decode cX6_fail 56 = .ok (.iinc 2 1, 3) := by decide +kernel
theorem dX6_fail_59 : decode cX6_fail 59 = .ok (.goto (-18), 3) := by decide +kernel
theorem dX6_fail_62 : decode cX6_fail 62 = .ok (.aload_n 0, 1) := by decide +kernel
theorem dX6_fail_63 : decode cX6_fail 63 = .ok (.getfield 33, 3) := by decide +kernel
theorem dX6_fail_66 : decode cX6_fail 66 = .ok (.iload_n 1, 1) := by decide +kernel
theorem dX6_fail_67 : decode cX6_fail 67 = .ok (.invokevirtual 325, 3) := by decide +kernel
theorem dX6_fail_70 : decode cX6_fail 70 = .ok (.return_, 1) := by decide +kernel
theorem dX6_partCoins_0 : decode cX6_partCoins 0 = .ok (.iconst 0, 1) := by decide +kernel
theorem dX6_partCoins_1 : decode cX6_partCoins 1 = .ok (.istore_n 2, 1) := by decide +kernel
theorem dX6_partCoins_2 : decode cX6_partCoins 2 = .ok (.iload_n 2, 1) := by decide +kernel
theorem dX6_partCoins_3 : decode cX6_partCoins 3 = .ok (.bipush 90, 2) := by decide +kernel
theorem dX6_partCoins_5 : decode cX6_partCoins 5 = .ok (.if_icmp .ge 97, 3) := by decide +kernel
theorem dX6_partCoins_8 : decode cX6_partCoins 8 = .ok (.aload_n 0, 1) := by decide +kernel
theorem dX6_partCoins_9 : decode cX6_partCoins 9 = .ok (.getfield 26, 3) := by decide +kernel
theorem dX6_partCoins_12 : decode cX6_partCoins 12 = .ok (.iload_n 1, 1) := by decide +kernel
theorem dX6_partCoins_13 : decode cX6_partCoins 13 = .ok (.invokevirtual 328, 3) := by decide +kernel
theorem dX6_partCoins_16 : decode cX6_partCoins 16 = .ok (.istore_n 3, 1) := by decide +kernel
theorem dX6_partCoins_17 : decode cX6_partCoins 17 = .ok (.aload_n 0, 1) := by decide +kernel
theorem dX6_partCoins_18 : decode cX6_partCoins 18 = .ok (.getfield 33, 3) := by decide +kernel
theorem dX6_partCoins_21 : decode cX6_partCoins 21 = .ok (.iload_n 1, 1) := by decide +kernel
theorem dX6_partCoins_22 : decode cX6_partCoins 22 = .ok (.invokevirtual 331, 3) := by decide +kernel
theorem dX6_partCoins_25 : decode cX6_partCoins 25 = .ok (.istore 4, 2) := by decide +kernel
theorem dX6_partCoins_27 : decode cX6_partCoins 27 = .ok (.iload_n 3, 1) := by decide +kernel
theorem dX6_partCoins_28 : decode cX6_partCoins 28 = .ok (.iconst (-1), 1) := by decide +kernel
theorem dX6_partCoins_29 : decode cX6_partCoins 29 = .ok (.if_icmp .eq 9, 3) := by decide +kernel
theorem dX6_partCoins_32 : decode cX6_partCoins 32 = .ok (.iload 4, 2) := by decide +kernel
theorem dX6_partCoins_34 : decode cX6_partCoins 34 = .ok (.iconst (-1), 1) := by decide +kernel
theorem dX6_partCoins_35 : decode cX6_partCoins 35 = .ok (.if_icmp .ne 4, 3) := by decide +kernel
theorem dX6_partCoins_38 : decode cX6_partCoins 38 = .ok (.return_, 1) := by decide +kernel
theorem dX6_partCoins_39 : decode cX6_partCoins 39 = .ok (.aload_n 0, 1) := by decide +kernel
theorem dX6_partCoins_40 : decode cX6_partCoins 40 = .ok (.getfield 33, 3) := by decide +kernel
theorem dX6_partCoins_43 : decode cX6_partCoins 43 = .ok (.iload 4, 2) := by decide +kernel
theorem dX6_partCoins_45 : decode cX6_partCoins 45 = .ok (.iload_n 1, 1) := by decide +kernel
theorem dX6_partCoins_46 : decode cX6_partCoins 46 = .ok (.invokevirtual 175, 3) := by decide +kernel
theorem dX6_partCoins_49 : decode cX6_partCoins 49 = .ok (.istore 5, 2) := by decide +kernel
theorem dX6_partCoins_51 : decode cX6_partCoins 51 = .ok (.aload_n 0, 1) := by decide +kernel
theorem dX6_partCoins_52 : decode cX6_partCoins 52 = .ok (.getfield 19, 3) := by decide +kernel
theorem dX6_partCoins_55 : decode cX6_partCoins 55 = .ok (.aload_n 0, 1) := by decide +kernel
theorem dX6_partCoins_56 : decode cX6_partCoins 56 = .ok (.getfield 26, 3) := by decide +kernel
theorem dX6_partCoins_59 : decode cX6_partCoins 59 = .ok (.iload_n 3, 1) := by decide +kernel
theorem dX6_partCoins_60 : decode cX6_partCoins 60 = .ok (.invokevirtual 143, 3) := by decide +kernel
theorem dX6_partCoins_63 : decode cX6_partCoins 63 = .ok (.invokevirtual 101, 3) := by decide +kernel
theorem dX6_partCoins_66 : decode cX6_partCoins 66 = .ok (.istore 6, 2) := by decide +kernel
theorem dX6_partCoins_68 : decode cX6_partCoins 68 = .ok (.aload_n 0, 1) := by decide +kernel
theorem dX6_partCoins_69 : decode cX6_partCoins 69 = .ok (.getfield 26, 3) := by decide +kernel
theorem dX6_partCoins_72 : decode cX6_partCoins 72 = .ok (.iload_n 3, 1) := by decide +kernel
theorem dX6_partCoins_73 : decode cX6_partCoins 73 = .ok (.iload 4, 2) := by decide +kernel
theorem dX6_partCoins_75 : decode cX6_partCoins 75 = .ok (.invokevirtual 334, 3) := by decide +kernel
theorem dX6_partCoins_78 : decode cX6_partCoins 78 = .ok (.aload_n 0, 1) := by decide +kernel
theorem dX6_partCoins_79 : decode cX6_partCoins 79 = .ok (.getfield 33, 3) := by decide +kernel
theorem dX6_partCoins_82 : decode cX6_partCoins 82 = .ok (.iload 4, 2) := by decide +kernel
theorem dX6_partCoins_84 : decode cX6_partCoins 84 = .ok (.iload_n 1, 1) := by decide +kernel
theorem dX6_partCoins_85 : decode cX6_partCoins 85 = .ok (.iload 5, 2) := by decide +kernel
theorem dX6_partCoins_87 : decode cX6_partCoins 87 = .ok (.iload 6, 2) := by decide +kernel
theorem dX6_partCoins_89 : decode cX6_partCoins 89 = .ok (.invokestatic 337, 3) := by decide +kernel
theorem dX6_partCoins_92 : decode cX6_partCoins 92 = .ok (.ineg, 1) := by decide +kernel
theorem dX6_partCoins_93 : decode cX6_partCoins 93 = .ok (.invokevirtual 172, 3) := by decide +kernel
theorem dX6_partCoins_96 : decode cX6_partCoins 96 = .ok (.iinc 2 1, 3) := by decide +kernel
theorem dX6_partCoins_99 : decode cX6_partCoins 99 = .ok (.goto (-97), 3) := by decide +kernel
theorem dX6_partCoins_102 : decode cX6_partCoins 102 = .ok (.return_, 1) := by decide +kernel
theorem dX6_settle_0 : decode cX6_settle 0 = .ok (.aload_n 0, 1) := by decide +kernel
theorem dX6_settle_1 : decode cX6_settle 1 = .ok (.getfield 40, 3) := by decide +kernel
theorem dX6_settle_4 : decode cX6_settle 4 = .ok (.iload_n 1, 1) := by decide +kernel
theorem dX6_settle_5 : decode cX6_settle 5 = .ok (.invokevirtual 196, 3) := by decide +kernel
theorem dX6_settle_8 : decode cX6_settle 8 = .ok (.istore_n 2, 1) := by decide +kernel
theorem dX6_settle_9 : decode cX6_settle 9 = .ok (.aload_n 0, 1) := by decide +kernel
theorem dX6_settle_10 : decode cX6_settle 10 = .ok (.getfield 40, 3) := by decide +kernel
theorem dX6_settle_13 : decode cX6_settle 13 = .ok (.iload_n 1, 1) := by decide +kernel
theorem dX6_settle_14 : decode cX6_settle 14 = .ok (.invokevirtual 342, 3) := by decide +kernel
theorem dX6_settle_17 : decode cX6_settle 17 = .ok (.iload_n 2, 1) := by decide +kernel
theorem dX6_settle_18 : decode cX6_settle 18 = .ok (.iconst (-1), 1) := by decide +kernel
theorem dX6_settle_19 : decode cX6_settle 19 = .ok (.if_icmp .eq 14, 3) := by decide +kernel
theorem dX6_settle_22 : decode cX6_settle 22 = .ok (.aload_n 0, 1) := by decide +kernel
theorem dX6_settle_23 : decode cX6_settle 23 = .ok (.getfield 10, 3) := by decide +kernel
theorem dX6_settle_26 : decode cX6_settle 26 = .ok (.iload_n 2, 1) := by decide +kernel
theorem dX6_settle_27 : decode cX6_settle 27 = .ok (.invokevirtual 75, 3) := by decide +kernel
theorem dX6_settle_30 : decode cX6_settle 30 = .ok (.ifCond .ne 5, 3) := by decide +kernel
theorem dX6_settle_33 : decode cX6_settle 33 = .ok (.iconst 0, 1) := by decide +kernel
theorem dX6_settle_34 : decode cX6_settle 34 = .ok (.ireturn, 1) := by decide +kernel
theorem dX6_settle_35 : decode cX6_settle 35 = .ok (.aload_n 0, 1) := by decide +kernel
theorem dX6_settle_36 : decode cX6_settle 36 = .ok (.iload_n 1, 1) := by decide +kernel
theorem dX6_settle_37 : decode cX6_settle 37 = .ok (.invokevirtual 345, 3) := by decide +kernel
theorem dX6_settle_40 : decode cX6_settle 40 = .ok (.istore_n 3, 1) := by decide +kernel
theorem dX6_settle_41 : decode cX6_settle 41 = .ok (.iload_n 3, 1) := by decide +kernel
theorem dX6_settle_42 : decode cX6_settle 42 = .ok (.iconst (-1), 1) := by decide +kernel
theorem dX6_settle_43 : decode cX6_settle 43 = .ok (.if_icmp .eq 8, 3) := by decide +kernel
theorem dX6_settle_46 : decode cX6_settle 46 = .ok (.iload_n 3, 1) := by decide +kernel
theorem dX6_settle_47 : decode cX6_settle 47 = .ok (.iload_n 2, 1) := by decide +kernel
theorem dX6_settle_48 : decode cX6_settle 48 = .ok (.if_icmp .ne 5, 3) := by decide +kernel
theorem dX6_settle_51 : decode cX6_settle 51 = .ok (.iconst 0, 1) := by decide +kernel
theorem dX6_settle_52 : decode cX6_settle 52 = .ok (.ireturn, 1) := by decide +kernel
theorem dX6_settle_53 : decode cX6_settle 53 = .ok (.aload_n 0, 1) := by decide +kernel
theorem dX6_settle_54 : decode cX6_settle 54 = .ok (.getfield 33, 3) := by decide +kernel
theorem dX6_settle_57 : decode cX6_settle 57 = .ok (.iload_n 2, 1) := by decide +kernel
theorem dX6_settle_58 : decode cX6_settle 58 = .ok (.iload_n 3, 1) := by decide +kernel
theorem dX6_settle_59 : decode cX6_settle 59 = .ok (.aload_n 0, 1) := by decide +kernel
theorem dX6_settle_60 : decode cX6_settle 60 = .ok (.getfield 40, 3) := by decide +kernel
theorem dX6_settle_63 : decode cX6_settle 63 = .ok (.iload_n 1, 1) := by decide +kernel
theorem dX6_settle_64 : decode cX6_settle 64 = .ok (.invokevirtual 348, 3) := by decide +kernel
theorem dX6_settle_67 : decode cX6_settle 67 = .ok (.invokevirtual 172, 3) := by decide +kernel
theorem dX6_settle_70 : decode cX6_settle 70 = .ok (.iconst 1, 1) := by decide +kernel
theorem dX6_settle_71 : decode cX6_settle 71 = .ok (.ireturn, 1) := by decide +kernel
theorem dX6_firstOpenLiable_0 : decode cX6_firstOpenLiable 0 = .ok (.iconst 0, 1) := by decide +kernel
theorem dX6_firstOpenLiable_1 : decode cX6_firstOpenLiable 1 = .ok (.istore_n 2, 1) := by decide +kernel
theorem dX6_firstOpenLiable_2 : decode cX6_firstOpenLiable 2 = .ok (.iload_n 2, 1) := by decide +kernel
theorem dX6_firstOpenLiable_3 : decode cX6_firstOpenLiable 3 = .ok (.aload_n 0, 1) := by decide +kernel
theorem dX6_firstOpenLiable_4 : decode cX6_firstOpenLiable 4 = .ok (.getfield 40, 3) := by decide +kernel
theorem dX6_firstOpenLiable_7 : decode cX6_firstOpenLiable 7 = .ok (.iload_n 1, 1) := by decide +kernel
theorem dX6_firstOpenLiable_8 : decode cX6_firstOpenLiable 8 = .ok (.invokevirtual 350, 3) := by decide +kernel
theorem dX6_firstOpenLiable_11 : decode cX6_firstOpenLiable 11 = .ok (.if_icmp .ge 32, 3) := by decide +kernel
theorem dX6_firstOpenLiable_14 : decode cX6_firstOpenLiable 14 = .ok (.aload_n 0, 1) := by decide +kernel
theorem dX6_firstOpenLiable_15 : decode cX6_firstOpenLiable 15 = .ok (.getfield 40, 3) := by decide +kernel
theorem dX6_firstOpenLiable_18 : decode cX6_firstOpenLiable 18 = .ok (.iload_n 1, 1) := by decide +kernel
theorem dX6_firstOpenLiable_19 : decode cX6_firstOpenLiable 19 = .ok (.iload_n 2, 1) := by decide +kernel
theorem dX6_firstOpenLiable_20 : decode cX6_firstOpenLiable 20 = .ok (.invokevirtual 353, 3) := by decide +kernel
theorem dX6_firstOpenLiable_23 : decode cX6_firstOpenLiable 23 = .ok (.istore_n 3, 1) := by decide +kernel
theorem dX6_firstOpenLiable_24 : decode cX6_firstOpenLiable 24 = .ok (.aload_n 0, 1) := by decide +kernel
theorem dX6_firstOpenLiable_25 : decode cX6_firstOpenLiable 25 = .ok (.getfield 10, 3) := by decide +kernel
theorem dX6_firstOpenLiable_28 : decode cX6_firstOpenLiable 28 = .ok (.iload_n 3, 1) := by decide +kernel
theorem dX6_firstOpenLiable_29 : decode cX6_firstOpenLiable 29 = .ok (.invokevirtual 75, 3) := by decide +kernel
theorem dX6_firstOpenLiable_32 : decode cX6_firstOpenLiable 32 = .ok (.ifCond .eq 5, 3) := by decide +kernel
theorem dX6_firstOpenLiable_35 : decode cX6_firstOpenLiable 35 = .ok (.iload_n 3, 1) := by decide +kernel
theorem dX6_firstOpenLiable_36 : decode cX6_firstOpenLiable 36 = .ok (.ireturn, 1) := by decide +kernel
theorem dX6_firstOpenLiable_37 : decode cX6_firstOpenLiable 37 = .ok (.iinc 2 1, 3) := by decide +kernel
theorem dX6_firstOpenLiable_40 : decode cX6_firstOpenLiable 40 = .ok (.goto (-38), 3) := by decide +kernel
theorem dX6_firstOpenLiable_43 : decode cX6_firstOpenLiable 43 = .ok (.iconst (-1), 1) := by decide +kernel
theorem dX6_firstOpenLiable_44 : decode cX6_firstOpenLiable 44 = .ok (.ireturn, 1) := by decide +kernel
theorem dX6_isMetalWhole_0 : decode cX6_isMetalWhole 0 = .ok (.aload_n 0, 1) := by decide +kernel
theorem dX6_isMetalWhole_1 : decode cX6_isMetalWhole 1 = .ok (.getfield 19, 3) := by decide +kernel
theorem dX6_isMetalWhole_4 : decode cX6_isMetalWhole 4 = .ok (.iload_n 1, 1) := by decide +kernel
theorem dX6_isMetalWhole_5 : decode cX6_isMetalWhole 5 = .ok (.invokevirtual 356, 3) := by decide +kernel
theorem dX6_isMetalWhole_8 : decode cX6_isMetalWhole 8 = .ok (.aload_n 0, 1) := by decide +kernel
theorem dX6_isMetalWhole_9 : decode cX6_isMetalWhole 9 = .ok (.getfield 19, 3) := by decide +kernel
theorem dX6_isMetalWhole_12 : decode cX6_isMetalWhole 12 = .ok (.iload_n 1, 1) := by decide +kernel
theorem dX6_isMetalWhole_13 : decode cX6_isMetalWhole 13 = .ok (.invokevirtual 359, 3) := by decide +kernel
theorem dX6_isMetalWhole_16 : decode cX6_isMetalWhole 16 = .ok (.aload_n 0, 1) := by decide +kernel
theorem dX6_isMetalWhole_17 : decode cX6_isMetalWhole 17 = .ok (.getfield 26, 3) := by decide +kernel
theorem dX6_isMetalWhole_20 : decode cX6_isMetalWhole 20 = .ok (.iload_n 1, 1) := by decide +kernel
theorem dX6_isMetalWhole_21 : decode cX6_isMetalWhole 21 = .ok (.invokevirtual 261, 3) := by decide +kernel
theorem dX6_isMetalWhole_24 : decode cX6_isMetalWhole 24 = .ok (.iadd, 1) := by decide +kernel
theorem dX6_isMetalWhole_25 : decode cX6_isMetalWhole 25 = .ok (.if_icmp .ne 7, 3) := by decide +kernel
theorem dX6_isMetalWhole_28 : decode cX6_isMetalWhole 28 = .ok (.iconst 1, 1) := by decide +kernel
theorem dX6_isMetalWhole_29 : decode cX6_isMetalWhole 29 = .ok (.goto 4, 3) := by decide +kernel
theorem dX6_isMetalWhole_32 : decode cX6_isMetalWhole 32 = .ok (.iconst 0, 1) := by decide +kernel
theorem dX6_isMetalWhole_33 : decode cX6_isMetalWhole 33 = .ok (.ireturn, 1) := by decide +kernel
theorem dX6_areClaimsSound_0 : decode cX6_areClaimsSound 0 = .ok (.lconst 0, 1) := by decide +kernel
theorem dX6_areClaimsSound_1 : decode cX6_areClaimsSound 1 = .ok (.lstore_n 1, 1) := by decide +kernel
theorem dX6_areClaimsSound_2 : decode cX6_areClaimsSound 2 = .ok (.lconst 0, 1) := by decide +kernel
theorem dX6_areClaimsSound_3 : decode cX6_areClaimsSound 3 = .ok (.lstore_n 3, 1) := by decide +kernel
theorem dX6_areClaimsSound_4 : decode cX6_areClaimsSound 4 = .ok (.iconst 0, 1) := by decide +kernel
theorem dX6_areClaimsSound_5 : decode cX6_areClaimsSound 5 = .ok (.istore 5, 2) := by decide +kernel
theorem dX6_areClaimsSound_7 : decode cX6_areClaimsSound 7 = .ok (.iload 5, 2) := by decide +kernel
theorem dX6_areClaimsSound_9 : decode cX6_areClaimsSound 9 = .ok (.bipush 6, 2) := by decide +kernel
theorem dX6_areClaimsSound_11 : decode cX6_areClaimsSound 11 = .ok (.if_icmp .ge 101, 3) := by decide +kernel
theorem dX6_areClaimsSound_14 : decode cX6_areClaimsSound 14 = .ok (.aload_n 0, 1) := by decide +kernel
theorem dX6_areClaimsSound_15 : decode cX6_areClaimsSound 15 = .ok (.getfield 33, 3) := by decide +kernel
theorem dX6_areClaimsSound_18 : decode cX6_areClaimsSound 18 = .ok (.iload 5, 2) := by decide +kernel
theorem dX6_areClaimsSound_20 : decode cX6_areClaimsSound 20 = .ok (.invokevirtual 362, 3) := by decide +kernel
theorem dX6_areClaimsSound_23 : decode cX6_areClaimsSound 23 = .ok (.ifCond .ge 5, 3) := by decide +kernel
theorem dX6_areClaimsSound_26 : decode cX6_areClaimsSound 26 = .ok (.iconst 0, 1) := by decide +kernel
theorem dX6_areClaimsSound_27 : decode cX6_areClaimsSound 27 = .ok (.ireturn, 1) := by decide +kernel
theorem dX6_areClaimsSound_28 : decode cX6_areClaimsSound 28 = .ok (.aload_n 0, 1) := by decide +kernel
theorem dX6_areClaimsSound_29 : decode cX6_areClaimsSound 29 = .ok (.getfield 33, 3) := by decide +kernel
theorem dX6_areClaimsSound_32 : decode cX6_areClaimsSound 32 = .ok (.iload 5, 2) := by decide +kernel
theorem dX6_areClaimsSound_34 : decode cX6_areClaimsSound 34 = .ok (.invokevirtual 244, 3) := by decide +kernel
theorem dX6_areClaimsSound_37 : decode cX6_areClaimsSound 37 = .ok (.lconst 0, 1) := by decide +kernel
theorem dX6_areClaimsSound_38 : decode cX6_areClaimsSound 38 = .ok (.lcmp, 1) := by decide +kernel
theorem dX6_areClaimsSound_39 : decode cX6_areClaimsSound 39 = .ok (.ifCond .ne 21, 3) := by decide +kernel
theorem dX6_areClaimsSound_42 : decode cX6_areClaimsSound 42 = .ok (.aload_n 0, 1) := by decide +kernel
theorem dX6_areClaimsSound_43 : decode cX6_areClaimsSound 43 = .ok (.getfield 33, 3) := by decide +kernel
theorem dX6_areClaimsSound_46 : decode cX6_areClaimsSound 46 = .ok (.iload 5, 2) := by decide +kernel
theorem dX6_areClaimsSound_48 : decode cX6_areClaimsSound 48 = .ok (.invokevirtual 248, 3) := by decide +kernel
theorem dX6_areClaimsSound_51 : decode cX6_areClaimsSound 51 = .ok (.lconst 0, 1) := by decide +kernel
theorem dX6_areClaimsSound_52 : decode cX6_areClaimsSound 52 = .ok (.lcmp, 1) := by decide +kernel
theorem dX6_areClaimsSound_53 : decode cX6_areClaimsSound 53 = .ok (.ifCond .ne 7, 3) := by decide +kernel
theorem dX6_areClaimsSound_56 : decode cX6_areClaimsSound 56 = .ok (.iconst 1, 1) := by decide +kernel
theorem dX6_areClaimsSound_57 : decode cX6_areClaimsSound 57 = .ok (.goto 4, 3) := by decide +kernel
theorem dX6_areClaimsSound_60 : decode cX6_areClaimsSound 60 = .ok (.iconst 0, 1) := by decide +kernel
theorem dX6_areClaimsSound_61 : decode cX6_areClaimsSound 61 = .ok (.istore 6, 2) := by decide +kernel
theorem dX6_areClaimsSound_63 : decode cX6_areClaimsSound 63 = .ok (.iload 6, 2) := by decide +kernel
theorem dX6_areClaimsSound_65 : decode cX6_areClaimsSound 65 = .ok (.ifCond .ne 17, 3) := by decide +kernel
theorem dX6_areClaimsSound_68 : decode cX6_areClaimsSound 68 = .ok (.aload_n 0, 1) := by decide +kernel
theorem dX6_areClaimsSound_69 : decode cX6_areClaimsSound 69 = .ok (.getfield 10, 3) := by decide +kernel
theorem dX6_areClaimsSound_72 : decode cX6_areClaimsSound 72 = .ok (.iload 5, 2) := by decide +kernel
theorem dX6_areClaimsSound_74 : decode cX6_areClaimsSound 74 = .ok (.invokevirtual 75, 3) := by decide +kernel
theorem dX6_areClaimsSound_77 : decode cX6_areClaimsSound 77 = .ok (.ifCond .ne 5, 3) := by decide +kernel
theorem dX6_areClaimsSound_80 : decode cX6_areClaimsSound 80 = .ok (.iconst 0, 1) := by decide +kernel
theorem dX6_areClaimsSound_81 : decode cX6_areClaimsSound 81 = .ok (.ireturn, 1) := by decide +kernel
theorem dX6_areClaimsSound_82 : decode cX6_areClaimsSound 82 = .ok (.lload_n 1, 1) := by decide +kernel
theorem dX6_areClaimsSound_83 : decode cX6_areClaimsSound 83 = .ok (.aload_n 0, 1) := by decide +kernel
theorem dX6_areClaimsSound_84 : decode cX6_areClaimsSound 84 = .ok (.getfield 33, 3) := by decide +kernel
theorem dX6_areClaimsSound_87 : decode cX6_areClaimsSound 87 = .ok (.iload 5, 2) := by decide +kernel
theorem dX6_areClaimsSound_89 : decode cX6_areClaimsSound 89 = .ok (.invokevirtual 244, 3) := by decide +kernel
theorem dX6_areClaimsSound_92 : decode cX6_areClaimsSound 92 = .ok (.ladd, 1) := by decide +kernel
theorem dX6_areClaimsSound_93 : decode cX6_areClaimsSound 93 = .ok (.lstore_n 1, 1) := by decide +kernel
theorem dX6_areClaimsSound_94 : decode cX6_areClaimsSound 94 = .ok (.lload_n 3, 1) := by decide +kernel
theorem dX6_areClaimsSound_95 : decode cX6_areClaimsSound 95 = .ok (.aload_n 0, 1) := by decide +kernel
theorem dX6_areClaimsSound_96 : decode cX6_areClaimsSound 96 = .ok (.getfield 33, 3) := by decide +kernel
theorem dX6_areClaimsSound_99 : decode cX6_areClaimsSound 99 = .ok (.iload 5, 2) := by decide +kernel
theorem dX6_areClaimsSound_101 : decode cX6_areClaimsSound 101 = .ok (.invokevirtual 248, 3) := by decide +kernel
theorem dX6_areClaimsSound_104 : decode cX6_areClaimsSound 104 = .ok (.ladd, 1) := by decide +kernel
theorem dX6_areClaimsSound_105 : decode cX6_areClaimsSound 105 = .ok (.lstore_n 3, 1) := by decide +kernel
theorem dX6_areClaimsSound_106 : decode cX6_areClaimsSound 106 = .ok (.iinc 5 1, 3) := by decide +kernel
theorem dX6_areClaimsSound_109 : decode cX6_areClaimsSound 109 = .ok (.goto (-102), 3) := by decide +kernel
theorem dX6_areClaimsSound_112 : decode cX6_areClaimsSound 112 = .ok (.lload_n 1, 1) := by decide +kernel
theorem dX6_areClaimsSound_113 : decode cX6_areClaimsSound 113 = .ok (.lload_n 3, 1) := by decide +kernel
theorem dX6_areClaimsSound_114 : decode cX6_areClaimsSound 114 = .ok (.lcmp, 1) := by decide +kernel
theorem dX6_areClaimsSound_115 : decode cX6_areClaimsSound 115 = .ok (.ifCond .ne 7, 3) := by decide +kernel
theorem dX6_areClaimsSound_118 : decode cX6_areClaimsSound 118 = .ok (.iconst 1, 1) := by decide +kernel
theorem dX6_areClaimsSound_119 : decode cX6_areClaimsSound 119 = .ok (.goto 4, 3) := by decide +kernel
theorem dX6_areClaimsSound_122 : decode cX6_areClaimsSound 122 = .ok (.iconst 0, 1) := by decide +kernel
theorem dX6_areClaimsSound_123 : decode cX6_areClaimsSound 123 = .ok (.ireturn, 1) := by decide +kernel
theorem dX7_init_0 : decode cX7_init 0 = .ok (.aload_n 0, 1) := by decide +kernel
theorem dX7_init_1 : decode cX7_init 1 = .ok (.invokespecial 1, 3) := by decide +kernel
theorem dX7_init_4 : decode cX7_init 4 = .ok (.aload_n 0, 1) := by decide +kernel
theorem dX7_init_5 : decode cX7_init 5 = .ok (.new 7, 3) := by decide +kernel
theorem dX7_init_8 : decode cX7_init 8 = .ok (.dup, 1) := by decide +kernel
theorem dX7_init_9 : decode cX7_init 9 = .ok (.invokespecial 9, 3) := by decide +kernel
theorem dX7_init_12 : decode cX7_init 12 = .ok (.putfield 10, 3) := by decide +kernel
theorem dX7_init_15 : decode cX7_init 15 = .ok (.aload_n 0, 1) := by decide +kernel
theorem dX7_init_16 : decode cX7_init 16 = .ok (.iload_n 1, 1) := by decide +kernel
theorem dX7_init_17 : decode cX7_init 17 = .ok (.putfield 16, 3) := by decide +kernel
theorem dX7_init_20 : decode cX7_init 20 = .ok (.aload_n 0, 1) := by decide +kernel
theorem dX7_init_21 : decode cX7_init 21 = .ok (.iload_n 2, 1) := by decide +kernel
theorem dX7_init_22 : decode cX7_init 22 = .ok (.putfield 20, 3) := by decide +kernel
theorem dX7_init_25 : decode cX7_init 25 = .ok (.aload_n 0, 1) := by decide +kernel
theorem dX7_init_26 : decode cX7_init 26 = .ok (.iload_n 3, 1) := by decide +kernel
theorem dX7_init_27 : decode cX7_init 27 = .ok (.putfield 23, 3) := by decide +kernel
theorem dX7_init_30 : decode cX7_init 30 = .ok (.aload_n 0, 1) := by decide +kernel
theorem dX7_init_31 : decode cX7_init 31 = .ok (.iload 4, 2) := by decide +kernel
theorem dX7_init_33 : decode cX7_init 33 = .ok (.putfield 26, 3) := by decide +kernel
theorem dX7_init_36 : decode cX7_init 36 = .ok (.aload_n 0, 1) := by decide +kernel
theorem dX7_init_37 : decode cX7_init 37 = .ok (.iload_n 1, 1) := by decide +kernel
theorem dX7_init_38 : decode cX7_init 38 = .ok (.putfield 29, 3) := by decide +kernel
theorem dX7_init_41 : decode cX7_init 41 = .ok (.return_, 1) := by decide +kernel
theorem dX8_init_0 : decode cX8_init 0 = .ok (.aload_n 0, 1) := by decide +kernel
theorem dX8_init_1 : decode cX8_init 1 = .ok (.invokespecial 1, 3) := by decide +kernel
theorem dX8_init_4 : decode cX8_init 4 = .ok (.aload_n 0, 1) := by decide +kernel
theorem dX8_init_5 : decode cX8_init 5 = .ok (.iconst 1, 1) := by decide +kernel
theorem dX8_init_6 : decode cX8_init 6 = .ok (.putfield 7, 3) := by decide +kernel
theorem dX8_init_9 : decode cX8_init 9 = .ok (.aload_n 0, 1) := by decide +kernel
theorem dX8_init_10 : decode cX8_init 10 = .ok (.iload_n 1, 1) := by decide +kernel
theorem dX8_init_11 : decode cX8_init 11 = .ok (.putfield 13, 3) := by decide +kernel
theorem dX8_init_14 : decode cX8_init 14 = .ok (.aload_n 0, 1) := by decide +kernel
theorem dX8_init_15 : decode cX8_init 15 = .ok (.iload_n 2, 1) := by decide +kernel
theorem dX8_init_16 : decode cX8_init 16 = .ok (.putfield 16, 3) := by decide +kernel
theorem dX8_init_19 : decode cX8_init 19 = .ok (.aload_n 0, 1) := by decide +kernel
theorem dX8_init_20 : decode cX8_init 20 = .ok (.iload_n 3, 1) := by decide +kernel
theorem dX8_init_21 : decode cX8_init 21 = .ok (.putfield 19, 3) := by decide +kernel
theorem dX8_init_24 : decode cX8_init 24 = .ok (.aload_n 0, 1) := by decide +kernel
theorem dX8_init_25 : decode cX8_init 25 = .ok (.iload 4, 2) := by decide +kernel
theorem dX8_init_27 : decode cX8_init 27 = .ok (.putfield 22, 3) := by decide +kernel
theorem dX8_init_30 : decode cX8_init 30 = .ok (.return_, 1) := by decide +kernel
theorem dX8_goes_0 : decode cX8_goes 0 = .ok (.aload_n 0, 1) := by decide +kernel
theorem dX8_goes_1 : decode cX8_goes 1 = .ok (.iload_n 1, 1) := by decide +kernel
theorem dX8_goes_2 : decode cX8_goes 2 = .ok (.putfield 22, 3) := by decide +kernel
theorem dX8_goes_5 : decode cX8_goes 5 = .ok (.aload_n 0, 1) := by decide +kernel
theorem dX8_goes_6 : decode cX8_goes 6 = .ok (.dup, 1) := by decide +kernel
theorem dX8_goes_7 : decode cX8_goes 7 = .ok (.getfield 7, 3) := by decide +kernel
theorem dX8_goes_10 : decode cX8_goes 10 = .ok (.iconst 1, 1) := by decide +kernel
theorem dX8_goes_11 : decode cX8_goes 11 = .ok (.iadd, 1) := by decide +kernel
theorem dX8_goes_12 : decode cX8_goes 12 = .ok (.putfield 7, 3) := by decide +kernel
theorem dX8_goes_15 : decode cX8_goes 15 = .ok (.aload_n 0, 1) := by decide +kernel
theorem dX8_goes_16 : decode cX8_goes 16 = .ok (.iconst 0, 1) := by decide +kernel
theorem dX8_goes_17 : decode cX8_goes 17 = .ok (.putfield 25, 3) := by decide +kernel
theorem dX8_goes_20 : decode cX8_goes 20 = .ok (.return_, 1) := by decide +kernel
theorem dX9_thrown_0 : decode cX9_thrown 0 = .ok (.aload_n 0, 1) := by decide +kernel
theorem dX9_thrown_1 : decode cX9_thrown 1 = .ok (.getfield 1, 3) := by decide +kernel
theorem dX9_thrown_4 : decode cX9_thrown 4 = .ok (.ireturn, 1) := by decide +kernel
theorem dX9_isWrong_0 : decode cX9_isWrong 0 = .ok (.aload_n 0, 1) := by decide +kernel
theorem dX9_isWrong_1 : decode cX9_isWrong 1 = .ok (.iload_n 1, 1) := by decide +kernel
theorem dX9_isWrong_2 : decode cX9_isWrong 2 = .ok (.putfield 1, 3) := by decide +kernel
theorem dX9_isWrong_5 : decode cX9_isWrong 5 = .ok (.iload_n 1, 1) := by decide +kernel
theorem dX9_isWrong_6 : decode cX9_isWrong 6 = .ok (.ifCond .le 7, 3) := by decide +kernel
theorem dX9_isWrong_9 : decode cX9_isWrong 9 = .ok (.iconst 1, 1) := by decide +kernel
theorem dX9_isWrong_10 : decode cX9_isWrong 10 = .ok (.goto 4, 3) := by decide +kernel
theorem dX9_isWrong_13 : decode cX9_isWrong 13 = .ok (.iconst 0, 1) := by decide +kernel
theorem dX9_isWrong_14 : decode cX9_isWrong 14 = .ok (.ireturn, 1) := by decide +kernel
theorem dX9_isBetween_0 : decode cX9_isBetween 0 = .ok (.iload_n 1, 1) := by decide +kernel
theorem dX9_isBetween_1 : decode cX9_isBetween 1 = .ok (.iload_n 0, 1) := by decide +kernel
theorem dX9_isBetween_2 : decode cX9_isBetween 2 = .ok (.if_icmp .gt 12, 3) := by decide +kernel
theorem dX9_isBetween_5 : decode cX9_isBetween 5 = .ok (.iload_n 0, 1) := by decide +kernel
theorem dX9_isBetween_6 : decode cX9_isBetween 6 = .ok (.iload_n 2, 1) := by decide +kernel
theorem dX9_isBetween_7 : decode cX9_isBetween 7 = .ok (.if_icmp .gt 7, 3) := by decide +kernel
theorem dX9_isBetween_10 : decode cX9_isBetween 10 = .ok (.iconst 1, 1) := by decide +kernel
theorem dX9_isBetween_11 : decode cX9_isBetween 11 = .ok (.goto 4, 3) := by decide +kernel
theorem dX9_isBetween_14 : decode cX9_isBetween 14 = .ok (.iconst 0, 1) := by decide +kernel
theorem dX9_isBetween_15 : decode cX9_isBetween 15 = .ok (.ireturn, 1) := by decide +kernel
theorem dX9_init_0 : decode cX9_init 0 = .ok (.aload_n 0, 1) := by decide +kernel
theorem dX9_init_1 : decode cX9_init 1 = .ok (.invokespecial 7, 3) := by decide +kernel
theorem dX9_init_4 : decode cX9_init 4 = .ok (.aload_n 0, 1) := by decide +kernel
theorem dX9_init_5 : decode cX9_init 5 = .ok (.new 13, 3) := by decide +kernel
theorem dX9_init_8 : decode cX9_init 8 = .ok (.dup, 1) := by decide +kernel
theorem dX9_init_9 : decode cX9_init 9 = .ok (.invokespecial 15, 3) := by decide +kernel
theorem dX9_init_12 : decode cX9_init 12 = .ok (.putfield 16, 3) := by decide +kernel
theorem dX9_init_15 : decode cX9_init 15 = .ok (.aload_n 0, 1) := by decide +kernel
theorem dX9_init_16 : decode cX9_init 16 = .ok (.iconst 2, 1) := by decide +kernel
theorem dX9_init_17 : decode cX9_init 17 = .ok (.newarray .int, 2) := by decide +kernel
theorem dX9_init_19 : decode cX9_init 19 = .ok (.dup, 1) := by decide +kernel
theorem dX9_init_20 : decode cX9_init 20 = .ok (.iconst 0, 1) := by decide +kernel
theorem dX9_init_21 : decode cX9_init 21 = .ok (.bipush 10, 2) := by decide +kernel
theorem dX9_init_23 : decode cX9_init 23 = .ok (.iastore, 1) := by decide +kernel
theorem dX9_init_24 : decode cX9_init 24 = .ok (.dup, 1) := by decide +kernel
theorem dX9_init_25 : decode cX9_init 25 = .ok (.iconst 1, 1) := by decide +kernel
theorem dX9_init_26 : decode cX9_init 26 = .ok (.iconst 1, 1) := by decide +kernel
theorem dX9_init_27 : decode cX9_init 27 = .ok (.iastore, 1) := by decide +kernel
theorem dX9_init_28 : decode cX9_init 28 = .ok (.putfield 20, 3) := by decide +kernel
theorem dX9_init_31 : decode cX9_init 31 = .ok (.aload_n 0, 1) := by decide +kernel
theorem dX9_init_32 : decode cX9_init 32 = .ok (.iconst 2, 1) := by decide +kernel
theorem dX9_init_33 : decode cX9_init 33 = .ok (.newarray .int, 2) := by decide +kernel
theorem dX9_init_35 : decode cX9_init 35 = .ok (.dup, 1) := by decide +kernel
theorem dX9_init_36 : decode cX9_init 36 = .ok (.iconst 0, 1) := by decide +kernel
theorem dX9_init_37 : decode cX9_init 37 = .ok (.iconst 5, 1) := by decide +kernel
theorem dX9_init_38 : decode cX9_init 38 = .ok (.iastore, 1) := by decide +kernel
theorem dX9_init_39 : decode cX9_init 39 = .ok (.dup, 1) := by decide +kernel
theorem dX9_init_40 : decode cX9_init 40 = .ok (.iconst 1, 1) := by decide +kernel
theorem dX9_init_41 : decode cX9_init 41 = .ok (.iconst 5, 1) := by decide +kernel
theorem dX9_init_42 : decode cX9_init 42 = .ok (.iastore, 1) := by decide +kernel
theorem dX9_init_43 : decode cX9_init 43 = .ok (.putfield 24, 3) := by decide +kernel
theorem dX9_init_46 : decode cX9_init 46 = .ok (.aload_n 0, 1) := by decide +kernel
theorem dX9_init_47 : decode cX9_init 47 = .ok (.bipush 6, 2) := by decide +kernel
theorem dX9_init_49 : decode cX9_init 49 = .ok (.iconst 2, 1) := by decide +kernel
theorem dX9_init_50 : decode cX9_init 50 = .ok (.multianewarray 27 2, 4) := by decide +kernel
theorem dX9_init_54 : decode cX9_init 54 = .ok (.putfield 29, 3) := by decide +kernel
theorem dX9_init_57 : decode cX9_init 57 = .ok (.aload_n 0, 1) := by decide +kernel
theorem dX9_init_58 : decode cX9_init 58 = .ok (.new 13, 3) := by decide +kernel
theorem dX9_init_61 : decode cX9_init 61 = .ok (.dup, 1) := by decide +kernel
theorem dX9_init_62 : decode cX9_init 62 = .ok (.invokespecial 15, 3) := by decide +kernel
theorem dX9_init_65 : decode cX9_init 65 = .ok (.putfield 32, 3) := by decide +kernel
theorem dX9_init_68 : decode cX9_init 68 = .ok (.aload_n 0, 1) := by decide +kernel
theorem dX9_init_69 : decode cX9_init 69 = .ok (.bipush 6, 2) := by decide +kernel
theorem dX9_init_71 : decode cX9_init 71 = .ok (.bipush 6, 2) := by decide +kernel
theorem dX9_init_73 : decode cX9_init 73 = .ok (.multianewarray 27 2, 4) := by decide +kernel
theorem dX9_init_77 : decode cX9_init 77 = .ok (.putfield 35, 3) := by decide +kernel
theorem dX9_init_80 : decode cX9_init 80 = .ok (.aload_n 0, 1) := by decide +kernel
theorem dX9_init_81 : decode cX9_init 81 = .ok (.new 13, 3) := by decide +kernel
theorem dX9_init_84 : decode cX9_init 84 = .ok (.dup, 1) := by decide +kernel
theorem dX9_init_85 : decode cX9_init 85 = .ok (.invokespecial 15, 3) := by decide +kernel
theorem dX9_init_88 : decode cX9_init 88 = .ok (.putfield 38, 3) := by decide +kernel
theorem dX9_init_91 : decode cX9_init 91 = .ok (.aload_n 0, 1) := by decide +kernel
theorem dX9_init_92 : decode cX9_init 92 = .ok (.iconst 4, 1) := by decide +kernel
theorem dX9_init_93 : decode cX9_init 93 = .ok (.bipush 6, 2) := by decide +kernel
theorem dX9_init_95 : decode cX9_init 95 = .ok (.multianewarray 27 2, 4) := by decide +kernel
theorem dX9_init_99 : decode cX9_init 99 = .ok (.putfield 41, 3) := by decide +kernel
theorem dX9_init_102 : decode cX9_init 102 = .ok (.aload_n 0, 1) := by decide +kernel
theorem dX9_init_103 : decode cX9_init 103 = .ok (.getfield 16, 3) := by decide +kernel
theorem dX9_init_106 : decode cX9_init 106 = .ok (.bipush 99, 2) := by decide +kernel
theorem dX9_init_108 : decode cX9_init 108 = .ok (.invokestatic 44, 3) := by decide +kernel
theorem dX9_init_111 : decode cX9_init 111 = .ok (.invokeinterface 50 2, 5) := by decide +kernel
theorem dX9_init_116 : decode cX9_init 116 = .ok (.pop, 1) := by decide +kernel
theorem dX9_init_117 : decode cX9_init 117 = .ok (.return_, 1) := by decide +kernel
theorem dX9_isHouse_0 : decode cX9_isHouse 0 = .ok (.iload_n 1, 1) := by decide +kernel
theorem dX9_isHouse_1 : decode cX9_isHouse 1 = .ok (.iconst 0, 1) := by decide +kernel
theorem dX9_isHouse_2 : decode cX9_isHouse 2 = .ok (.aload_n 0, 1) := by decide +kernel
theorem dX9_isHouse_3 : decode cX9_isHouse 3 = .ok (.getfield 16, 3) := by decide +kernel
theorem dX9_isHouse_6 : decode cX9_isHouse 6 = .ok (.invokeinterface 56 1, 5) := by decide +kernel
theorem dX9_isHouse_11 : decode cX9_isHouse 11 = .ok (.iconst 1, 1) := by decide +kernel
theorem dX9_isHouse_12 : decode cX9_isHouse 12 = .ok (.isub, 1) := by decide +kernel
theorem dX9_isHouse_13 : decode cX9_isHouse 13 = .ok (.invokestatic 60, 3) := by decide +kernel
theorem dX9_isHouse_16 : decode cX9_isHouse 16 = .ok (.ireturn, 1) := by decide +kernel
theorem dX9_hasFailed_0 : decode cX9_hasFailed 0 = .ok (.aload_n 0, 1) := by decide +kernel
theorem dX9_hasFailed_1 : decode cX9_hasFailed 1 = .ok (.getfield 16, 3) := by decide +kernel
theorem dX9_hasFailed_4 : decode cX9_hasFailed 4 = .ok (.iload_n 1, 1) := by decide +kernel
theorem dX9_hasFailed_5 : decode cX9_hasFailed 5 = .ok (.invokeinterface 64 2, 5) := by decide +kernel
theorem dX9_hasFailed_10 : decode cX9_hasFailed 10 = .ok (.checkcast 45, 3) := by decide +kernel
theorem dX9_hasFailed_13 : decode cX9_hasFailed 13 = .ok (.invokevirtual 68, 3) := by decide +kernel
theorem dX9_hasFailed_16 : decode cX9_hasFailed 16 = .ok (.bipush 120, 2) := by decide +kernel
theorem dX9_hasFailed_18 : decode cX9_hasFailed 18 = .ok (.if_icmp .ne 7, 3) := by decide +kernel
theorem dX9_hasFailed_21 : decode cX9_hasFailed 21 = .ok (.iconst 1, 1) := by decide +kernel
theorem dX9_hasFailed_22 : decode cX9_hasFailed 22 = .ok (.goto 4, 3) := by decide +kernel
theorem dX9_hasFailed_25 : decode cX9_hasFailed 25 = .ok (.iconst 0, 1) := by decide +kernel
theorem dX9_hasFailed_26 : decode cX9_hasFailed 26 = .ok (.ireturn, 1) := by decide +kernel
theorem dX9_isMetal_0 : decode cX9_isMetal 0 = .ok (.ldc 72, 2) := by decide +kernel
theorem dX9_isMetal_2 : decode cX9_isMetal 2 = .ok (.iload_n 0, 1) := by decide +kernel
theorem dX9_isMetal_3 : decode cX9_isMetal 3 = .ok (.invokevirtual 74, 3) := by decide +kernel
theorem dX9_isMetal_6 : decode cX9_isMetal 6 = .ok (.ifCond .lt 7, 3) := by decide +kernel
theorem dX9_isMetal_9 : decode cX9_isMetal 9 = .ok (.iconst 1, 1) := by decide +kernel
theorem dX9_isMetal_10 : decode cX9_isMetal 10 = .ok (.goto 4, 3) := by decide +kernel
theorem dX9_isMetal_13 : decode cX9_isMetal 13 = .ok (.iconst 0, 1) := by decide +kernel
theorem dX9_isMetal_14 : decode cX9_isMetal 14 = .ok (.ireturn, 1) := by decide +kernel
theorem dX9_addHouse_0 : decode cX9_addHouse 0 = .ok (.aload_n 0, 1) := by decide +kernel
theorem dX9_addHouse_1 : decode cX9_addHouse 1 = .ok (.iload_n 1, 1) := by decide +kernel
theorem dX9_addHouse_2 : decode cX9_addHouse 2 = .ok (.bipush 98, 2) := by decide +kernel
theorem dX9_addHouse_4 : decode cX9_addHouse 4 = .ok (.if_icmp .eq 13, 3) := by decide +kernel
theorem dX9_addHouse_7 : decode cX9_addHouse 7 = .ok (.iload_n 1, 1) := by decide +kernel
theorem dX9_addHouse_8 : decode cX9_addHouse 8 = .ok (.bipush 116, 2) := by decide +kernel
theorem dX9_addHouse_10 : decode cX9_addHouse 10 = .ok (.if_icmp .eq 7, 3) := by decide +kernel
theorem dX9_addHouse_13 : decode cX9_addHouse 13 = .ok (.iconst 1, 1) := by decide +kernel
theorem dX9_addHouse_14 : decode cX9_addHouse 14 = .ok (.goto 22, 3) := by decide +kernel
theorem dX9_addHouse_17 : decode cX9_addHouse 17 = .ok (.aload_n 0, 1) := by decide +kernel
theorem dX9_addHouse_18 : decode cX9_addHouse 18 = .ok (.getfield 16, 3) := by decide +kernel
theorem dX9_addHouse_21 : decode cX9_addHouse 21 = .ok (.invokeinterface 56 1, 5) := by decide +kernel
theorem dX9_addHouse_26 : decode cX9_addHouse 26 = .ok (.bipush 6, 2) := by decide +kernel
theorem dX9_addHouse_28 : decode cX9_addHouse 28 = .ok (.if_icmp .ne 7, 3) := by decide +kernel
theorem dX9_addHouse_31 : decode cX9_addHouse 31 = .ok (.iconst 2, 1) := by decide +kernel
theorem dX9_addHouse_32 : decode cX9_addHouse 32 = .ok (.goto 4, 3) := by decide +kernel
theorem dX9_addHouse_35 : decode cX9_addHouse 35 = .ok (.iconst 0, 1) := by decide +kernel
theorem dX9_addHouse_36 : decode cX9_addHouse 36 = .ok (.invokevirtual 80, 3) := by decide +kernel
theorem dX9_addHouse_39 : decode cX9_addHouse 39 = .ok (.ifCond .eq 5, 3) := by decide +kernel
theorem dX9_addHouse_42 : decode cX9_addHouse 42 = .ok (.iconst 0, 1) := by decide +kernel
theorem dX9_addHouse_43 : decode cX9_addHouse 43 = .ok (.ireturn, 1) := by decide +kernel
theorem dX9_addHouse_44 : decode cX9_addHouse 44 = .ok (.aload_n 0, 1) := by decide +kernel
theorem dX9_addHouse_45 : decode cX9_addHouse 45 = .ok (.getfield 16, 3) := by decide +kernel
theorem dX9_addHouse_48 : decode cX9_addHouse 48 = .ok (.iload_n 1, 1) := by decide +kernel
theorem dX9_addHouse_49 : decode cX9_addHouse 49 = .ok (.invokestatic 44, 3) := by decide +kernel
theorem dX9_addHouse_52 : decode cX9_addHouse 52 = .ok (.invokeinterface 50 2, 5) := by decide +kernel
theorem dX9_addHouse_57 : decode cX9_addHouse 57 = .ok (.pop, 1) := by decide +kernel
theorem dX9_addHouse_58 : decode cX9_addHouse 58 = .ok (.aload_n 0, 1) := by decide +kernel
theorem dX9_addHouse_59 : decode cX9_addHouse 59 = .ok (.getfield 16, 3) := by decide +kernel
theorem dX9_addHouse_62 : decode cX9_addHouse 62 = .ok (.invokeinterface 56 1, 5) := by decide +kernel
theorem dX9_addHouse_67 : decode cX9_addHouse 67 = .ok (.iconst 1, 1) := by decide +kernel
theorem dX9_addHouse_68 : decode cX9_addHouse 68 = .ok (.isub, 1) := by decide +kernel
theorem dX9_addHouse_69 : decode cX9_addHouse 69 = .ok (.ireturn, 1) := by decide +kernel
theorem dX9_kindOf_0 : decode cX9_kindOf 0 = .ok (.aload_n 0, 1) := by decide +kernel
theorem dX9_kindOf_1 : decode cX9_kindOf 1 = .ok (.aload_n 0, 1) := by decide +kernel
theorem dX9_kindOf_2 : decode cX9_kindOf 2 = .ok (.iload_n 1, 1) := by decide +kernel
theorem dX9_kindOf_3 : decode cX9_kindOf 3 = .ok (.invokevirtual 84, 3) := by decide +kernel
theorem dX9_kindOf_6 : decode cX9_kindOf 6 = .ok (.ifCond .eq 7, 3) := by decide +kernel
theorem dX9_kindOf_9 : decode cX9_kindOf 9 = .ok (.iconst 0, 1) := by decide +kernel
theorem dX9_kindOf_10 : decode cX9_kindOf 10 = .ok (.goto 4, 3) := by decide +kernel
theorem dX9_kindOf_13 : decode cX9_kindOf 13 = .ok (.iconst 1, 1) := by decide +kernel
theorem dX9_kindOf_14 : decode cX9_kindOf 14 = .ok (.invokevirtual 80, 3) := by decide +kernel
theorem dX9_kindOf_17 : decode cX9_kindOf 17 = .ok (.ifCond .eq 7, 3) := by decide +kernel
theorem dX9_kindOf_20 : decode cX9_kindOf 20 = .ok (.iconst 0, 1) := by decide +kernel
theorem dX9_kindOf_21 : decode cX9_kindOf 21 = .ok (.goto 19, 3) := by decide +kernel
theorem dX9_kindOf_24 : decode cX9_kindOf 24 = .ok (.aload_n 0, 1) := by decide +kernel
theorem dX9_kindOf_25 : decode cX9_kindOf 25 = .ok (.getfield 16, 3) := by decide +kernel
theorem dX9_kindOf_28 : decode cX9_kindOf 28 = .ok (.iload_n 1, 1) := by decide +kernel
theorem dX9_kindOf_29 : decode cX9_kindOf 29 = .ok (.invokeinterface 64 2, 5) := by decide +kernel
theorem dX9_kindOf_34 : decode cX9_kindOf 34 = .ok (.checkcast 45, 3) := by decide +kernel
theorem dX9_kindOf_37 : decode cX9_kindOf 37 = .ok (.invokevirtual 68, 3) := by decide +kernel
theorem dX9_kindOf_40 : decode cX9_kindOf 40 = .ok (.ireturn, 1) := by decide +kernel
theorem dX9_dig_0 : decode cX9_dig 0 = .ok (.aload_n 0, 1) := by decide +kernel
theorem dX9_dig_1 : decode cX9_dig 1 = .ok (.aload_n 0, 1) := by decide +kernel
theorem dX9_dig_2 : decode cX9_dig 2 = .ok (.iload_n 1, 1) := by decide +kernel
theorem dX9_dig_3 : decode cX9_dig 3 = .ok (.invokevirtual 84, 3) := by decide +kernel
theorem dX9_dig_6 : decode cX9_dig 6 = .ok (.ifCond .ne 7, 3) := by decide +kernel
theorem dX9_dig_9 : decode cX9_dig 9 = .ok (.iconst 1, 1) := by decide +kernel
theorem dX9_dig_10 : decode cX9_dig 10 = .ok (.goto 37, 3) := by decide +kernel
theorem dX9_dig_13 : decode cX9_dig 13 = .ok (.iload_n 2, 1) := by decide +kernel
theorem dX9_dig_14 : decode cX9_dig 14 = .ok (.invokestatic 87, 3) := by decide +kernel
theorem dX9_dig_17 : decode cX9_dig 17 = .ok (.ifCond .eq 13, 3) := by decide +kernel
theorem dX9_dig_20 : decode cX9_dig 20 = .ok (.iload_n 3, 1) := by decide +kernel
theorem dX9_dig_21 : decode cX9_dig 21 = .ok (.iconst 1, 1) := by decide +kernel
theorem dX9_dig_22 : decode cX9_dig 22 = .ok (.bipush 99, 2) := by decide +kernel
theorem dX9_dig_24 : decode cX9_dig 24 = .ok (.invokestatic 60, 3) := by decide +kernel
theorem dX9_dig_27 : decode cX9_dig 27 = .ok (.ifCond .ne 7, 3) := by decide +kernel
theorem dX9_dig_30 : decode cX9_dig 30 = .ok (.iconst 2, 1) := by decide +kernel
theorem dX9_dig_31 : decode cX9_dig 31 = .ok (.goto 16, 3) := by decide +kernel
theorem dX9_dig_34 : decode cX9_dig 34 = .ok (.aload_n 0, 1) := by decide +kernel
theorem dX9_dig_35 : decode cX9_dig 35 = .ok (.iload_n 1, 1) := by decide +kernel
theorem dX9_dig_36 : decode cX9_dig 36 = .ok (.invokevirtual 91, 3) := by decide +kernel
theorem dX9_dig_39 : decode cX9_dig 39 = .ok (.ifCond .eq 7, 3) := by decide +kernel
theorem dX9_dig_42 : decode cX9_dig 42 = .ok (.iconst 3, 1) := by decide +kernel
theorem dX9_dig_43 : decode cX9_dig 43 = .ok (.goto 4, 3) := by decide +kernel
theorem dX9_dig_46 : decode cX9_dig 46 = .ok (.iconst 0, 1) := by decide +kernel
theorem dX9_dig_47 : decode cX9_dig 47 = .ok (.invokevirtual 80, 3) := by decide +kernel
theorem dX9_dig_50 : decode cX9_dig 50 = .ok (.ifCond .eq 5, 3) := by decide +kernel
theorem dX9_dig_53 : decode cX9_dig 53 = .ok (.iconst 0, 1) := by decide +kernel
theorem dX9_dig_54 : decode cX9_dig 54 = .ok (.ireturn, 1) := by decide +kernel
theorem dX9_dig_55 : decode cX9_dig 55 = .ok (.aload_n 0, 1) := by decide +kernel
theorem dX9_dig_56 : decode cX9_dig 56 = .ok (.getfield 29, 3) := by decide +kernel
theorem dX9_dig_59 : decode cX9_dig 59 = .ok (.iload_n 1, 1) := by decide +kernel
theorem dX9_dig_60 : decode cX9_dig 60 = .ok (.aaload, 1) := by decide +kernel
theorem dX9_dig_61 : decode cX9_dig 61 = .ok (.ldc 72, 2) := by decide +kernel
theorem dX9_dig_63 : decode cX9_dig 63 = .ok (.iload_n 2, 1) := by decide +kernel
theorem dX9_dig_64 : decode cX9_dig 64 = .ok (.invokevirtual 74, 3) := by decide +kernel
theorem dX9_dig_67 : decode cX9_dig 67 = .ok (.dup2, 1) := by decide +kernel
theorem dX9_dig_68 : decode cX9_dig 68 = .ok (.iaload, 1) := by decide +kernel
theorem dX9_dig_69 : decode cX9_dig 69 = .ok (.iload_n 3, 1) := by decide +kernel
theorem dX9_dig_70 : decode cX9_dig 70 = .ok (.iadd, 1) := by decide +kernel
theorem dX9_dig_71 : decode cX9_dig 71 = .ok (.iastore, 1) := by decide +kernel
theorem dX9_dig_72 : decode cX9_dig 72 = .ok (.aload_n 0, 1) := by decide +kernel
theorem dX9_dig_73 : decode cX9_dig 73 = .ok (.getfield 29, 3) := by decide +kernel
theorem dX9_dig_76 : decode cX9_dig 76 = .ok (.iload_n 1, 1) := by decide +kernel
theorem dX9_dig_77 : decode cX9_dig 77 = .ok (.aaload, 1) := by decide +kernel
theorem dX9_dig_78 : decode cX9_dig 78 = .ok (.ldc 72, 2) := by decide +kernel
theorem dX9_dig_80 : decode cX9_dig 80 = .ok (.iload_n 2, 1) := by decide +kernel
theorem dX9_dig_81 : decode cX9_dig 81 = .ok (.invokevirtual 74, 3) := by decide +kernel
theorem dX9_dig_84 : decode cX9_dig 84 = .ok (.iaload, 1) := by decide +kernel
theorem dX9_dig_85 : decode cX9_dig 85 = .ok (.ireturn, 1) := by decide +kernel
theorem dX9_decree_0 : decode cX9_decree 0 = .ok (.aload_n 0, 1) := by decide +kernel
theorem dX9_decree_1 : decode cX9_decree 1 = .ok (.iload_n 1, 1) := by decide +kernel
theorem dX9_decree_2 : decode cX9_decree 2 = .ok (.invokestatic 87, 3) := by decide +kernel
theorem dX9_decree_5 : decode cX9_decree 5 = .ok (.ifCond .eq 27, 3) := by decide +kernel
theorem dX9_decree_8 : decode cX9_decree 8 = .ok (.iload_n 2, 1) := by decide +kernel
theorem dX9_decree_9 : decode cX9_decree 9 = .ok (.iconst 1, 1) := by decide +kernel
theorem dX9_decree_10 : decode cX9_decree 10 = .ok (.bipush 99, 2) := by decide +kernel
theorem dX9_decree_12 : decode cX9_decree 12 = .ok (.invokestatic 60, 3) := by decide +kernel
theorem dX9_decree_15 : decode cX9_decree 15 = .ok (.ifCond .eq 17, 3) := by decide +kernel
theorem dX9_decree_18 : decode cX9_decree 18 = .ok (.iload_n 3, 1) := by decide +kernel
theorem dX9_decree_19 : decode cX9_decree 19 = .ok (.iconst 1, 1) := by decide +kernel
theorem dX9_decree_20 : decode cX9_decree 20 = .ok (.bipush 9, 2) := by decide +kernel
theorem dX9_decree_22 : decode cX9_decree 22 = .ok (.invokestatic 60, 3) := by decide +kernel
theorem dX9_decree_25 : decode cX9_decree 25 = .ok (.ifCond .eq 7, 3) := by decide +kernel
theorem dX9_decree_28 : decode cX9_decree 28 = .ok (.iconst 0, 1) := by decide +kernel
theorem dX9_decree_29 : decode cX9_decree 29 = .ok (.goto 4, 3) := by decide +kernel
theorem dX9_decree_32 : decode cX9_decree 32 = .ok (.iconst 1, 1) := by decide +kernel
theorem dX9_decree_33 : decode cX9_decree 33 = .ok (.invokevirtual 80, 3) := by decide +kernel
theorem dX9_decree_36 : decode cX9_decree 36 = .ok (.ifCond .eq 5, 3) := by decide +kernel
theorem dX9_decree_39 : decode cX9_decree 39 = .ok (.iconst 0, 1) := by decide +kernel
theorem dX9_decree_40 : decode cX9_decree 40 = .ok (.ireturn, 1) := by decide +kernel
theorem dX9_decree_41 : decode cX9_decree 41 = .ok (.ldc 72, 2) := by decide +kernel
theorem dX9_decree_43 : decode cX9_decree 43 = .ok (.iload_n 1, 1) := by decide +kernel
theorem dX9_decree_44 : decode cX9_decree 44 = .ok (.invokevirtual 74, 3) := by decide +kernel
theorem dX9_decree_47 : decode cX9_decree 47 = .ok (.istore 4, 2) := by decide +kernel
theorem dX9_decree_49 : decode cX9_decree 49 = .ok (.bipush 100, 2) := by decide +kernel
theorem dX9_decree_51 : decode cX9_decree 51 = .ok (.aload_n 0, 1) := by decide +kernel
theorem dX9_decree_52 : decode cX9_decree 52 = .ok (.getfield 20, 3) := by decide +kernel
theorem dX9_decree_55 : decode cX9_decree 55 = .ok (.iload 4, 2) := by decide +kernel
theorem dX9_decree_57 : decode cX9_decree 57 = .ok (.iaload, 1) := by decide +kernel
theorem dX9_decree_58 : decode cX9_decree 58 = .ok (.imul, 1) := by decide +kernel
theorem dX9_decree_59 : decode cX9_decree 59 = .ok (.aload_n 0, 1) := by decide +kernel
theorem dX9_decree_60 : decode cX9_decree 60 = .ok (.getfield 24, 3) := by decide +kernel
theorem dX9_decree_63 : decode cX9_decree 63 = .ok (.iload 4, 2) := by decide +kernel
theorem dX9_decree_65 : decode cX9_decree 65 = .ok (.iaload, 1) := by decide +kernel
theorem dX9_decree_66 : decode cX9_decree 66 = .ok (.iadd, 1) := by decide +kernel
theorem dX9_decree_67 : decode cX9_decree 67 = .ok (.istore 5, 2) := by decide +kernel
theorem dX9_decree_69 : decode cX9_decree 69 = .ok (.aload_n 0, 1) := by decide +kernel
theorem dX9_decree_70 : decode cX9_decree 70 = .ok (.getfield 20, 3) := by decide +kernel
theorem dX9_decree_73 : decode cX9_decree 73 = .ok (.iload 4, 2) := by decide +kernel
theorem dX9_decree_75 : decode cX9_decree 75 = .ok (.iload_n 2, 1) := by decide +kernel
theorem dX9_decree_76 : decode cX9_decree 76 = .ok (.iastore, 1) := by decide +kernel
theorem dX9_decree_77 : decode cX9_decree 77 = .ok (.aload_n 0, 1) := by decide +kernel
theorem dX9_decree_78 : decode cX9_decree 78 = .ok (.getfield 24, 3) := by decide +kernel
theorem dX9_decree_81 : decode cX9_decree 81 = .ok (.iload 4, 2) := by decide +kernel
theorem dX9_decree_83 : decode cX9_decree 83 = .ok (.iload_n 3, 1) := by decide +kernel
theorem dX9_decree_84 : decode cX9_decree 84 = .ok (.iastore, 1) := by decide +kernel
theorem dX9_decree_85 : decode cX9_decree 85 = .ok (.iload 5, 2) := by decide +kernel
theorem dX9_decree_87 : decode cX9_decree 87 = .ok (.ireturn, 1) := by decide +kernel
theorem dX9_mints_0 : decode cX9_mints 0 = .ok (.iconst 0, 1) := by decide +kernel
theorem dX9_mints_1 : decode cX9_mints 1 = .ok (.istore 4, 2) := by decide +kernel
theorem dX9_mints_3 : decode cX9_mints 3 = .ok (.iload 4, 2) := by decide +kernel
theorem dX9_mints_5 : decode cX9_mints 5 = .ok (.iload_n 3, 1) := by decide +kernel
theorem dX9_mints_6 : decode cX9_mints 6 = .ok (.if_icmp .ge 43, 3) := by decide +kernel
theorem dX9_mints_9 : decode cX9_mints 9 = .ok (.aload_n 0, 1) := by decide +kernel
theorem dX9_mints_10 : decode cX9_mints 10 = .ok (.getfield 32, 3) := by decide +kernel
theorem dX9_mints_13 : decode cX9_mints 13 = .ok (.new 94, 3) := by decide +kernel
theorem dX9_mints_16 : decode cX9_mints 16 = .ok (.dup, 1) := by decide +kernel
theorem dX9_mints_17 : decode cX9_mints 17 = .ok (.aload_n 0, 1) := by decide +kernel
theorem dX9_mints_18 : decode cX9_mints 18 = .ok (.getfield 32, 3) := by decide +kernel
theorem dX9_mints_21 : decode cX9_mints 21 = .ok (.invokeinterface 56 1, 5) := by decide +kernel
theorem dX9_mints_26 : decode cX9_mints 26 = .ok (.iload_n 2, 1) := by decide +kernel
theorem dX9_mints_27 : decode cX9_mints 27 = .ok (.aload_n 0, 1) := by decide +kernel
theorem dX9_mints_28 : decode cX9_mints 28 = .ok (.getfield 24, 3) := by decide +kernel
theorem dX9_mints_31 : decode cX9_mints 31 = .ok (.iload_n 2, 1) := by decide +kernel
theorem dX9_mints_32 : decode cX9_mints 32 = .ok (.iaload, 1) := by decide +kernel
theorem dX9_mints_33 : decode cX9_mints 33 = .ok (.iload_n 1, 1) := by decide +kernel
theorem dX9_mints_34 : decode cX9_mints 34 = .ok (.invokespecial 96, 3) := by decide +kernel
theorem dX9_mints_37 : decode cX9_mints 37 = .ok (.invokeinterface 50 2, 5) := by decide +kernel
theorem dX9_mints_42 : decode cX9_mints 42 = .ok (.pop, 1) := by decide +kernel
theorem dX9_mints_43 : decode cX9_mints 43 = .ok (.iinc 4 1, 3) := by decide +kernel
theorem dX9_mints_46 : decode cX9_mints 46 = .ok (.goto (-43), 3) := by decide +kernel
theorem dX9_mints_49 : decode cX9_mints 49 = .ok (.aload_n 0, 1) := by decide +kernel
theorem dX9_mints_50 : decode cX9_mints 50 = .ok (.getfield 29, 3) := by decide +kernel
theorem dX9_mints_53 : decode cX9_mints 53 = .ok (.iload_n 1, 1) := by decide +kernel
theorem dX9_mints_54 : decode cX9_mints 54 = .ok (.aaload, 1) := by decide +kernel
theorem dX9_mints_55 : decode cX9_mints 55 = .ok (.iload_n 2, 1) := by decide +kernel
theorem dX9_mints_56 : decode cX9_mints 56 = .ok (.dup2, 1) := by decide +kernel
theorem dX9_mints_57 : decode cX9_mints 57 = .ok (.iaload, 1) := by decide +kernel
theorem dX9_mints_58 : decode cX9_mints 58 = .ok (.iload_n 3, 1) := by decide +kernel
theorem dX9_mints_59 : decode cX9_mints 59 = .ok (.aload_n 0, 1) := by decide +kernel
theorem dX9_mints_60 : decode cX9_mints 60 = .ok (.getfield 24, 3) := by decide +kernel
theorem dX9_mints_63 : decode cX9_mints 63 = .ok (.iload_n 2, 1) := by decide +kernel
theorem dX9_mints_64 : decode cX9_mints 64 = .ok (.iaload, 1) := by decide +kernel
theorem dX9_mints_65 : decode cX9_mints 65 = .ok (.imul, 1) := by decide +kernel
theorem dX9_mints_66 : decode cX9_mints 66 = .ok (.isub, 1) := by decide +kernel
theorem dX9_mints_67 : decode cX9_mints 67 = .ok (.iastore, 1) := by decide +kernel
theorem dX9_mints_68 : decode cX9_mints 68 = .ok (.return_, 1) := by decide +kernel
theorem dX9_mint_0 : decode cX9_mint 0 = .ok (.aload_n 0, 1) := by decide +kernel
theorem dX9_mint_1 : decode cX9_mint 1 = .ok (.aload_n 0, 1) := by decide +kernel
theorem dX9_mint_2 : decode cX9_mint 2 = .ok (.iload_n 1, 1) := by decide +kernel
theorem dX9_mint_3 : decode cX9_mint 3 = .ok (.invokevirtual 84, 3) := by decide +kernel
theorem dX9_mint_6 : decode cX9_mint 6 = .ok (.ifCond .ne 7, 3) := by decide +kernel
theorem dX9_mint_9 : decode cX9_mint 9 = .ok (.iconst 1, 1) := by decide +kernel
theorem dX9_mint_10 : decode cX9_mint 10 = .ok (.goto 37, 3) := by decide +kernel
theorem dX9_mint_13 : decode cX9_mint 13 = .ok (.iload_n 2, 1) := by decide +kernel
theorem dX9_mint_14 : decode cX9_mint 14 = .ok (.invokestatic 87, 3) := by decide +kernel
theorem dX9_mint_17 : decode cX9_mint 17 = .ok (.ifCond .eq 13, 3) := by decide +kernel
theorem dX9_mint_20 : decode cX9_mint 20 = .ok (.iload_n 3, 1) := by decide +kernel
theorem dX9_mint_21 : decode cX9_mint 21 = .ok (.iconst 1, 1) := by decide +kernel
theorem dX9_mint_22 : decode cX9_mint 22 = .ok (.bipush 90, 2) := by decide +kernel
theorem dX9_mint_24 : decode cX9_mint 24 = .ok (.invokestatic 60, 3) := by decide +kernel
theorem dX9_mint_27 : decode cX9_mint 27 = .ok (.ifCond .ne 7, 3) := by decide +kernel
theorem dX9_mint_30 : decode cX9_mint 30 = .ok (.iconst 2, 1) := by decide +kernel
theorem dX9_mint_31 : decode cX9_mint 31 = .ok (.goto 16, 3) := by decide +kernel
theorem dX9_mint_34 : decode cX9_mint 34 = .ok (.aload_n 0, 1) := by decide +kernel
theorem dX9_mint_35 : decode cX9_mint 35 = .ok (.iload_n 1, 1) := by decide +kernel
theorem dX9_mint_36 : decode cX9_mint 36 = .ok (.invokevirtual 91, 3) := by decide +kernel
theorem dX9_mint_39 : decode cX9_mint 39 = .ok (.ifCond .eq 7, 3) := by decide +kernel
theorem dX9_mint_42 : decode cX9_mint 42 = .ok (.iconst 3, 1) := by decide +kernel
theorem dX9_mint_43 : decode cX9_mint 43 = .ok (.goto 4, 3) := by decide +kernel
theorem dX9_mint_46 : decode cX9_mint 46 = .ok (.iconst 0, 1) := by decide +kernel
theorem dX9_mint_47 : decode cX9_mint 47 = .ok (.invokevirtual 80, 3) := by decide +kernel
theorem dX9_mint_50 : decode cX9_mint 50 = .ok (.ifCond .eq 5, 3) := by decide +kernel
theorem dX9_mint_53 : decode cX9_mint 53 = .ok (.iconst 0, 1) := by decide +kernel
theorem dX9_mint_54 : decode cX9_mint 54 = .ok (.ireturn, 1) := by decide +kernel
theorem dX9_mint_55 : decode cX9_mint 55 = .ok (.ldc 72, 2) := by decide +kernel
theorem dX9_mint_57 : decode cX9_mint 57 = .ok (.iload_n 2, 1) := by decide +kernel
theorem dX9_mint_58 : decode cX9_mint 58 = .ok (.invokevirtual 74, 3) := by decide +kernel
theorem dX9_mint_61 : decode cX9_mint 61 = .ok (.istore 4, 2) := by decide +kernel
theorem dX9_mint_63 : decode cX9_mint 63 = .ok (.aload_n 0, 1) := by decide +kernel
theorem dX9_mint_64 : decode cX9_mint 64 = .ok (.aload_n 0, 1) := by decide +kernel
theorem dX9_mint_65 : decode cX9_mint 65 = .ok (.getfield 29, 3) := by decide +kernel
theorem dX9_mint_68 : decode cX9_mint 68 = .ok (.iload_n 1, 1) := by decide +kernel
theorem dX9_mint_69 : decode cX9_mint 69 = .ok (.aaload, 1) := by decide +kernel
theorem dX9_mint_70 : decode cX9_mint 70 = .ok (.iload 4, 2) := by decide +kernel
theorem dX9_mint_72 : decode cX9_mint 72 = .ok (.iaload, 1) := by decide +kernel
theorem dX9_mint_73 : decode cX9_mint 73 = .ok (.iload_n 3, 1) := by decide +kernel
theorem dX9_mint_74 : decode cX9_mint 74 = .ok (.aload_n 0, 1) := by decide +kernel
theorem dX9_mint_75 : decode cX9_mint 75 = .ok (.getfield 24, 3) := by decide +kernel
theorem dX9_mint_78 : decode cX9_mint 78 = .ok (.iload 4, 2) := by decide +kernel
theorem dX9_mint_80 : decode cX9_mint 80 = .ok (.iaload, 1) := by decide +kernel
theorem dX9_mint_81 : decode cX9_mint 81 = .ok (.imul, 1) := by decide +kernel
theorem dX9_mint_82 : decode cX9_mint 82 = .ok (.if_icmp .lt 19, 3) := by decide +kernel
theorem dX9_mint_85 : decode cX9_mint 85 = .ok (.aload_n 0, 1) := by decide +kernel
theorem dX9_mint_86 : decode cX9_mint 86 = .ok (.getfield 32, 3) := by decide +kernel
theorem dX9_mint_89 : decode cX9_mint 89 = .ok (.invokeinterface 56 1, 5) := by decide +kernel
theorem dX9_mint_94 : decode cX9_mint 94 = .ok (.iload_n 3, 1) := by decide +kernel
theorem dX9_mint_95 : decode cX9_mint 95 = .ok (.iadd, 1) := by decide +kernel
theorem dX9_mint_96 : decode cX9_mint 96 = .ok (.bipush 90, 2) := by decide +kernel
theorem dX9_mint_98 : decode cX9_mint 98 = .ok (.if_icmp .le 7, 3) := by decide +kernel
theorem dX9_mint_101 : decode cX9_mint 101 = .ok (.iconst 4, 1) := by decide +kernel
theorem dX9_mint_102 : decode cX9_mint 102 = .ok (.goto 4, 3) := by decide +kernel
theorem dX9_mint_105 : decode cX9_mint 105 = .ok (.iconst 0, 1) := by decide +kernel
theorem dX9_mint_106 : decode cX9_mint 106 = .ok (.invokevirtual 80, 3) := by decide +kernel
theorem dX9_mint_109 : decode cX9_mint 109 = .ok (.ifCond .eq 5, 3) := by decide +kernel
theorem dX9_mint_112 : decode cX9_mint 112 = .ok (.iconst 0, 1) := by decide +kernel
theorem dX9_mint_113 : decode cX9_mint 113 = .ok (.ireturn, 1) := by decide +kernel
theorem dX9_mint_114 : decode cX9_mint 114 = .ok (.aload_n 0, 1) := by decide +kernel
theorem dX9_mint_115 : decode cX9_mint 115 = .ok (.getfield 32, 3) := by decide +kernel
theorem dX9_mint_118 : decode cX9_mint 118 = .ok (.invokeinterface 56 1, 5) := by decide +kernel
theorem dX9_mint_123 : decode cX9_mint 123 = .ok (.istore 5, 2) := by decide +kernel
theorem dX9_mint_125 : decode cX9_mint 125 = .ok (.aload_n 0, 1) := by decide +kernel
theorem dX9_mint_126 : decode cX9_mint 126 = .ok (.iload_n 1, 1) := by decide +kernel
theorem dX9_mint_127 : decode cX9_mint 127 = .ok (.iload 4, 2) := by decide +kernel
theorem dX9_mint_129 : decode cX9_mint 129 = .ok (.iload_n 3, 1) := by decide +kernel
theorem dX9_mint_130 : decode cX9_mint 130 = .ok (.invokevirtual 99, 3) := by decide +kernel
theorem dX9_mint_133 : decode cX9_mint 133 = .ok (.iload 5, 2) := by decide +kernel
theorem dX9_mint_135 : decode cX9_mint 135 = .ok (.ireturn, 1) := by decide +kernel
theorem dX9_isCoin_0 : decode cX9_isCoin 0 = .ok (.iload_n 1, 1) := by decide +kernel
theorem dX9_isCoin_1 : decode cX9_isCoin 1 = .ok (.iconst 0, 1) := by decide +kernel
theorem dX9_isCoin_2 : decode cX9_isCoin 2 = .ok (.aload_n 0, 1) := by decide +kernel
theorem dX9_isCoin_3 : decode cX9_isCoin 3 = .ok (.getfield 32, 3) := by decide +kernel
theorem dX9_isCoin_6 : decode cX9_isCoin 6 = .ok (.invokeinterface 56 1, 5) := by decide +kernel
theorem dX9_isCoin_11 : decode cX9_isCoin 11 = .ok (.iconst 1, 1) := by decide +kernel
theorem dX9_isCoin_12 : decode cX9_isCoin 12 = .ok (.isub, 1) := by decide +kernel
theorem dX9_isCoin_13 : decode cX9_isCoin 13 = .ok (.invokestatic 60, 3) := by decide +kernel
theorem dX9_isCoin_16 : decode cX9_isCoin 16 = .ok (.ireturn, 1) := by decide +kernel
theorem dX9_isMelted_0 : decode cX9_isMelted 0 = .ok (.aload_n 0, 1) := by decide +kernel
theorem dX9_isMelted_1 : decode cX9_isMelted 1 = .ok (.getfield 32, 3) := by decide +kernel
theorem dX9_isMelted_4 : decode cX9_isMelted 4 = .ok (.iload_n 1, 1) := by decide +kernel
theorem dX9_isMelted_5 : decode cX9_isMelted 5 = .ok (.invokeinterface 64 2, 5) := by decide +kernel
theorem dX9_isMelted_10 : decode cX9_isMelted 10 = .ok (.checkcast 94, 3) := by decide +kernel
theorem dX9_isMelted_13 : decode cX9_isMelted 13 = .ok (.getfield 103, 3) := by decide +kernel
theorem dX9_isMelted_16 : decode cX9_isMelted 16 = .ok (.ifCond .ne 7, 3) := by decide +kernel
theorem dX9_isMelted_19 : decode cX9_isMelted 19 = .ok (.iconst 1, 1) := by decide +kernel
theorem dX9_isMelted_20 : decode cX9_isMelted 20 = .ok (.goto 4, 3) := by decide +kernel
theorem dX9_isMelted_23 : decode cX9_isMelted 23 = .ok (.iconst 0, 1) := by decide +kernel
theorem dX9_isMelted_24 : decode cX9_isMelted 24 = .ok (.ireturn, 1) := by decide +kernel
theorem dX9_clip_0 : decode cX9_clip 0 = .ok (.aload_n 0, 1) := by decide +kernel
theorem dX9_clip_1 : decode cX9_clip 1 = .ok (.aload_n 0, 1) := by decide +kernel
theorem dX9_clip_2 : decode cX9_clip 2 = .ok (.iload_n 1, 1) := by decide +kernel
theorem dX9_clip_3 : decode cX9_clip 3 = .ok (.invokevirtual 106, 3) := by decide +kernel
theorem dX9_clip_6 : decode cX9_clip 6 = .ok (.ifCond .ne 7, 3) := by decide +kernel
theorem dX9_clip_9 : decode cX9_clip 9 = .ok (.iconst 1, 1) := by decide +kernel
theorem dX9_clip_10 : decode cX9_clip 10 = .ok (.goto 50, 3) := by decide +kernel
theorem dX9_clip_13 : decode cX9_clip 13 = .ok (.iload_n 2, 1) := by decide +kernel
theorem dX9_clip_14 : decode cX9_clip 14 = .ok (.iconst 1, 1) := by decide +kernel
theorem dX9_clip_15 : decode cX9_clip 15 = .ok (.bipush 9, 2) := by decide +kernel
theorem dX9_clip_17 : decode cX9_clip 17 = .ok (.invokestatic 60, 3) := by decide +kernel
theorem dX9_clip_20 : decode cX9_clip 20 = .ok (.ifCond .ne 7, 3) := by decide +kernel
theorem dX9_clip_23 : decode cX9_clip 23 = .ok (.iconst 2, 1) := by decide +kernel
theorem dX9_clip_24 : decode cX9_clip 24 = .ok (.goto 36, 3) := by decide +kernel
theorem dX9_clip_27 : decode cX9_clip 27 = .ok (.aload_n 0, 1) := by decide +kernel
theorem dX9_clip_28 : decode cX9_clip 28 = .ok (.iload_n 1, 1) := by decide +kernel
theorem dX9_clip_29 : decode cX9_clip 29 = .ok (.invokevirtual 109, 3) := by decide +kernel
theorem dX9_clip_32 : decode cX9_clip 32 = .ok (.ifCond .ne 23, 3) := by decide +kernel
theorem dX9_clip_35 : decode cX9_clip 35 = .ok (.aload_n 0, 1) := by decide +kernel
theorem dX9_clip_36 : decode cX9_clip 36 = .ok (.getfield 32, 3) := by decide +kernel
theorem dX9_clip_39 : decode cX9_clip 39 = .ok (.iload_n 1, 1) := by decide +kernel
theorem dX9_clip_40 : decode cX9_clip 40 = .ok (.invokeinterface 64 2, 5) := by decide +kernel
theorem dX9_clip_45 : decode cX9_clip 45 = .ok (.checkcast 94, 3) := by decide +kernel
theorem dX9_clip_48 : decode cX9_clip 48 = .ok (.getfield 103, 3) := by decide +kernel
theorem dX9_clip_51 : decode cX9_clip 51 = .ok (.iload_n 2, 1) := by decide +kernel
theorem dX9_clip_52 : decode cX9_clip 52 = .ok (.if_icmp .gt 7, 3) := by decide +kernel
theorem dX9_clip_55 : decode cX9_clip 55 = .ok (.iconst 3, 1) := by decide +kernel
theorem dX9_clip_56 : decode cX9_clip 56 = .ok (.goto 4, 3) := by decide +kernel
theorem dX9_clip_59 : decode cX9_clip 59 = .ok (.iconst 0, 1) := by decide +kernel
theorem dX9_clip_60 : decode cX9_clip 60 = .ok (.invokevirtual 80, 3) := by decide +kernel
theorem dX9_clip_63 : decode cX9_clip 63 = .ok (.ifCond .eq 5, 3) := by decide +kernel
theorem dX9_clip_66 : decode cX9_clip 66 = .ok (.iconst 0, 1) := by decide +kernel
theorem dX9_clip_67 : decode cX9_clip 67 = .ok (.ireturn, 1) := by decide +kernel
theorem dX9_clip_68 : decode cX9_clip 68 = .ok (.aload_n 0, 1) := by decide +kernel
theorem dX9_clip_69 : decode cX9_clip 69 = .ok (.getfield 32, 3) := by decide +kernel
theorem dX9_clip_72 : decode cX9_clip 72 = .ok (.iload_n 1, 1) := by decide +kernel
theorem dX9_clip_73 : decode cX9_clip 73 = .ok (.invokeinterface 64 2, 5) := by decide +kernel
theorem dX9_clip_78 : decode cX9_clip 78 = .ok (.checkcast 94, 3) := by decide +kernel
theorem dX9_clip_81 : decode cX9_clip 81 = .ok (.astore_n 3, 1) := by decide +kernel
theorem dX9_clip_82 : decode cX9_clip 82 = .ok (.aload_n 3, 1) := by decide +kernel
theorem dX9_clip_83 : decode cX9_clip 83 = .ok (.dup, 1) := by decide +kernel
theorem dX9_clip_84 : decode cX9_clip 84 = .ok (.getfield 103, 3) := by decide +kernel
theorem dX9_clip_87 : decode cX9_clip 87 = .ok (.iload_n 2, 1) := by decide +kernel
theorem dX9_clip_88 : decode cX9_clip 88 = .ok (.isub, 1) := by decide +kernel
theorem dX9_clip_89 : decode cX9_clip 89 = .ok (.putfield 103, 3) := by decide +kernel
theorem dX9_clip_92 : decode cX9_clip 92 = .ok (.aload_n 0, 1) := by decide +kernel
theorem dX9_clip_93 : decode cX9_clip 93 = .ok (.getfield 29, 3) := by decide +kernel
theorem dX9_clip_96 : decode cX9_clip 96 = .ok (.aload_n 3, 1) := by decide +kernel
theorem dX9_clip_97 : decode cX9_clip 97 = .ok (.getfield 112, 3) := by decide +kernel
theorem dX9_clip_100 : decode cX9_clip 100 = .ok (.aaload, 1) := by decide +kernel
theorem dX9_clip_101 : decode cX9_clip 101 = .ok (.aload_n 3, 1) := by decide +kernel
theorem dX9_clip_102 : decode cX9_clip 102 = .ok (.getfield 115, 3) := by decide +kernel
theorem dX9_clip_105 : decode cX9_clip 105 = .ok (.dup2, 1) := by decide +kernel
theorem dX9_clip_106 : decode cX9_clip 106 = .ok (.iaload, 1) := by decide +kernel
theorem dX9_clip_107 : decode cX9_clip 107 = .ok (.iload_n 2, 1) := by decide +kernel
theorem dX9_clip_108 : decode cX9_clip 108 = .ok (.iadd, 1) := by decide +kernel
theorem dX9_clip_109 : decode cX9_clip 109 = .ok (.iastore, 1) := by decide +kernel
theorem dX9_clip_110 : decode cX9_clip 110 = .ok (.aload_n 3, 1) := by decide +kernel
theorem dX9_clip_111 : decode cX9_clip 111 = .ok (.getfield 103, 3) := by decide +kernel
theorem dX9_clip_114 : decode cX9_clip 114 = .ok (.ireturn, 1) := by decide +kernel
theorem dX9_hoard_0 : decode cX9_hoard 0 = .ok (.aload_n 0, 1) := by decide +kernel
theorem dX9_hoard_1 : decode cX9_hoard 1 = .ok (.aload_n 0, 1) := by decide +kernel
theorem dX9_hoard_2 : decode cX9_hoard 2 = .ok (.iload_n 1, 1) := by decide +kernel
theorem dX9_hoard_3 : decode cX9_hoard 3 = .ok (.invokevirtual 106, 3) := by decide +kernel
theorem dX9_hoard_6 : decode cX9_hoard 6 = .ok (.ifCond .ne 7, 3) := by decide +kernel
theorem dX9_hoard_9 : decode cX9_hoard 9 = .ok (.iconst 1, 1) := by decide +kernel
theorem dX9_hoard_10 : decode cX9_hoard 10 = .ok (.goto 16, 3) := by decide +kernel
theorem dX9_hoard_13 : decode cX9_hoard 13 = .ok (.aload_n 0, 1) := by decide +kernel
theorem dX9_hoard_14 : decode cX9_hoard 14 = .ok (.iload_n 1, 1) := by decide +kernel
theorem dX9_hoard_15 : decode cX9_hoard 15 = .ok (.invokevirtual 109, 3) := by decide +kernel
theorem dX9_hoard_18 : decode cX9_hoard 18 = .ok (.ifCond .eq 7, 3) := by decide +kernel
theorem dX9_hoard_21 : decode cX9_hoard 21 = .ok (.iconst 2, 1) := by decide +kernel
theorem dX9_hoard_22 : decode cX9_hoard 22 = .ok (.goto 4, 3) := by decide +kernel
theorem dX9_hoard_25 : decode cX9_hoard 25 = .ok (.iconst 0, 1) := by decide +kernel
theorem dX9_hoard_26 : decode cX9_hoard 26 = .ok (.invokevirtual 80, 3) := by decide +kernel
theorem dX9_hoard_29 : decode cX9_hoard 29 = .ok (.ifCond .eq 5, 3) := by decide +kernel
theorem dX9_hoard_32 : decode cX9_hoard 32 = .ok (.iconst 0, 1) := by decide +kernel
theorem dX9_hoard_33 : decode cX9_hoard 33 = .ok (.ireturn, 1) := by decide +kernel
theorem dX9_hoard_34 : decode cX9_hoard 34 = .ok (.aload_n 0, 1) := by decide +kernel
theorem dX9_hoard_35 : decode cX9_hoard 35 = .ok (.getfield 32, 3) := by decide +kernel
theorem dX9_hoard_38 : decode cX9_hoard 38 = .ok (.iload_n 1, 1) := by decide +kernel
theorem dX9_hoard_39 : decode cX9_hoard 39 = .ok (.invokeinterface 64 2, 5) := by decide +kernel
theorem dX9_hoard_44 : decode cX9_hoard 44 = .ok (.checkcast 94, 3) := by decide +kernel
theorem dX9_hoard_47 : decode cX9_hoard 47 = .ok (.getfield 118, 3) := by decide +kernel
theorem dX9_hoard_50 : decode cX9_hoard 50 = .ok (.istore_n 3, 1) := by decide +kernel
theorem dX9_hoard_51 : decode cX9_hoard 51 = .ok (.aload_n 0, 1) := by decide +kernel
theorem dX9_hoard_52 : decode cX9_hoard 52 = .ok (.getfield 32, 3) := by decide +kernel
theorem dX9_hoard_55 : decode cX9_hoard 55 = .ok (.iload_n 1, 1) := by decide +kernel
theorem dX9_hoard_56 : decode cX9_hoard 56 = .ok (.invokeinterface 64 2, 5) := by decide +kernel
theorem dX9_hoard_61 : decode cX9_hoard 61 = .ok (.checkcast 94, 3) := by decide +kernel
theorem dX9_hoard_64 : decode cX9_hoard 64 = .ok (.iload_n 2, 1) := by decide +kernel
theorem dX9_hoard_65 : decode cX9_hoard 65 = .ok (.putfield 118, 3) := by decide +kernel
theorem dX9_hoard_68 : decode cX9_hoard 68 = .ok (.iload_n 3, 1) := by decide +kernel
theorem dX9_hoard_69 : decode cX9_hoard 69 = .ok (.ireturn, 1) := by decide +kernel
theorem dX9_recoin_0 : decode cX9_recoin 0 = .ok (.aload_n 0, 1) := by decide +kernel
theorem dX9_recoin_1 : decode cX9_recoin 1 = .ok (.aload_n 0, 1) := by decide +kernel
theorem dX9_recoin_2 : decode cX9_recoin 2 = .ok (.iload_n 1, 1) := by decide +kernel
theorem dX9_recoin_3 : decode cX9_recoin 3 = .ok (.invokevirtual 84, 3) := by decide +kernel
theorem dX9_recoin_6 : decode cX9_recoin 6 = .ok (.ifCond .ne 7, 3) := by decide +kernel
theorem dX9_recoin_9 : decode cX9_recoin 9 = .ok (.iconst 1, 1) := by decide +kernel
theorem dX9_recoin_10 : decode cX9_recoin 10 = .ok (.goto 27, 3) := by decide +kernel
theorem dX9_recoin_13 : decode cX9_recoin 13 = .ok (.iload_n 2, 1) := by decide +kernel
theorem dX9_recoin_14 : decode cX9_recoin 14 = .ok (.invokestatic 87, 3) := by decide +kernel
theorem dX9_recoin_17 : decode cX9_recoin 17 = .ok (.ifCond .ne 7, 3) := by decide +kernel
theorem dX9_recoin_20 : decode cX9_recoin 20 = .ok (.iconst 2, 1) := by decide +kernel
theorem dX9_recoin_21 : decode cX9_recoin 21 = .ok (.goto 16, 3) := by decide +kernel
theorem dX9_recoin_24 : decode cX9_recoin 24 = .ok (.aload_n 0, 1) := by decide +kernel
theorem dX9_recoin_25 : decode cX9_recoin 25 = .ok (.iload_n 1, 1) := by decide +kernel
theorem dX9_recoin_26 : decode cX9_recoin 26 = .ok (.invokevirtual 91, 3) := by decide +kernel
theorem dX9_recoin_29 : decode cX9_recoin 29 = .ok (.ifCond .eq 7, 3) := by decide +kernel
theorem dX9_recoin_32 : decode cX9_recoin 32 = .ok (.iconst 3, 1) := by decide +kernel
theorem dX9_recoin_33 : decode cX9_recoin 33 = .ok (.goto 4, 3) := by decide +kernel
theorem dX9_recoin_36 : decode cX9_recoin 36 = .ok (.iconst 0, 1) := by decide +kernel
theorem dX9_recoin_37 : decode cX9_recoin 37 = .ok (.invokevirtual 80, 3) := by decide +kernel
theorem dX9_recoin_40 : decode cX9_recoin 40 = .ok (.ifCond .eq 5, 3) := by decide +kernel
theorem dX9_recoin_43 : decode cX9_recoin 43 = .ok (.iconst 0, 1) := by decide +kernel
theorem dX9_recoin_44 : decode cX9_recoin 44 = .ok (.ireturn, 1) := by decide +kernel
theorem dX9_recoin_45 : decode cX9_recoin 45 = .ok (.ldc 72, 2) := by decide +kernel
theorem dX9_recoin_47 : decode cX9_recoin 47 = .ok (.iload_n 2, 1) := by decide +kernel
theorem dX9_recoin_48 : decode cX9_recoin 48 = .ok (.invokevirtual 74, 3) := by decide +kernel
theorem dX9_recoin_51 : decode cX9_recoin 51 = .ok (.istore_n 3, 1) := by decide +kernel
theorem dX9_recoin_52 : decode cX9_recoin 52 = .ok (.aload_n 0, 1) := by decide +kernel
theorem dX9_recoin_53 : decode cX9_recoin 53 = .ok (.getfield 32, 3) := by decide +kernel
theorem dX9_recoin_56 : decode cX9_recoin 56 = .ok (.invokeinterface 122 1, 5) := by decide +kernel
theorem dX9_recoin_61 : decode cX9_recoin 61 = .ok (.astore 4, 2) := by decide +kernel
theorem dX9_recoin_63 : decode cX9_recoin 63 = .ok (.aload 4, 2) := by decide +kernel
theorem dX9_recoin_65 : decode cX9_recoin 65 = .ok (.invokeinterface 126 1, 5) := by decide +kernel
theorem dX9_recoin_70 : decode cX9_recoin 70 = .ok (.ifCond .eq 75, 3) := by decide +kernel
theorem dX9_recoin_73 : decode cX9_recoin 73 = .ok (.aload 4, 2) := by decide +kernel
theorem dX9_recoin_75 : decode cX9_recoin 75 = .ok (.invokeinterface 132 1, 5) := by decide +kernel
theorem dX9_recoin_80 : decode cX9_recoin 80 = .ok (.checkcast 94, 3) := by decide +kernel
theorem dX9_recoin_83 : decode cX9_recoin 83 = .ok (.astore 5, 2) := by decide +kernel
theorem dX9_recoin_85 : decode cX9_recoin 85 = .ok (.aload 5, 2) := by decide +kernel
theorem dX9_recoin_87 : decode cX9_recoin 87 = .ok (.getfield 112, 3) := by decide +kernel
theorem dX9_recoin_90 : decode cX9_recoin 90 = .ok (.iload_n 1, 1) := by decide +kernel
theorem dX9_recoin_91 : decode cX9_recoin 91 = .ok (.if_icmp .ne (-28), 3) := by decide +kernel
theorem dX9_recoin_94 : decode cX9_recoin 94 = .ok (.aload 5, 2) := by decide +kernel
theorem dX9_recoin_96 : decode cX9_recoin 96 = .ok (.getfield 115, 3) := by decide +kernel
theorem dX9_recoin_99 : decode cX9_recoin 99 = .ok (.iload_n 3, 1) := by decide +kernel
theorem dX9_recoin_100 : decode cX9_recoin 100 = .ok (.if_icmp .ne (-37), 3) := by decide +kernel
theorem dX9_recoin_103 : decode cX9_recoin 103 = .ok (.aload 5, 2) := by decide +kernel
theorem dX9_recoin_105 : decode cX9_recoin 105 = .ok (.getfield 118, 3) := by decide +kernel
theorem dX9_recoin_108 : decode cX9_recoin 108 = .ok (.ifCond .eq 6, 3) := by decide +kernel
theorem dX9_recoin_111 : decode cX9_recoin 111 = .ok (.goto (-48), 3) := by decide +kernel
theorem dX9_recoin_114 : decode cX9_recoin 114 = .ok (.aload_n 0, 1) := by decide +kernel
theorem dX9_recoin_115 : decode cX9_recoin 115 = .ok (.getfield 29, 3) := by decide +kernel
theorem dX9_recoin_118 : decode cX9_recoin 118 = .ok (.iload_n 1, 1) := by decide +kernel
theorem dX9_recoin_119 : decode cX9_recoin 119 = .ok (.aaload, 1) := by decide +kernel
theorem dX9_recoin_120 : decode cX9_recoin 120 = .ok (.iload_n 3, 1) := by decide +kernel
theorem dX9_recoin_121 : decode cX9_recoin 121 = .ok (.dup2, 1) := by decide +kernel
theorem dX9_recoin_122 : decode cX9_recoin 122 = .ok (.iaload, 1) := by decide +kernel
theorem dX9_recoin_123 : decode cX9_recoin 123 = .ok (.aload 5, 2) := by decide +kernel
theorem dX9_recoin_125 : decode cX9_recoin 125 = .ok (.getfield 103, 3) := by decide +kernel
theorem dX9_recoin_128 : decode cX9_recoin 128 = .ok (.iadd, 1) := by decide +kernel
theorem dX9_recoin_129 : decode cX9_recoin 129 = .ok (.iastore, 1) := by decide +kernel
theorem dX9_recoin_130 : decode cX9_recoin 130 = .ok (.aload 5, 2) := by decide +kernel
theorem dX9_recoin_132 : decode cX9_recoin 132 = .ok (.iconst 0, 1) := by decide +kernel
theorem dX9_recoin_133 : decode cX9_recoin 133 = .ok (.putfield 103, 3) := by decide +kernel
theorem dX9_recoin_136 : decode cX9_recoin 136 = .ok (.aload 5, 2) := by decide +kernel
theorem dX9_recoin_138 : decode cX9_recoin 138 = .ok (.iconst (-1), 1) := by decide +kernel
theorem dX9_recoin_139 : decode cX9_recoin 139 = .ok (.putfield 112, 3) := by decide +kernel
theorem dX9_recoin_142 : decode cX9_recoin 142 = .ok (.goto (-79), 3) := by decide +kernel
theorem dX9_recoin_145 : decode cX9_recoin 145 = .ok (.aload_n 0, 1) := by decide +kernel
theorem dX9_recoin_146 : decode cX9_recoin 146 = .ok (.getfield 29, 3) := by decide +kernel
theorem dX9_recoin_149 : decode cX9_recoin 149 = .ok (.iload_n 1, 1) := by decide +kernel
theorem dX9_recoin_150 : decode cX9_recoin 150 = .ok (.aaload, 1) := by decide +kernel
theorem dX9_recoin_151 : decode cX9_recoin 151 = .ok (.iload_n 3, 1) := by decide +kernel
theorem dX9_recoin_152 : decode cX9_recoin 152 = .ok (.iaload, 1) := by decide +kernel
theorem dX9_recoin_153 : decode cX9_recoin 153 = .ok (.aload_n 0, 1) := by decide +kernel
theorem dX9_recoin_154 : decode cX9_recoin 154 = .ok (.getfield 24, 3) := by decide +kernel
theorem dX9_recoin_157 : decode cX9_recoin 157 = .ok (.iload_n 3, 1) := by decide +kernel
theorem dX9_recoin_158 : decode cX9_recoin 158 = .ok (.iaload, 1) := by decide +kernel
theorem dX9_recoin_159 : decode cX9_recoin 159 = .ok (.idiv, 1) := by decide +kernel
theorem dX9_recoin_160 : decode cX9_recoin 160 = .ok (.bipush 90, 2) := by decide +kernel
theorem dX9_recoin_162 : decode cX9_recoin 162 = .ok (.aload_n 0, 1) := by decide +kernel
theorem dX9_recoin_163 : decode cX9_recoin 163 = .ok (.getfield 32, 3) := by decide +kernel
theorem dX9_recoin_166 : decode cX9_recoin 166 = .ok (.invokeinterface 56 1, 5) := by decide +kernel
theorem dX9_recoin_171 : decode cX9_recoin 171 = .ok (.isub, 1) := by decide +kernel
theorem dX9_recoin_172 : decode cX9_recoin 172 = .ok (.invokestatic 136, 3) := by decide +kernel
theorem dX9_recoin_175 : decode cX9_recoin 175 = .ok (.istore 4, 2) := by decide +kernel
theorem dX9_recoin_177 : decode cX9_recoin 177 = .ok (.aload_n 0, 1) := by decide +kernel
theorem dX9_recoin_178 : decode cX9_recoin 178 = .ok (.iload_n 1, 1) := by decide +kernel
theorem dX9_recoin_179 : decode cX9_recoin 179 = .ok (.iload_n 3, 1) := by decide +kernel
theorem dX9_recoin_180 : decode cX9_recoin 180 = .ok (.iload 4, 2) := by decide +kernel
theorem dX9_recoin_182 : decode cX9_recoin 182 = .ok (.invokevirtual 99, 3) := by decide +kernel
theorem dX9_recoin_185 : decode cX9_recoin 185 = .ok (.iload 4, 2) := by decide +kernel
theorem dX9_recoin_187 : decode cX9_recoin 187 = .ok (.ireturn, 1) := by decide +kernel
theorem dX9_lightest_0 : decode cX9_lightest 0 = .ok (.new 13, 3) := by decide +kernel
theorem dX9_lightest_3 : decode cX9_lightest 3 = .ok (.dup, 1) := by decide +kernel
theorem dX9_lightest_4 : decode cX9_lightest 4 = .ok (.invokespecial 15, 3) := by decide +kernel
theorem dX9_lightest_7 : decode cX9_lightest 7 = .ok (.astore 4, 2) := by decide +kernel
theorem dX9_lightest_9 : decode cX9_lightest 9 = .ok (.iconst 1, 1) := by decide +kernel
theorem dX9_lightest_10 : decode cX9_lightest 10 = .ok (.istore 5, 2) := by decide +kernel
theorem dX9_lightest_12 : decode cX9_lightest 12 = .ok (.iload 5, 2) := by decide +kernel
theorem dX9_lightest_14 : decode cX9_lightest 14 = .ok (.bipush 10, 2) := by decide +kernel
theorem dX9_lightest_16 : decode cX9_lightest 16 = .ok (.if_icmp .ge 102, 3) := by decide +kernel
theorem dX9_lightest_19 : decode cX9_lightest 19 = .ok (.aload_n 0, 1) := by decide +kernel
theorem dX9_lightest_20 : decode cX9_lightest 20 = .ok (.getfield 32, 3) := by decide +kernel
theorem dX9_lightest_23 : decode cX9_lightest 23 = .ok (.invokeinterface 122 1, 5) := by decide +kernel
theorem dX9_lightest_28 : decode cX9_lightest 28 = .ok (.astore 6, 2) := by decide +kernel
theorem dX9_lightest_30 : decode cX9_lightest 30 = .ok (.aload 6, 2) := by decide +kernel
theorem dX9_lightest_32 : decode cX9_lightest 32 = .ok (.invokeinterface 126 1, 5) := by decide +kernel
theorem dX9_lightest_37 : decode cX9_lightest 37 = .ok (.ifCond .eq 75, 3) := by decide +kernel
theorem dX9_lightest_40 : decode cX9_lightest 40 = .ok (.aload 6, 2) := by decide +kernel
theorem dX9_lightest_42 : decode cX9_lightest 42 = .ok (.invokeinterface 132 1, 5) := by decide +kernel
theorem dX9_lightest_47 : decode cX9_lightest 47 = .ok (.checkcast 94, 3) := by decide +kernel
theorem dX9_lightest_50 : decode cX9_lightest 50 = .ok (.astore 7, 2) := by decide +kernel
theorem dX9_lightest_52 : decode cX9_lightest 52 = .ok (.aload 7, 2) := by decide +kernel
theorem dX9_lightest_54 : decode cX9_lightest 54 = .ok (.getfield 112, 3) := by decide +kernel
theorem dX9_lightest_57 : decode cX9_lightest 57 = .ok (.iload_n 1, 1) := by decide +kernel
theorem dX9_lightest_58 : decode cX9_lightest 58 = .ok (.if_icmp .ne 51, 3) := by decide +kernel
theorem dX9_lightest_61 : decode cX9_lightest 61 = .ok (.aload 7, 2) := by decide +kernel
theorem dX9_lightest_63 : decode cX9_lightest 63 = .ok (.getfield 115, 3) := by decide +kernel
theorem dX9_lightest_66 : decode cX9_lightest 66 = .ok (.iload_n 2, 1) := by decide +kernel
theorem dX9_lightest_67 : decode cX9_lightest 67 = .ok (.if_icmp .ne 42, 3) := by decide +kernel
theorem dX9_lightest_70 : decode cX9_lightest 70 = .ok (.aload 7, 2) := by decide +kernel
theorem dX9_lightest_72 : decode cX9_lightest 72 = .ok (.getfield 118, 3) := by decide +kernel
theorem dX9_lightest_75 : decode cX9_lightest 75 = .ok (.ifCond .ne 34, 3) := by decide +kernel
theorem dX9_lightest_78 : decode cX9_lightest 78 = .ok (.aload 7, 2) := by decide +kernel
theorem dX9_lightest_80 : decode cX9_lightest 80 = .ok (.getfield 103, 3) := by decide +kernel
theorem dX9_lightest_83 : decode cX9_lightest 83 = .ok (.iload 5, 2) := by decide +kernel
theorem dX9_lightest_85 : decode cX9_lightest 85 = .ok (.if_icmp .ne 24, 3) := by decide +kernel
theorem dX9_lightest_88 : decode cX9_lightest 88 = .ok (.aload 4, 2) := by decide +kernel
theorem dX9_lightest_90 : decode cX9_lightest 90 = .ok (.invokeinterface 56 1, 5) := by decide +kernel
theorem dX9_lightest_95 : decode cX9_lightest 95 = .ok (.iload_n 3, 1) := by decide +kernel
theorem dX9_lightest_96 : decode cX9_lightest 96 = .ok (.if_icmp .ge 13, 3) := by decide +kernel
theorem dX9_lightest_99 : decode cX9_lightest 99 = .ok (.aload 4, 2) := by decide +kernel
theorem dX9_lightest_101 : decode cX9_lightest 101 = .ok (.aload 7, 2) := by decide +kernel
theorem dX9_lightest_103 : decode cX9_lightest 103 = .ok (.invokeinterface 50 2, 5) := by decide +kernel
theorem dX9_lightest_108 : decode cX9_lightest 108 = .ok (.pop, 1) := by decide +kernel
theorem dX9_lightest_109 : decode cX9_lightest 109 = .ok (.goto (-79), 3) := by decide +kernel
theorem dX9_lightest_112 : decode cX9_lightest 112 = .ok (.iinc 5 1, 3) := by decide +kernel
theorem dX9_lightest_115 : decode cX9_lightest 115 = .ok (.goto (-103), 3) := by decide +kernel
theorem dX9_lightest_118 : decode cX9_lightest 118 = .ok (.aload 4, 2) := by decide +kernel
theorem dX9_lightest_120 : decode cX9_lightest 120 = .ok (.invokeinterface 56 1, 5) := by decide +kernel
theorem dX9_lightest_125 : decode cX9_lightest 125 = .ok (.iload_n 3, 1) := by decide +kernel
theorem dX9_lightest_126 : decode cX9_lightest 126 = .ok (.if_icmp .ge 7, 3) := by decide +kernel
theorem dX9_lightest_129 : decode cX9_lightest 129 = .ok (.aconst_null, 1) := by decide +kernel
theorem dX9_lightest_130 : decode cX9_lightest 130 = .ok (.goto 5, 3) := by decide +kernel
theorem dX9_lightest_133 : decode cX9_lightest 133 = .ok (.aload 4, 2) := by decide +kernel
theorem dX9_lightest_135 : decode cX9_lightest 135 = .ok (.areturn, 1) := by decide +kernel
theorem dX9_gives_0 : decode cX9_gives 0 = .ok (.iconst 0, 1) := by decide +kernel
theorem dX9_gives_1 : decode cX9_gives 1 = .ok (.istore_n 2, 1) := by decide +kernel
theorem dX9_gives_2 : decode cX9_gives 2 = .ok (.aload_n 0, 1) := by decide +kernel
theorem dX9_gives_3 : decode cX9_gives 3 = .ok (.invokeinterface 122 1, 5) := by decide +kernel
theorem dX9_gives_8 : decode cX9_gives 8 = .ok (.astore_n 3, 1) := by decide +kernel
theorem dX9_gives_9 : decode cX9_gives 9 = .ok (.aload_n 3, 1) := by decide +kernel
theorem dX9_gives_10 : decode cX9_gives 10 = .ok (.invokeinterface 126 1, 5) := by decide +kernel
theorem dX9_gives_15 : decode cX9_gives 15 = .ok (.ifCond .eq 31, 3) := by decide +kernel
theorem dX9_gives_18 : decode cX9_gives 18 = .ok (.aload_n 3, 1) := by decide +kernel
theorem dX9_gives_19 : decode cX9_gives 19 = .ok (.invokeinterface 132 1, 5) := by decide +kernel
theorem dX9_gives_24 : decode cX9_gives 24 = .ok (.checkcast 94, 3) := by decide +kernel
theorem dX9_gives_27 : decode cX9_gives 27 = .ok (.astore 4, 2) := by decide +kernel
theorem dX9_gives_29 : decode cX9_gives 29 = .ok (.iload_n 2, 1) := by decide +kernel
theorem dX9_gives_30 : decode cX9_gives 30 = .ok (.aload 4, 2) := by decide +kernel
theorem dX9_gives_32 : decode cX9_gives 32 = .ok (.getfield 103, 3) := by decide +kernel
theorem dX9_gives_35 : decode cX9_gives 35 = .ok (.iadd, 1) := by decide +kernel
theorem dX9_gives_36 : decode cX9_gives 36 = .ok (.istore_n 2, 1) := by decide +kernel
theorem dX9_gives_37 : decode cX9_gives 37 = .ok (.aload 4, 2) := by decide +kernel
theorem dX9_gives_39 : decode cX9_gives 39 = .ok (.iload_n 1, 1) := by decide +kernel
theorem dX9_gives_40 : decode cX9_gives 40 = .ok (.invokevirtual 142, 3) := by decide +kernel
theorem dX9_gives_43 : decode cX9_gives 43 = .ok (.goto (-34), 3) := by decide +kernel
theorem dX9_gives_46 : decode cX9_gives 46 = .ok (.iload_n 2, 1) := by decide +kernel
theorem dX9_gives_47 : decode cX9_gives 47 = .ok (.ireturn, 1) := by decide +kernel
theorem dX9_isNoGiving_0 : decode cX9_isNoGiving 0 = .ok (.aload_n 0, 1) := by decide +kernel
theorem dX9_isNoGiving_1 : decode cX9_isNoGiving 1 = .ok (.aload_n 0, 1) := by decide +kernel
theorem dX9_isNoGiving_2 : decode cX9_isNoGiving 2 = .ok (.iload_n 1, 1) := by decide +kernel
theorem dX9_isNoGiving_3 : decode cX9_isNoGiving 3 = .ok (.invokevirtual 84, 3) := by decide +kernel
theorem dX9_isNoGiving_6 : decode cX9_isNoGiving 6 = .ok (.ifCond .eq 15, 3) := by decide +kernel
theorem dX9_isNoGiving_9 : decode cX9_isNoGiving 9 = .ok (.aload_n 0, 1) := by decide +kernel
theorem dX9_isNoGiving_10 : decode cX9_isNoGiving 10 = .ok (.iload_n 2, 1) := by decide +kernel
theorem dX9_isNoGiving_11 : decode cX9_isNoGiving 11 = .ok (.invokevirtual 84, 3) := by decide +kernel
theorem dX9_isNoGiving_14 : decode cX9_isNoGiving 14 = .ok (.ifCond .eq 7, 3) := by decide +kernel
theorem dX9_isNoGiving_17 : decode cX9_isNoGiving 17 = .ok (.iconst 0, 1) := by decide +kernel
theorem dX9_isNoGiving_18 : decode cX9_isNoGiving 18 = .ok (.goto 4, 3) := by decide +kernel
theorem dX9_isNoGiving_21 : decode cX9_isNoGiving 21 = .ok (.iconst 1, 1) := by decide +kernel
theorem dX9_isNoGiving_22 : decode cX9_isNoGiving 22 = .ok (.invokevirtual 80, 3) := by decide +kernel
theorem dX9_isNoGiving_25 : decode cX9_isNoGiving 25 = .ok (.ifCond .eq 5, 3) := by decide +kernel
theorem dX9_isNoGiving_28 : decode cX9_isNoGiving 28 = .ok (.iconst 1, 1) := by decide +kernel
theorem dX9_isNoGiving_29 : decode cX9_isNoGiving 29 = .ok (.ireturn, 1) := by decide +kernel
theorem dX9_isNoGiving_30 : decode cX9_isNoGiving 30 = .ok (.iload 5, 2) := by decide +kernel
theorem dX9_isNoGiving_32 : decode cX9_isNoGiving 32 = .ok (.ifCond .eq 44, 3) := by decide +kernel
theorem dX9_isNoGiving_35 : decode cX9_isNoGiving 35 = .ok (.aload_n 0, 1) := by decide +kernel
theorem dX9_isNoGiving_36 : decode cX9_isNoGiving 36 = .ok (.getfield 16, 3) := by decide +kernel
theorem dX9_isNoGiving_39 : decode cX9_isNoGiving 39 = .ok (.iload_n 2, 1) := by decide +kernel
theorem dX9_isNoGiving_40 : decode cX9_isNoGiving 40 = .ok (.invokeinterface 64 2, 5) := by decide +kernel
theorem dX9_isNoGiving_45 : decode cX9_isNoGiving 45 = .ok (.checkcast 45, 3) := by decide +kernel
theorem dX9_isNoGiving_48 : decode cX9_isNoGiving 48 = .ok (.invokevirtual 68, 3) := by decide +kernel
theorem dX9_isNoGiving_51 : decode cX9_isNoGiving 51 = .ok (.bipush 98, 2) := by decide +kernel
theorem dX9_isNoGiving_53 : decode cX9_isNoGiving 53 = .ok (.if_icmp .eq 23, 3) := by decide +kernel
theorem dX9_isNoGiving_56 : decode cX9_isNoGiving 56 = .ok (.aload_n 0, 1) := by decide +kernel
theorem dX9_isNoGiving_57 : decode cX9_isNoGiving 57 = .ok (.iload_n 2, 1) := by decide +kernel
theorem dX9_isNoGiving_58 : decode cX9_isNoGiving 58 = .ok (.invokevirtual 91, 3) := by decide +kernel
theorem dX9_isNoGiving_61 : decode cX9_isNoGiving 61 = .ok (.ifCond .eq 11, 3) := by decide +kernel
theorem dX9_isNoGiving_64 : decode cX9_isNoGiving 64 = .ok (.aload_n 0, 1) := by decide +kernel
theorem dX9_isNoGiving_65 : decode cX9_isNoGiving 65 = .ok (.iload_n 2, 1) := by decide +kernel
theorem dX9_isNoGiving_66 : decode cX9_isNoGiving 66 = .ok (.invokevirtual 146, 3) := by decide +kernel
theorem dX9_isNoGiving_69 : decode cX9_isNoGiving 69 = .ok (.ifCond .ne 7, 3) := by decide +kernel
theorem dX9_isNoGiving_72 : decode cX9_isNoGiving 72 = .ok (.iconst 1, 1) := by decide +kernel
theorem dX9_isNoGiving_73 : decode cX9_isNoGiving 73 = .ok (.goto 4, 3) := by decide +kernel
theorem dX9_isNoGiving_76 : decode cX9_isNoGiving 76 = .ok (.iconst 0, 1) := by decide +kernel
theorem dX9_isNoGiving_77 : decode cX9_isNoGiving 77 = .ok (.istore 6, 2) := by decide +kernel
theorem dX9_isNoGiving_79 : decode cX9_isNoGiving 79 = .ok (.aload_n 0, 1) := by decide +kernel
theorem dX9_isNoGiving_80 : decode cX9_isNoGiving 80 = .ok (.iload_n 3, 1) := by decide +kernel
theorem dX9_isNoGiving_81 : decode cX9_isNoGiving 81 = .ok (.invokestatic 87, 3) := by decide +kernel
theorem dX9_isNoGiving_84 : decode cX9_isNoGiving 84 = .ok (.ifCond .eq 24, 3) := by decide +kernel
theorem dX9_isNoGiving_87 : decode cX9_isNoGiving 87 = .ok (.iload 4, 2) := by decide +kernel
theorem dX9_isNoGiving_89 : decode cX9_isNoGiving 89 = .ok (.iconst 1, 1) := by decide +kernel
theorem dX9_isNoGiving_90 : decode cX9_isNoGiving 90 = .ok (.bipush 90, 2) := by decide +kernel
theorem dX9_isNoGiving_92 : decode cX9_isNoGiving 92 = .ok (.invokestatic 60, 3) := by decide +kernel
theorem dX9_isNoGiving_95 : decode cX9_isNoGiving 95 = .ok (.ifCond .eq 13, 3) := by decide +kernel
theorem dX9_isNoGiving_98 : decode cX9_isNoGiving 98 = .ok (.iload_n 1, 1) := by decide +kernel
theorem dX9_isNoGiving_99 : decode cX9_isNoGiving 99 = .ok (.iload_n 2, 1) := by decide +kernel
theorem dX9_isNoGiving_100 : decode cX9_isNoGiving 100 = .ok (.if_icmp .eq 8, 3) := by decide +kernel
theorem dX9_isNoGiving_103 : decode cX9_isNoGiving 103 = .ok (.iload 6, 2) := by decide +kernel
theorem dX9_isNoGiving_105 : decode cX9_isNoGiving 105 = .ok (.ifCond .eq 7, 3) := by decide +kernel
theorem dX9_isNoGiving_108 : decode cX9_isNoGiving 108 = .ok (.iconst 2, 1) := by decide +kernel
theorem dX9_isNoGiving_109 : decode cX9_isNoGiving 109 = .ok (.goto 24, 3) := by decide +kernel
theorem dX9_isNoGiving_112 : decode cX9_isNoGiving 112 = .ok (.aload_n 0, 1) := by decide +kernel
theorem dX9_isNoGiving_113 : decode cX9_isNoGiving 113 = .ok (.iload_n 1, 1) := by decide +kernel
theorem dX9_isNoGiving_114 : decode cX9_isNoGiving 114 = .ok (.invokevirtual 91, 3) := by decide +kernel
theorem dX9_isNoGiving_117 : decode cX9_isNoGiving 117 = .ok (.ifCond .ne 11, 3) := by decide +kernel
theorem dX9_isNoGiving_120 : decode cX9_isNoGiving 120 = .ok (.aload_n 0, 1) := by decide +kernel
theorem dX9_isNoGiving_121 : decode cX9_isNoGiving 121 = .ok (.iload_n 2, 1) := by decide +kernel
theorem dX9_isNoGiving_122 : decode cX9_isNoGiving 122 = .ok (.invokevirtual 91, 3) := by decide +kernel
theorem dX9_isNoGiving_125 : decode cX9_isNoGiving 125 = .ok (.ifCond .eq 7, 3) := by decide +kernel
theorem dX9_isNoGiving_128 : decode cX9_isNoGiving 128 = .ok (.iconst 3, 1) := by decide +kernel
theorem dX9_isNoGiving_129 : decode cX9_isNoGiving 129 = .ok (.goto 4, 3) := by decide +kernel
theorem dX9_isNoGiving_132 : decode cX9_isNoGiving 132 = .ok (.iconst 0, 1) := by decide +kernel
theorem dX9_isNoGiving_133 : decode cX9_isNoGiving 133 = .ok (.invokevirtual 80, 3) := by decide +kernel
theorem dX9_isNoGiving_136 : decode cX9_isNoGiving 136 = .ok (.ireturn, 1) := by decide +kernel
theorem dX9_wasBank_0 : decode cX9_wasBank 0 = .ok (.aload_n 0, 1) := by decide +kernel
theorem dX9_wasBank_1 : decode cX9_wasBank 1 = .ok (.iload_n 1, 1) := by decide +kernel
theorem dX9_wasBank_2 : decode cX9_wasBank 2 = .ok (.invokevirtual 91, 3) := by decide +kernel
theorem dX9_wasBank_5 : decode cX9_wasBank 5 = .ok (.ireturn, 1) := by decide +kernel
theorem dX9_pay_0 : decode cX9_pay 0 = .ok (.aload_n 0, 1) := by decide +kernel
theorem dX9_pay_1 : decode cX9_pay 1 = .ok (.iload_n 1, 1) := by decide +kernel
theorem dX9_pay_2 : decode cX9_pay 2 = .ok (.iload_n 2, 1) := by decide +kernel
theorem dX9_pay_3 : decode cX9_pay 3 = .ok (.iload_n 3, 1) := by decide +kernel
theorem dX9_pay_4 : decode cX9_pay 4 = .ok (.iload 4, 2) := by decide +kernel
theorem dX9_pay_6 : decode cX9_pay 6 = .ok (.iconst 0, 1) := by decide +kernel
theorem dX9_pay_7 : decode cX9_pay 7 = .ok (.invokevirtual 149, 3) := by decide +kernel
theorem dX9_pay_10 : decode cX9_pay 10 = .ok (.ifCond .eq 5, 3) := by decide +kernel
theorem dX9_pay_13 : decode cX9_pay 13 = .ok (.iconst 0, 1) := by decide +kernel
theorem dX9_pay_14 : decode cX9_pay 14 = .ok (.ireturn, 1) := by decide +kernel
theorem dX9_pay_15 : decode cX9_pay 15 = .ok (.aload_n 0, 1) := by decide +kernel
theorem dX9_pay_16 : decode cX9_pay 16 = .ok (.iload_n 1, 1) := by decide +kernel
theorem dX9_pay_17 : decode cX9_pay 17 = .ok (.ldc 72, 2) := by decide +kernel
theorem dX9_pay_19 : decode cX9_pay 19 = .ok (.iload_n 3, 1) := by decide +kernel
theorem dX9_pay_20 : decode cX9_pay 20 = .ok (.invokevirtual 74, 3) := by decide +kernel
theorem dX9_pay_23 : decode cX9_pay 23 = .ok (.iload 4, 2) := by decide +kernel
theorem dX9_pay_25 : decode cX9_pay 25 = .ok (.invokevirtual 153, 3) := by decide +kernel
theorem dX9_pay_28 : decode cX9_pay 28 = .ok (.astore 5, 2) := by decide +kernel
theorem dX9_pay_30 : decode cX9_pay 30 = .ok (.aload_n 0, 1) := by decide +kernel
theorem dX9_pay_31 : decode cX9_pay 31 = .ok (.aload 5, 2) := by decide +kernel
theorem dX9_pay_33 : decode cX9_pay 33 = .ok (.ifnonnull 7, 3) := by decide +kernel
theorem dX9_pay_36 : decode cX9_pay 36 = .ok (.iconst 4, 1) := by decide +kernel
theorem dX9_pay_37 : decode cX9_pay 37 = .ok (.goto 4, 3) := by decide +kernel
theorem dX9_pay_40 : decode cX9_pay 40 = .ok (.iconst 0, 1) := by decide +kernel
theorem dX9_pay_41 : decode cX9_pay 41 = .ok (.invokevirtual 80, 3) := by decide +kernel
theorem dX9_pay_44 : decode cX9_pay 44 = .ok (.ifCond .eq 7, 3) := by decide +kernel
theorem dX9_pay_47 : decode cX9_pay 47 = .ok (.iconst 0, 1) := by decide +kernel
theorem dX9_pay_48 : decode cX9_pay 48 = .ok (.goto 9, 3) := by decide +kernel
theorem dX9_pay_51 : decode cX9_pay 51 = .ok (.aload 5, 2) := by decide +kernel
theorem dX9_pay_53 : decode cX9_pay 53 = .ok (.iload_n 2, 1) := by decide +kernel
theorem dX9_pay_54 : decode cX9_pay 54 = .ok (.invokestatic 157, 3) := by decide +kernel
theorem dX9_pay_57 : decode cX9_pay 57 = .ok (.ireturn, 1) := by decide +kernel
theorem dX9_deposit_0 : decode cX9_deposit 0 = .ok (.aload_n 0, 1) := by decide +kernel
theorem dX9_deposit_1 : decode cX9_deposit 1 = .ok (.iload_n 1, 1) := by decide +kernel
theorem dX9_deposit_2 : decode cX9_deposit 2 = .ok (.iload_n 2, 1) := by decide +kernel
theorem dX9_deposit_3 : decode cX9_deposit 3 = .ok (.iload_n 3, 1) := by decide +kernel
theorem dX9_deposit_4 : decode cX9_deposit 4 = .ok (.iload 4, 2) := by decide +kernel
theorem dX9_deposit_6 : decode cX9_deposit 6 = .ok (.iconst 1, 1) := by decide +kernel
theorem dX9_deposit_7 : decode cX9_deposit 7 = .ok (.invokevirtual 149, 3) := by decide +kernel
theorem dX9_deposit_10 : decode cX9_deposit 10 = .ok (.ifCond .eq 5, 3) := by decide +kernel
theorem dX9_deposit_13 : decode cX9_deposit 13 = .ok (.iconst 0, 1) := by decide +kernel
theorem dX9_deposit_14 : decode cX9_deposit 14 = .ok (.ireturn, 1) := by decide +kernel
theorem dX9_deposit_15 : decode cX9_deposit 15 = .ok (.ldc 72, 2) := by decide +kernel
theorem dX9_deposit_17 : decode cX9_deposit 17 = .ok (.iload_n 3, 1) := by decide +kernel
theorem dX9_deposit_18 : decode cX9_deposit 18 = .ok (.invokevirtual 74, 3) := by decide +kernel
theorem dX9_deposit_21 : decode cX9_deposit 21 = .ok (.istore 5, 2) := by decide +kernel
theorem dX9_deposit_23 : decode cX9_deposit 23 = .ok (.aload_n 0, 1) := by decide +kernel
theorem dX9_deposit_24 : decode cX9_deposit 24 = .ok (.iload_n 1, 1) := by decide +kernel
theorem dX9_deposit_25 : decode cX9_deposit 25 = .ok (.iload 5, 2) := by decide +kernel
theorem dX9_deposit_27 : decode cX9_deposit 27 = .ok (.iload 4, 2) := by decide +kernel
theorem dX9_deposit_29 : decode cX9_deposit 29 = .ok (.invokevirtual 153, 3) := by decide +kernel
theorem dX9_deposit_32 : decode cX9_deposit 32 = .ok (.astore 6, 2) := by decide +kernel
theorem dX9_deposit_34 : decode cX9_deposit 34 = .ok (.aload_n 0, 1) := by decide +kernel
theorem dX9_deposit_35 : decode cX9_deposit 35 = .ok (.aload 6, 2) := by decide +kernel
theorem dX9_deposit_37 : decode cX9_deposit 37 = .ok (.ifnonnull 7, 3) := by decide +kernel
theorem dX9_deposit_40 : decode cX9_deposit 40 = .ok (.iconst 4, 1) := by decide +kernel
theorem dX9_deposit_41 : decode cX9_deposit 41 = .ok (.goto 4, 3) := by decide +kernel
theorem dX9_deposit_44 : decode cX9_deposit 44 = .ok (.iconst 0, 1) := by decide +kernel
theorem dX9_deposit_45 : decode cX9_deposit 45 = .ok (.invokevirtual 80, 3) := by decide +kernel
theorem dX9_deposit_48 : decode cX9_deposit 48 = .ok (.ifCond .eq 5, 3) := by decide +kernel
theorem dX9_deposit_51 : decode cX9_deposit 51 = .ok (.iconst 0, 1) := by decide +kernel
theorem dX9_deposit_52 : decode cX9_deposit 52 = .ok (.ireturn, 1) := by decide +kernel
theorem dX9_deposit_53 : decode cX9_deposit 53 = .ok (.aload 6, 2) := by decide +kernel
theorem dX9_deposit_55 : decode cX9_deposit 55 = .ok (.iload_n 2, 1) := by decide +kernel
theorem dX9_deposit_56 : decode cX9_deposit 56 = .ok (.invokestatic 157, 3) := by decide +kernel
theorem dX9_deposit_59 : decode cX9_deposit 59 = .ok (.pop, 1) := by decide +kernel
theorem dX9_deposit_60 : decode cX9_deposit 60 = .ok (.aload_n 0, 1) := by decide +kernel
theorem dX9_deposit_61 : decode cX9_deposit 61 = .ok (.getfield 35, 3) := by decide +kernel
theorem dX9_deposit_64 : decode cX9_deposit 64 = .ok (.iload_n 1, 1) := by decide +kernel
theorem dX9_deposit_65 : decode cX9_deposit 65 = .ok (.aaload, 1) := by decide +kernel
theorem dX9_deposit_66 : decode cX9_deposit 66 = .ok (.iload_n 2, 1) := by decide +kernel
theorem dX9_deposit_67 : decode cX9_deposit 67 = .ok (.dup2, 1) := by decide +kernel
theorem dX9_deposit_68 : decode cX9_deposit 68 = .ok (.iaload, 1) := by decide +kernel
theorem dX9_deposit_69 : decode cX9_deposit 69 = .ok (.iload 4, 2) := by decide +kernel
theorem dX9_deposit_71 : decode cX9_deposit 71 = .ok (.aload_n 0, 1) := by decide +kernel
theorem dX9_deposit_72 : decode cX9_deposit 72 = .ok (.getfield 20, 3) := by decide +kernel
theorem dX9_deposit_75 : decode cX9_deposit 75 = .ok (.iload 5, 2) := by decide +kernel
theorem dX9_deposit_77 : decode cX9_deposit 77 = .ok (.iaload, 1) := by decide +kernel
theorem dX9_deposit_78 : decode cX9_deposit 78 = .ok (.imul, 1) := by decide +kernel
theorem dX9_deposit_79 : decode cX9_deposit 79 = .ok (.iadd, 1) := by decide +kernel
theorem dX9_deposit_80 : decode cX9_deposit 80 = .ok (.iastore, 1) := by decide +kernel
theorem dX9_deposit_81 : decode cX9_deposit 81 = .ok (.aload_n 0, 1) := by decide +kernel
theorem dX9_deposit_82 : decode cX9_deposit 82 = .ok (.getfield 35, 3) := by decide +kernel
theorem dX9_deposit_85 : decode cX9_deposit 85 = .ok (.iload_n 1, 1) := by decide +kernel
theorem dX9_deposit_86 : decode cX9_deposit 86 = .ok (.aaload, 1) := by decide +kernel
theorem dX9_deposit_87 : decode cX9_deposit 87 = .ok (.iload_n 2, 1) := by decide +kernel
theorem dX9_deposit_88 : decode cX9_deposit 88 = .ok (.iaload, 1) := by decide +kernel
theorem dX9_deposit_89 : decode cX9_deposit 89 = .ok (.ireturn, 1) := by decide +kernel
theorem dX9_withdraw_0 : decode cX9_withdraw 0 = .ok (.aload_n 0, 1) := by decide +kernel
theorem dX9_withdraw_1 : decode cX9_withdraw 1 = .ok (.iload_n 1, 1) := by decide +kernel
theorem dX9_withdraw_2 : decode cX9_withdraw 2 = .ok (.iload_n 2, 1) := by decide +kernel
theorem dX9_withdraw_3 : decode cX9_withdraw 3 = .ok (.iload_n 3, 1) := by decide +kernel
theorem dX9_withdraw_4 : decode cX9_withdraw 4 = .ok (.iload 4, 2) := by decide +kernel
theorem dX9_withdraw_6 : decode cX9_withdraw 6 = .ok (.iconst 1, 1) := by decide +kernel
theorem dX9_withdraw_7 : decode cX9_withdraw 7 = .ok (.invokevirtual 149, 3) := by decide +kernel
theorem dX9_withdraw_10 : decode cX9_withdraw 10 = .ok (.ifCond .eq 5, 3) := by decide +kernel
theorem dX9_withdraw_13 : decode cX9_withdraw 13 = .ok (.iconst 0, 1) := by decide +kernel
theorem dX9_withdraw_14 : decode cX9_withdraw 14 = .ok (.ireturn, 1) := by decide +kernel
theorem dX9_withdraw_15 : decode cX9_withdraw 15 = .ok (.ldc 72, 2) := by decide +kernel
theorem dX9_withdraw_17 : decode cX9_withdraw 17 = .ok (.iload_n 3, 1) := by decide +kernel
theorem dX9_withdraw_18 : decode cX9_withdraw 18 = .ok (.invokevirtual 74, 3) := by decide +kernel
theorem dX9_withdraw_21 : decode cX9_withdraw 21 = .ok (.istore 5, 2) := by decide +kernel
theorem dX9_withdraw_23 : decode cX9_withdraw 23 = .ok (.aload_n 0, 1) := by decide +kernel
theorem dX9_withdraw_24 : decode cX9_withdraw 24 = .ok (.aload_n 0, 1) := by decide +kernel
theorem dX9_withdraw_25 : decode cX9_withdraw 25 = .ok (.getfield 35, 3) := by decide +kernel
theorem dX9_withdraw_28 : decode cX9_withdraw 28 = .ok (.iload_n 1, 1) := by decide +kernel
theorem dX9_withdraw_29 : decode cX9_withdraw 29 = .ok (.aaload, 1) := by decide +kernel
theorem dX9_withdraw_30 : decode cX9_withdraw 30 = .ok (.iload_n 2, 1) := by decide +kernel
theorem dX9_withdraw_31 : decode cX9_withdraw 31 = .ok (.iaload, 1) := by decide +kernel
theorem dX9_withdraw_32 : decode cX9_withdraw 32 = .ok (.iload 4, 2) := by decide +kernel
theorem dX9_withdraw_34 : decode cX9_withdraw 34 = .ok (.aload_n 0, 1) := by decide +kernel
theorem dX9_withdraw_35 : decode cX9_withdraw 35 = .ok (.getfield 20, 3) := by decide +kernel
theorem dX9_withdraw_38 : decode cX9_withdraw 38 = .ok (.iload 5, 2) := by decide +kernel
theorem dX9_withdraw_40 : decode cX9_withdraw 40 = .ok (.iaload, 1) := by decide +kernel
theorem dX9_withdraw_41 : decode cX9_withdraw 41 = .ok (.imul, 1) := by decide +kernel
theorem dX9_withdraw_42 : decode cX9_withdraw 42 = .ok (.if_icmp .ge 7, 3) := by decide +kernel
theorem dX9_withdraw_45 : decode cX9_withdraw 45 = .ok (.iconst 4, 1) := by decide +kernel
theorem dX9_withdraw_46 : decode cX9_withdraw 46 = .ok (.goto 4, 3) := by decide +kernel
theorem dX9_withdraw_49 : decode cX9_withdraw 49 = .ok (.iconst 0, 1) := by decide +kernel
theorem dX9_withdraw_50 : decode cX9_withdraw 50 = .ok (.invokevirtual 80, 3) := by decide +kernel
theorem dX9_withdraw_53 : decode cX9_withdraw 53 = .ok (.ifCond .eq 5, 3) := by decide +kernel
theorem dX9_withdraw_56 : decode cX9_withdraw 56 = .ok (.iconst 0, 1) := by decide +kernel
theorem dX9_withdraw_57 : decode cX9_withdraw 57 = .ok (.ireturn, 1) := by decide +kernel
theorem dX9_withdraw_58 : decode cX9_withdraw 58 = .ok (.aload_n 0, 1) := by decide +kernel
theorem dX9_withdraw_59 : decode cX9_withdraw 59 = .ok (.iload_n 2, 1) := by decide +kernel
theorem dX9_withdraw_60 : decode cX9_withdraw 60 = .ok (.iload 5, 2) := by decide +kernel
theorem dX9_withdraw_62 : decode cX9_withdraw 62 = .ok (.iload 4, 2) := by decide +kernel
theorem dX9_withdraw_64 : decode cX9_withdraw 64 = .ok (.invokevirtual 153, 3) := by decide +kernel
theorem dX9_withdraw_67 : decode cX9_withdraw 67 = .ok (.astore 6, 2) := by decide +kernel
theorem dX9_withdraw_69 : decode cX9_withdraw 69 = .ok (.aload 6, 2) := by decide +kernel
theorem dX9_withdraw_71 : decode cX9_withdraw 71 = .ok (.ifnonnull 11, 3) := by decide +kernel
theorem dX9_withdraw_74 : decode cX9_withdraw 74 = .ok (.aload_n 0, 1) := by decide +kernel
theorem dX9_withdraw_75 : decode cX9_withdraw 75 = .ok (.iload_n 2, 1) := by decide +kernel
theorem dX9_withdraw_76 : decode cX9_withdraw 76 = .ok (.invokevirtual 161, 3) := by decide +kernel
theorem dX9_withdraw_79 : decode cX9_withdraw 79 = .ok (.bipush 120, 2) := by decide +kernel
theorem dX9_withdraw_81 : decode cX9_withdraw 81 = .ok (.ireturn, 1) := by decide +kernel
theorem dX9_withdraw_82 : decode cX9_withdraw 82 = .ok (.aload 6, 2) := by decide +kernel
theorem dX9_withdraw_84 : decode cX9_withdraw 84 = .ok (.iload_n 1, 1) := by decide +kernel
theorem dX9_withdraw_85 : decode cX9_withdraw 85 = .ok (.invokestatic 157, 3) := by decide +kernel
theorem dX9_withdraw_88 : decode cX9_withdraw 88 = .ok (.pop, 1) := by decide +kernel
theorem dX9_withdraw_89 : decode cX9_withdraw 89 = .ok (.aload_n 0, 1) := by decide +kernel
theorem dX9_withdraw_90 : decode cX9_withdraw 90 = .ok (.getfield 35, 3) := by decide +kernel
theorem dX9_withdraw_93 : decode cX9_withdraw 93 = .ok (.iload_n 1, 1) := by decide +kernel
theorem dX9_withdraw_94 : decode cX9_withdraw 94 = .ok (.aaload, 1) := by decide +kernel
theorem dX9_withdraw_95 : decode cX9_withdraw 95 = .ok (.iload_n 2, 1) := by decide +kernel
theorem dX9_withdraw_96 : decode cX9_withdraw 96 = .ok (.dup2, 1) := by decide +kernel
theorem dX9_withdraw_97 : decode cX9_withdraw 97 = .ok (.iaload, 1) := by decide +kernel
theorem dX9_withdraw_98 : decode cX9_withdraw 98 = .ok (.iload 4, 2) := by decide +kernel
theorem dX9_withdraw_100 : decode cX9_withdraw 100 = .ok (.aload_n 0, 1) := by decide +kernel
theorem dX9_withdraw_101 : decode cX9_withdraw 101 = .ok (.getfield 20, 3) := by decide +kernel
theorem dX9_withdraw_104 : decode cX9_withdraw 104 = .ok (.iload 5, 2) := by decide +kernel
theorem dX9_withdraw_106 : decode cX9_withdraw 106 = .ok (.iaload, 1) := by decide +kernel
theorem dX9_withdraw_107 : decode cX9_withdraw 107 = .ok (.imul, 1) := by decide +kernel
theorem dX9_withdraw_108 : decode cX9_withdraw 108 = .ok (.isub, 1) := by decide +kernel
theorem dX9_withdraw_109 : decode cX9_withdraw 109 = .ok (.iastore, 1) := by decide +kernel
theorem dX9_withdraw_110 : decode cX9_withdraw 110 = .ok (.bipush 112, 2) := by decide +kernel
theorem dX9_withdraw_112 : decode cX9_withdraw 112 = .ok (.ireturn, 1) := by decide +kernel
theorem dX9_heaviest_0 : decode cX9_heaviest 0 = .ok (.aconst_null, 1) := by decide +kernel
theorem dX9_heaviest_1 : decode cX9_heaviest 1 = .ok (.astore_n 2, 1) := by decide +kernel
theorem dX9_heaviest_2 : decode cX9_heaviest 2 = .ok (.aload_n 0, 1) := by decide +kernel
theorem dX9_heaviest_3 : decode cX9_heaviest 3 = .ok (.getfield 32, 3) := by decide +kernel
theorem dX9_heaviest_6 : decode cX9_heaviest 6 = .ok (.invokeinterface 122 1, 5) := by decide +kernel
theorem dX9_heaviest_11 : decode cX9_heaviest 11 = .ok (.astore_n 3, 1) := by decide +kernel
theorem dX9_heaviest_12 : decode cX9_heaviest 12 = .ok (.aload_n 3, 1) := by decide +kernel
theorem dX9_heaviest_13 : decode cX9_heaviest 13 = .ok (.invokeinterface 126 1, 5) := by decide +kernel
theorem dX9_heaviest_18 : decode cX9_heaviest 18 = .ok (.ifCond .eq 81, 3) := by decide +kernel
theorem dX9_heaviest_21 : decode cX9_heaviest 21 = .ok (.aload_n 3, 1) := by decide +kernel
theorem dX9_heaviest_22 : decode cX9_heaviest 22 = .ok (.invokeinterface 132 1, 5) := by decide +kernel
theorem dX9_heaviest_27 : decode cX9_heaviest 27 = .ok (.checkcast 94, 3) := by decide +kernel
theorem dX9_heaviest_30 : decode cX9_heaviest 30 = .ok (.astore 4, 2) := by decide +kernel
theorem dX9_heaviest_32 : decode cX9_heaviest 32 = .ok (.aload_n 2, 1) := by decide +kernel
theorem dX9_heaviest_33 : decode cX9_heaviest 33 = .ok (.ifnull 39, 3) := by decide +kernel
theorem dX9_heaviest_36 : decode cX9_heaviest 36 = .ok (.aload 4, 2) := by decide +kernel
theorem dX9_heaviest_38 : decode cX9_heaviest 38 = .ok (.getfield 103, 3) := by decide +kernel
theorem dX9_heaviest_41 : decode cX9_heaviest 41 = .ok (.aload_n 2, 1) := by decide +kernel
theorem dX9_heaviest_42 : decode cX9_heaviest 42 = .ok (.getfield 103, 3) := by decide +kernel
theorem dX9_heaviest_45 : decode cX9_heaviest 45 = .ok (.if_icmp .gt 27, 3) := by decide +kernel
theorem dX9_heaviest_48 : decode cX9_heaviest 48 = .ok (.aload 4, 2) := by decide +kernel
theorem dX9_heaviest_50 : decode cX9_heaviest 50 = .ok (.getfield 103, 3) := by decide +kernel
theorem dX9_heaviest_53 : decode cX9_heaviest 53 = .ok (.aload_n 2, 1) := by decide +kernel
theorem dX9_heaviest_54 : decode cX9_heaviest 54 = .ok (.getfield 103, 3) := by decide +kernel
theorem dX9_heaviest_57 : decode cX9_heaviest 57 = .ok (.if_icmp .ne 19, 3) := by decide +kernel
theorem dX9_heaviest_60 : decode cX9_heaviest 60 = .ok (.aload 4, 2) := by decide +kernel
theorem dX9_heaviest_62 : decode cX9_heaviest 62 = .ok (.getfield 115, 3) := by decide +kernel
theorem dX9_heaviest_65 : decode cX9_heaviest 65 = .ok (.aload_n 2, 1) := by decide +kernel
theorem dX9_heaviest_66 : decode cX9_heaviest 66 = .ok (.getfield 115, 3) := by decide +kernel
theorem dX9_heaviest_69 : decode cX9_heaviest 69 = .ok (.if_icmp .ge 7, 3) := by decide +kernel
theorem dX9_heaviest_72 : decode cX9_heaviest 72 = .ok (.iconst 1, 1) := by decide +kernel
theorem dX9_heaviest_73 : decode cX9_heaviest 73 = .ok (.goto 4, 3) := by decide +kernel
theorem dX9_heaviest_76 : decode cX9_heaviest 76 = .ok (.iconst 0, 1) := by decide +kernel
theorem dX9_heaviest_77 : decode cX9_heaviest 77 = .ok (.istore 5, 2) := by decide +kernel
theorem dX9_heaviest_79 : decode cX9_heaviest 79 = .ok (.aload 4, 2) := by decide +kernel
theorem dX9_heaviest_81 : decode cX9_heaviest 81 = .ok (.getfield 112, 3) := by decide +kernel
theorem dX9_heaviest_84 : decode cX9_heaviest 84 = .ok (.iload_n 1, 1) := by decide +kernel
theorem dX9_heaviest_85 : decode cX9_heaviest 85 = .ok (.if_icmp .ne 11, 3) := by decide +kernel
theorem dX9_heaviest_88 : decode cX9_heaviest 88 = .ok (.iload 5, 2) := by decide +kernel
theorem dX9_heaviest_90 : decode cX9_heaviest 90 = .ok (.ifCond .eq 6, 3) := by decide +kernel
theorem dX9_heaviest_93 : decode cX9_heaviest 93 = .ok (.aload 4, 2) := by decide +kernel
theorem dX9_heaviest_95 : decode cX9_heaviest 95 = .ok (.astore_n 2, 1) := by decide +kernel
theorem dX9_heaviest_96 : decode cX9_heaviest 96 = .ok (.goto (-84), 3) := by decide +kernel
theorem dX9_heaviest_99 : decode cX9_heaviest 99 = .ok (.aload_n 2, 1) := by decide +kernel
theorem dX9_heaviest_100 : decode cX9_heaviest 100 = .ok (.areturn, 1) := by decide +kernel
theorem dX9_greatest_0 : decode cX9_greatest 0 = .ok (.iconst (-1), 1) := by decide +kernel
theorem dX9_greatest_1 : decode cX9_greatest 1 = .ok (.istore_n 2, 1) := by decide +kernel
theorem dX9_greatest_2 : decode cX9_greatest 2 = .ok (.iconst 0, 1) := by decide +kernel
theorem dX9_greatest_3 : decode cX9_greatest 3 = .ok (.istore_n 3, 1) := by decide +kernel
theorem dX9_greatest_4 : decode cX9_greatest 4 = .ok (.iload_n 3, 1) := by decide +kernel
theorem dX9_greatest_5 : decode cX9_greatest 5 = .ok (.aload_n 0, 1) := by decide +kernel
theorem dX9_greatest_6 : decode cX9_greatest 6 = .ok (.getfield 16, 3) := by decide +kernel
theorem dX9_greatest_9 : decode cX9_greatest 9 = .ok (.invokeinterface 56 1, 5) := by decide +kernel
theorem dX9_greatest_14 : decode cX9_greatest 14 = .ok (.if_icmp .ge 46, 3) := by decide +kernel
theorem dX9_greatest_17 : decode cX9_greatest 17 = .ok (.aload_n 0, 1) := by decide +kernel
theorem dX9_greatest_18 : decode cX9_greatest 18 = .ok (.getfield 35, 3) := by decide +kernel
theorem dX9_greatest_21 : decode cX9_greatest 21 = .ok (.iload_n 3, 1) := by decide +kernel
theorem dX9_greatest_22 : decode cX9_greatest 22 = .ok (.aaload, 1) := by decide +kernel
theorem dX9_greatest_23 : decode cX9_greatest 23 = .ok (.iload_n 1, 1) := by decide +kernel
theorem dX9_greatest_24 : decode cX9_greatest 24 = .ok (.iaload, 1) := by decide +kernel
theorem dX9_greatest_25 : decode cX9_greatest 25 = .ok (.ifCond .le 29, 3) := by decide +kernel
theorem dX9_greatest_28 : decode cX9_greatest 28 = .ok (.iload_n 2, 1) := by decide +kernel
theorem dX9_greatest_29 : decode cX9_greatest 29 = .ok (.iconst (-1), 1) := by decide +kernel
theorem dX9_greatest_30 : decode cX9_greatest 30 = .ok (.if_icmp .eq 22, 3) := by decide +kernel
theorem dX9_greatest_33 : decode cX9_greatest 33 = .ok (.aload_n 0, 1) := by decide +kernel
theorem dX9_greatest_34 : decode cX9_greatest 34 = .ok (.getfield 35, 3) := by decide +kernel
theorem dX9_greatest_37 : decode cX9_greatest 37 = .ok (.iload_n 3, 1) := by decide +kernel
theorem dX9_greatest_38 : decode cX9_greatest 38 = .ok (.aaload, 1) := by decide +kernel
theorem dX9_greatest_39 : decode cX9_greatest 39 = .ok (.iload_n 1, 1) := by decide +kernel
theorem dX9_greatest_40 : decode cX9_greatest 40 = .ok (.iaload, 1) := by decide +kernel
theorem dX9_greatest_41 : decode cX9_greatest 41 = .ok (.aload_n 0, 1) := by decide +kernel
theorem dX9_greatest_42 : decode cX9_greatest 42 = .ok (.getfield 35, 3) := by decide +kernel
theorem dX9_greatest_45 : decode cX9_greatest 45 = .ok (.iload_n 2, 1) := by decide +kernel
theorem dX9_greatest_46 : decode cX9_greatest 46 = .ok (.aaload, 1) := by decide +kernel
theorem dX9_greatest_47 : decode cX9_greatest 47 = .ok (.iload_n 1, 1) := by decide +kernel
theorem dX9_greatest_48 : decode cX9_greatest 48 = .ok (.iaload, 1) := by decide +kernel
theorem dX9_greatest_49 : decode cX9_greatest 49 = .ok (.if_icmp .le 5, 3) := by decide +kernel
theorem dX9_greatest_52 : decode cX9_greatest 52 = .ok (.iload_n 3, 1) := by decide +kernel
theorem dX9_greatest_53 : decode cX9_greatest 53 = .ok (.istore_n 2, 1) := by decide +kernel
theorem dX9_greatest_54 : decode cX9_greatest 54 = .ok (.iinc 3 1, 3) := by decide +kernel
theorem dX9_greatest_57 : decode cX9_greatest 57 = .ok (.goto (-53), 3) := by decide +kernel
theorem dX9_greatest_60 : decode cX9_greatest 60 = .ok (.iload_n 2, 1) := by decide +kernel
theorem dX9_greatest_61 : decode cX9_greatest 61 = .ok (.ireturn, 1) := by decide +kernel
theorem dX9_fails_0 : decode cX9_fails 0 = .ok (.aload_n 0, 1) := by decide +kernel
theorem dX9_fails_1 : decode cX9_fails 1 = .ok (.getfield 16, 3) := by decide +kernel
theorem dX9_fails_4 : decode cX9_fails 4 = .ok (.iload_n 1, 1) := by decide +kernel
theorem dX9_fails_5 : decode cX9_fails 5 = .ok (.bipush 120, 2) := by decide +kernel
theorem dX9_fails_7 : decode cX9_fails 7 = .ok (.invokestatic 44, 3) := by decide +kernel
theorem dX9_fails_10 : decode cX9_fails 10 = .ok (.invokeinterface 164 3, 5) := by decide +kernel
theorem dX9_fails_15 : decode cX9_fails 15 = .ok (.pop, 1) := by decide +kernel
theorem dX9_fails_16 : decode cX9_fails 16 = .ok (.aload_n 0, 1) := by decide +kernel
theorem dX9_fails_17 : decode cX9_fails 17 = .ok (.iload_n 1, 1) := by decide +kernel
theorem dX9_fails_18 : decode cX9_fails 18 = .ok (.invokevirtual 168, 3) := by decide +kernel
theorem dX9_fails_21 : decode cX9_fails 21 = .ok (.astore_n 2, 1) := by decide +kernel
theorem dX9_fails_22 : decode cX9_fails 22 = .ok (.aload_n 2, 1) := by decide +kernel
theorem dX9_fails_23 : decode cX9_fails 23 = .ok (.ifnull 61, 3) := by decide +kernel
theorem dX9_fails_26 : decode cX9_fails 26 = .ok (.aload_n 0, 1) := by decide +kernel
theorem dX9_fails_27 : decode cX9_fails 27 = .ok (.iload_n 1, 1) := by decide +kernel
theorem dX9_fails_28 : decode cX9_fails 28 = .ok (.invokevirtual 172, 3) := by decide +kernel
theorem dX9_fails_31 : decode cX9_fails 31 = .ok (.istore_n 3, 1) := by decide +kernel
theorem dX9_fails_32 : decode cX9_fails 32 = .ok (.aload_n 2, 1) := by decide +kernel
theorem dX9_fails_33 : decode cX9_fails 33 = .ok (.iconst 0, 1) := by decide +kernel
theorem dX9_fails_34 : decode cX9_fails 34 = .ok (.iload_n 3, 1) := by decide +kernel
theorem dX9_fails_35 : decode cX9_fails 35 = .ok (.invokestatic 175, 3) := by decide +kernel
theorem dX9_fails_38 : decode cX9_fails 38 = .ok (.invokevirtual 142, 3) := by decide +kernel
theorem dX9_fails_41 : decode cX9_fails 41 = .ok (.iload_n 3, 1) := by decide +kernel
theorem dX9_fails_42 : decode cX9_fails 42 = .ok (.ifCond .lt 33, 3) := by decide +kernel
theorem dX9_fails_45 : decode cX9_fails 45 = .ok (.aload_n 0, 1) := by decide +kernel
theorem dX9_fails_46 : decode cX9_fails 46 = .ok (.getfield 35, 3) := by decide +kernel
theorem dX9_fails_49 : decode cX9_fails 49 = .ok (.iload_n 3, 1) := by decide +kernel
theorem dX9_fails_50 : decode cX9_fails 50 = .ok (.aaload, 1) := by decide +kernel
theorem dX9_fails_51 : decode cX9_fails 51 = .ok (.iload_n 1, 1) := by decide +kernel
theorem dX9_fails_52 : decode cX9_fails 52 = .ok (.iconst 0, 1) := by decide +kernel
theorem dX9_fails_53 : decode cX9_fails 53 = .ok (.aload_n 0, 1) := by decide +kernel
theorem dX9_fails_54 : decode cX9_fails 54 = .ok (.getfield 35, 3) := by decide +kernel
theorem dX9_fails_57 : decode cX9_fails 57 = .ok (.iload_n 3, 1) := by decide +kernel
theorem dX9_fails_58 : decode cX9_fails 58 = .ok (.aaload, 1) := by decide +kernel
theorem dX9_fails_59 : decode cX9_fails 59 = .ok (.iload_n 1, 1) := by decide +kernel
theorem dX9_fails_60 : decode cX9_fails 60 = .ok (.iaload, 1) := by decide +kernel
theorem dX9_fails_61 : decode cX9_fails 61 = .ok (.aload_n 0, 1) := by decide +kernel
theorem dX9_fails_62 : decode cX9_fails 62 = .ok (.getfield 20, 3) := by decide +kernel
theorem dX9_fails_65 : decode cX9_fails 65 = .ok (.aload_n 2, 1) := by decide +kernel
theorem dX9_fails_66 : decode cX9_fails 66 = .ok (.getfield 115, 3) := by decide +kernel
theorem dX9_fails_69 : decode cX9_fails 69 = .ok (.iaload, 1) := by decide +kernel
theorem dX9_fails_70 : decode cX9_fails 70 = .ok (.isub, 1) := by decide +kernel
theorem dX9_fails_71 : decode cX9_fails 71 = .ok (.invokestatic 175, 3) := by decide +kernel
theorem dX9_fails_74 : decode cX9_fails 74 = .ok (.iastore, 1) := by decide +kernel
theorem dX9_fails_75 : decode cX9_fails 75 = .ok (.aload_n 0, 1) := by decide +kernel
theorem dX9_fails_76 : decode cX9_fails 76 = .ok (.iload_n 1, 1) := by decide +kernel
theorem dX9_fails_77 : decode cX9_fails 77 = .ok (.invokevirtual 168, 3) := by decide +kernel
theorem dX9_fails_80 : decode cX9_fails 80 = .ok (.astore_n 2, 1) := by decide +kernel
theorem dX9_fails_81 : decode cX9_fails 81 = .ok (.goto (-59), 3) := by decide +kernel
theorem dX9_fails_84 : decode cX9_fails 84 = .ok (.iconst 0, 1) := by decide +kernel
theorem dX9_fails_85 : decode cX9_fails 85 = .ok (.istore_n 2, 1) := by decide +kernel
theorem dX9_fails_86 : decode cX9_fails 86 = .ok (.iload_n 2, 1) := by decide +kernel
theorem dX9_fails_87 : decode cX9_fails 87 = .ok (.aload_n 0, 1) := by decide +kernel
theorem dX9_fails_88 : decode cX9_fails 88 = .ok (.getfield 16, 3) := by decide +kernel
theorem dX9_fails_91 : decode cX9_fails 91 = .ok (.invokeinterface 56 1, 5) := by decide +kernel
theorem dX9_fails_96 : decode cX9_fails 96 = .ok (.if_icmp .ge 36, 3) := by decide +kernel
theorem dX9_fails_99 : decode cX9_fails 99 = .ok (.aload_n 0, 1) := by decide +kernel
theorem dX9_fails_100 : decode cX9_fails 100 = .ok (.dup, 1) := by decide +kernel
theorem dX9_fails_101 : decode cX9_fails 101 = .ok (.getfield 178, 3) := by decide +kernel
theorem dX9_fails_104 : decode cX9_fails 104 = .ok (.aload_n 0, 1) := by decide +kernel
theorem dX9_fails_105 : decode cX9_fails 105 = .ok (.getfield 35, 3) := by decide +kernel
theorem dX9_fails_108 : decode cX9_fails 108 = .ok (.iload_n 2, 1) := by decide +kernel
theorem dX9_fails_109 : decode cX9_fails 109 = .ok (.aaload, 1) := by decide +kernel
theorem dX9_fails_110 : decode cX9_fails 110 = .ok (.iload_n 1, 1) := by decide +kernel
theorem dX9_fails_111 : decode cX9_fails 111 = .ok (.iaload, 1) := by decide +kernel
theorem dX9_fails_112 : decode cX9_fails 112 = .ok (.i2l, 1) := by decide +kernel
theorem dX9_fails_113 : decode cX9_fails 113 = .ok (.ladd, 1) := by decide +kernel
theorem dX9_fails_114 : decode cX9_fails 114 = .ok (.putfield 178, 3) := by decide +kernel
theorem dX9_fails_117 : decode cX9_fails 117 = .ok (.aload_n 0, 1) := by decide +kernel
theorem dX9_fails_118 : decode cX9_fails 118 = .ok (.getfield 35, 3) := by decide +kernel
theorem dX9_fails_121 : decode cX9_fails 121 = .ok (.iload_n 2, 1) := by decide +kernel
theorem dX9_fails_122 : decode cX9_fails 122 = .ok (.aaload, 1) := by decide +kernel
theorem dX9_fails_123 : decode cX9_fails 123 = .ok (.iload_n 1, 1) := by decide +kernel
theorem dX9_fails_124 : decode cX9_fails 124 = .ok (.iconst 0, 1) := by decide +kernel
theorem dX9_fails_125 : decode cX9_fails 125 = .ok (.iastore, 1) := by decide +kernel
theorem dX9_fails_126 : decode cX9_fails 126 = .ok (.iinc 2 1, 3) := by decide +kernel
theorem dX9_fails_129 : decode cX9_fails 129 = .ok (.goto (-43), 3) := by decide +kernel
theorem dX9_fails_132 : decode cX9_fails 132 = .ok (.iconst 0, 1) := by decide +kernel
theorem dX9_fails_133 : decode cX9_fails 133 = .ok (.istore_n 2, 1) := by decide +kernel
theorem dX9_fails_134 : decode cX9_fails 134 = .ok (.iload_n 2, 1) := by decide +kernel
theorem dX9_fails_135 : decode cX9_fails 135 = .ok (.aload_n 0, 1) := by decide +kernel
theorem dX9_fails_136 : decode cX9_fails 136 = .ok (.getfield 16, 3) := by decide +kernel
theorem dX9_fails_139 : decode cX9_fails 139 = .ok (.invokeinterface 56 1, 5) := by decide +kernel
theorem dX9_fails_144 : decode cX9_fails 144 = .ok (.if_icmp .ge 45, 3) := by decide +kernel
theorem dX9_fails_147 : decode cX9_fails 147 = .ok (.aload_n 0, 1) := by decide +kernel
theorem dX9_fails_148 : decode cX9_fails 148 = .ok (.getfield 35, 3) := by decide +kernel
theorem dX9_fails_151 : decode cX9_fails 151 = .ok (.iconst 0, 1) := by decide +kernel
theorem dX9_fails_152 : decode cX9_fails 152 = .ok (.aaload, 1) := by decide +kernel
theorem dX9_fails_153 : decode cX9_fails 153 = .ok (.iload_n 2, 1) := by decide +kernel
theorem dX9_fails_154 : decode cX9_fails 154 = .ok (.dup2, 1) := by decide +kernel
theorem dX9_fails_155 : decode cX9_fails 155 = .ok (.iaload, 1) := by decide +kernel
theorem dX9_fails_156 : decode cX9_fails 156 = .ok (.iload_n 2, 1) := by decide +kernel
theorem dX9_fails_157 : decode cX9_fails 157 = .ok (.ifCond .ne 7, 3) := by decide +kernel
theorem dX9_fails_160 : decode cX9_fails 160 = .ok (.iconst 0, 1) := by decide +kernel
theorem dX9_fails_161 : decode cX9_fails 161 = .ok (.goto 11, 3) := by decide +kernel
theorem dX9_fails_164 : decode cX9_fails 164 = .ok (.aload_n 0, 1) := by decide +kernel
theorem dX9_fails_165 : decode cX9_fails 165 = .ok (.getfield 35, 3) := by decide +kernel
theorem dX9_fails_168 : decode cX9_fails 168 = .ok (.iload_n 1, 1) := by decide +kernel
theorem dX9_fails_169 : decode cX9_fails 169 = .ok (.aaload, 1) := by decide +kernel
theorem dX9_fails_170 : decode cX9_fails 170 = .ok (.iload_n 2, 1) := by decide +kernel
theorem dX9_fails_171 : decode cX9_fails 171 = .ok (.iaload, 1) := by decide +kernel
theorem dX9_fails_172 : decode cX9_fails 172 = .ok (.iadd, 1) := by decide +kernel
theorem dX9_fails_173 : decode cX9_fails 173 = .ok (.iastore, 1) := by decide +kernel
theorem dX9_fails_174 : decode cX9_fails 174 = .ok (.aload_n 0, 1) := by decide +kernel
theorem dX9_fails_175 : decode cX9_fails 175 = .ok (.getfield 35, 3) := by decide +kernel
theorem dX9_fails_178 : decode cX9_fails 178 = .ok (.iload_n 1, 1) := by decide +kernel
theorem dX9_fails_179 : decode cX9_fails 179 = .ok (.aaload, 1) := by decide +kernel
theorem dX9_fails_180 : decode cX9_fails 180 = .ok (.iload_n 2, 1) := by decide +kernel
theorem dX9_fails_181 : decode cX9_fails 181 = .ok (.iconst 0, 1) := by decide +kernel
theorem dX9_fails_182 : decode cX9_fails 182 = .ok (.iastore, 1) := by decide +kernel
theorem dX9_fails_183 : decode cX9_fails 183 = .ok (.iinc 2 1, 3) := by decide +kernel
theorem dX9_fails_186 : decode cX9_fails 186 = .ok (.goto (-52), 3) := by decide +kernel
theorem dX9_fails_189 : decode cX9_fails 189 = .ok (.iconst 0, 1) := by decide +kernel
theorem dX9_fails_190 : decode cX9_fails 190 = .ok (.istore_n 2, 1) := by decide +kernel
theorem dX9_fails_191 : decode cX9_fails 191 = .ok (.iload_n 2, 1) := by decide +kernel
theorem dX9_fails_192 : decode cX9_fails 192 = .ok (.iconst 2, 1) := by decide +kernel
theorem dX9_fails_193 : decode cX9_fails 193 = .ok (.if_icmp .ge 37, 3) := by decide +kernel
theorem dX9_fails_196 : decode cX9_fails 196 = .ok (.aload_n 0, 1) := by decide +kernel
theorem dX9_fails_197 : decode cX9_fails 197 = .ok (.getfield 29, 3) := by decide +kernel
theorem dX9_fails_200 : decode cX9_fails 200 = .ok (.iconst 0, 1) := by decide +kernel
theorem dX9_fails_201 : decode cX9_fails 201 = .ok (.aaload, 1) := by decide +kernel
theorem dX9_fails_202 : decode cX9_fails 202 = .ok (.iload_n 2, 1) := by decide +kernel
theorem dX9_fails_203 : decode cX9_fails 203 = .ok (.dup2, 1) := by decide +kernel
theorem dX9_fails_204 : decode cX9_fails 204 = .ok (.iaload, 1) := by decide +kernel
theorem dX9_fails_205 : decode cX9_fails 205 = .ok (.aload_n 0, 1) := by decide +kernel
theorem dX9_fails_206 : decode cX9_fails 206 = .ok (.getfield 29, 3) := by decide +kernel
theorem dX9_fails_209 : decode cX9_fails 209 = .ok (.iload_n 1, 1) := by decide +kernel
theorem dX9_fails_210 : decode cX9_fails 210 = .ok (.aaload, 1) := by decide +kernel
theorem dX9_fails_211 : decode cX9_fails 211 = .ok (.iload_n 2, 1) := by decide +kernel
theorem dX9_fails_212 : decode cX9_fails 212 = .ok (.iaload, 1) := by decide +kernel
theorem dX9_fails_213 : decode cX9_fails 213 = .ok (.iadd, 1) := by decide +kernel
theorem dX9_fails_214 : decode cX9_fails 214 = .ok (.iastore, 1) := by decide +kernel
theorem dX9_fails_215 : decode cX9_fails 215 = .ok (.aload_n 0, 1) := by decide +kernel
theorem dX9_fails_216 : decode cX9_fails 216 = .ok (.getfield 29, 3) := by decide +kernel
theorem dX9_fails_219 : decode cX9_fails 219 = .ok (.iload_n 1, 1) := by decide +kernel
theorem dX9_fails_220 : decode cX9_fails 220 = .ok (.aaload, 1) := by decide +kernel
theorem dX9_fails_221 : decode cX9_fails 221 = .ok (.iload_n 2, 1) := by decide +kernel
theorem dX9_fails_222 : decode cX9_fails 222 = .ok (.iconst 0, 1) := by decide +kernel
theorem dX9_fails_223 : decode cX9_fails 223 = .ok (.iastore, 1) := by decide +kernel
theorem dX9_fails_224 : decode cX9_fails 224 = .ok (.iinc 2 1, 3) := by decide +kernel
theorem dX9_fails_227 : decode cX9_fails 227 = .ok (.goto (-36), 3) := by decide +kernel
theorem dX9_fails_230 : decode cX9_fails 230 = .ok (.return_, 1) := by decide +kernel
theorem dX9_lend_0 : decode cX9_lend 0 = .ok (.aload_n 0, 1) := by decide +kernel
theorem dX9_lend_1 : decode cX9_lend 1 = .ok (.aload_n 0, 1) := by decide +kernel
theorem dX9_lend_2 : decode cX9_lend 2 = .ok (.iload_n 1, 1) := by decide +kernel
theorem dX9_lend_3 : decode cX9_lend 3 = .ok (.invokevirtual 84, 3) := by decide +kernel
theorem dX9_lend_6 : decode cX9_lend 6 = .ok (.ifCond .eq 15, 3) := by decide +kernel
theorem dX9_lend_9 : decode cX9_lend 9 = .ok (.aload_n 0, 1) := by decide +kernel
theorem dX9_lend_10 : decode cX9_lend 10 = .ok (.iload_n 2, 1) := by decide +kernel
theorem dX9_lend_11 : decode cX9_lend 11 = .ok (.invokevirtual 84, 3) := by decide +kernel
theorem dX9_lend_14 : decode cX9_lend 14 = .ok (.ifCond .eq 7, 3) := by decide +kernel
theorem dX9_lend_17 : decode cX9_lend 17 = .ok (.iconst 0, 1) := by decide +kernel
theorem dX9_lend_18 : decode cX9_lend 18 = .ok (.goto 4, 3) := by decide +kernel
theorem dX9_lend_21 : decode cX9_lend 21 = .ok (.iconst 1, 1) := by decide +kernel
theorem dX9_lend_22 : decode cX9_lend 22 = .ok (.invokevirtual 80, 3) := by decide +kernel
theorem dX9_lend_25 : decode cX9_lend 25 = .ok (.ifCond .eq 5, 3) := by decide +kernel
theorem dX9_lend_28 : decode cX9_lend 28 = .ok (.iconst 0, 1) := by decide +kernel
theorem dX9_lend_29 : decode cX9_lend 29 = .ok (.ireturn, 1) := by decide +kernel
theorem dX9_lend_30 : decode cX9_lend 30 = .ok (.aload_n 0, 1) := by decide +kernel
theorem dX9_lend_31 : decode cX9_lend 31 = .ok (.getfield 16, 3) := by decide +kernel
theorem dX9_lend_34 : decode cX9_lend 34 = .ok (.iload_n 1, 1) := by decide +kernel
theorem dX9_lend_35 : decode cX9_lend 35 = .ok (.invokeinterface 64 2, 5) := by decide +kernel
theorem dX9_lend_40 : decode cX9_lend 40 = .ok (.checkcast 45, 3) := by decide +kernel
theorem dX9_lend_43 : decode cX9_lend 43 = .ok (.invokevirtual 68, 3) := by decide +kernel
theorem dX9_lend_46 : decode cX9_lend 46 = .ok (.bipush 98, 2) := by decide +kernel
theorem dX9_lend_48 : decode cX9_lend 48 = .ok (.if_icmp .eq 11, 3) := by decide +kernel
theorem dX9_lend_51 : decode cX9_lend 51 = .ok (.aload_n 0, 1) := by decide +kernel
theorem dX9_lend_52 : decode cX9_lend 52 = .ok (.iload_n 1, 1) := by decide +kernel
theorem dX9_lend_53 : decode cX9_lend 53 = .ok (.invokevirtual 146, 3) := by decide +kernel
theorem dX9_lend_56 : decode cX9_lend 56 = .ok (.ifCond .eq 7, 3) := by decide +kernel
theorem dX9_lend_59 : decode cX9_lend 59 = .ok (.iconst 1, 1) := by decide +kernel
theorem dX9_lend_60 : decode cX9_lend 60 = .ok (.goto 4, 3) := by decide +kernel
theorem dX9_lend_63 : decode cX9_lend 63 = .ok (.iconst 0, 1) := by decide +kernel
theorem dX9_lend_64 : decode cX9_lend 64 = .ok (.istore 4, 2) := by decide +kernel
theorem dX9_lend_66 : decode cX9_lend 66 = .ok (.aload_n 0, 1) := by decide +kernel
theorem dX9_lend_67 : decode cX9_lend 67 = .ok (.iload_n 3, 1) := by decide +kernel
theorem dX9_lend_68 : decode cX9_lend 68 = .ok (.iconst 1, 1) := by decide +kernel
theorem dX9_lend_69 : decode cX9_lend 69 = .ok (.sipush 9999, 3) := by decide +kernel
theorem dX9_lend_72 : decode cX9_lend 72 = .ok (.invokestatic 60, 3) := by decide +kernel
theorem dX9_lend_75 : decode cX9_lend 75 = .ok (.ifCond .eq 13, 3) := by decide +kernel
theorem dX9_lend_78 : decode cX9_lend 78 = .ok (.iload_n 1, 1) := by decide +kernel
theorem dX9_lend_79 : decode cX9_lend 79 = .ok (.iload_n 2, 1) := by decide +kernel
theorem dX9_lend_80 : decode cX9_lend 80 = .ok (.if_icmp .eq 8, 3) := by decide +kernel
theorem dX9_lend_83 : decode cX9_lend 83 = .ok (.iload 4, 2) := by decide +kernel
theorem dX9_lend_85 : decode cX9_lend 85 = .ok (.ifCond .ne 7, 3) := by decide +kernel
theorem dX9_lend_88 : decode cX9_lend 88 = .ok (.iconst 2, 1) := by decide +kernel
theorem dX9_lend_89 : decode cX9_lend 89 = .ok (.goto 24, 3) := by decide +kernel
theorem dX9_lend_92 : decode cX9_lend 92 = .ok (.aload_n 0, 1) := by decide +kernel
theorem dX9_lend_93 : decode cX9_lend 93 = .ok (.iload_n 1, 1) := by decide +kernel
theorem dX9_lend_94 : decode cX9_lend 94 = .ok (.invokevirtual 91, 3) := by decide +kernel
theorem dX9_lend_97 : decode cX9_lend 97 = .ok (.ifCond .ne 11, 3) := by decide +kernel
theorem dX9_lend_100 : decode cX9_lend 100 = .ok (.aload_n 0, 1) := by decide +kernel
theorem dX9_lend_101 : decode cX9_lend 101 = .ok (.iload_n 2, 1) := by decide +kernel
theorem dX9_lend_102 : decode cX9_lend 102 = .ok (.invokevirtual 91, 3) := by decide +kernel
theorem dX9_lend_105 : decode cX9_lend 105 = .ok (.ifCond .eq 7, 3) := by decide +kernel
theorem dX9_lend_108 : decode cX9_lend 108 = .ok (.iconst 3, 1) := by decide +kernel
theorem dX9_lend_109 : decode cX9_lend 109 = .ok (.goto 4, 3) := by decide +kernel
theorem dX9_lend_112 : decode cX9_lend 112 = .ok (.iconst 0, 1) := by decide +kernel
theorem dX9_lend_113 : decode cX9_lend 113 = .ok (.invokevirtual 80, 3) := by decide +kernel
theorem dX9_lend_116 : decode cX9_lend 116 = .ok (.ifCond .eq 5, 3) := by decide +kernel
theorem dX9_lend_119 : decode cX9_lend 119 = .ok (.iconst 0, 1) := by decide +kernel
theorem dX9_lend_120 : decode cX9_lend 120 = .ok (.ireturn, 1) := by decide +kernel
theorem dX9_lend_121 : decode cX9_lend 121 = .ok (.aload_n 0, 1) := by decide +kernel
theorem dX9_lend_122 : decode cX9_lend 122 = .ok (.getfield 35, 3) := by decide +kernel
theorem dX9_lend_125 : decode cX9_lend 125 = .ok (.iload_n 2, 1) := by decide +kernel
theorem dX9_lend_126 : decode cX9_lend 126 = .ok (.aaload, 1) := by decide +kernel
theorem dX9_lend_127 : decode cX9_lend 127 = .ok (.iload_n 1, 1) := by decide +kernel
theorem dX9_lend_128 : decode cX9_lend 128 = .ok (.dup2, 1) := by decide +kernel
theorem dX9_lend_129 : decode cX9_lend 129 = .ok (.iaload, 1) := by decide +kernel
theorem dX9_lend_130 : decode cX9_lend 130 = .ok (.iload_n 3, 1) := by decide +kernel
theorem dX9_lend_131 : decode cX9_lend 131 = .ok (.iadd, 1) := by decide +kernel
theorem dX9_lend_132 : decode cX9_lend 132 = .ok (.iastore, 1) := by decide +kernel
theorem dX9_lend_133 : decode cX9_lend 133 = .ok (.aload_n 0, 1) := by decide +kernel
theorem dX9_lend_134 : decode cX9_lend 134 = .ok (.getfield 35, 3) := by decide +kernel
theorem dX9_lend_137 : decode cX9_lend 137 = .ok (.iload_n 1, 1) := by decide +kernel
theorem dX9_lend_138 : decode cX9_lend 138 = .ok (.aaload, 1) := by decide +kernel
theorem dX9_lend_139 : decode cX9_lend 139 = .ok (.iload_n 2, 1) := by decide +kernel
theorem dX9_lend_140 : decode cX9_lend 140 = .ok (.dup2, 1) := by decide +kernel
theorem dX9_lend_141 : decode cX9_lend 141 = .ok (.iaload, 1) := by decide +kernel
theorem dX9_lend_142 : decode cX9_lend 142 = .ok (.iload_n 3, 1) := by decide +kernel
theorem dX9_lend_143 : decode cX9_lend 143 = .ok (.iadd, 1) := by decide +kernel
theorem dX9_lend_144 : decode cX9_lend 144 = .ok (.iastore, 1) := by decide +kernel
theorem dX9_lend_145 : decode cX9_lend 145 = .ok (.aload_n 0, 1) := by decide +kernel
theorem dX9_lend_146 : decode cX9_lend 146 = .ok (.getfield 35, 3) := by decide +kernel
theorem dX9_lend_149 : decode cX9_lend 149 = .ok (.iload_n 2, 1) := by decide +kernel
theorem dX9_lend_150 : decode cX9_lend 150 = .ok (.aaload, 1) := by decide +kernel
theorem dX9_lend_151 : decode cX9_lend 151 = .ok (.iload_n 1, 1) := by decide +kernel
theorem dX9_lend_152 : decode cX9_lend 152 = .ok (.iaload, 1) := by decide +kernel
theorem dX9_lend_153 : decode cX9_lend 153 = .ok (.ireturn, 1) := by decide +kernel
theorem dX9_hand_0 : decode cX9_hand 0 = .ok (.aload_n 0, 1) := by decide +kernel
theorem dX9_hand_1 : decode cX9_hand 1 = .ok (.aload_n 0, 1) := by decide +kernel
theorem dX9_hand_2 : decode cX9_hand 2 = .ok (.iload_n 1, 1) := by decide +kernel
theorem dX9_hand_3 : decode cX9_hand 3 = .ok (.invokevirtual 84, 3) := by decide +kernel
theorem dX9_hand_6 : decode cX9_hand 6 = .ok (.ifCond .eq 23, 3) := by decide +kernel
theorem dX9_hand_9 : decode cX9_hand 9 = .ok (.aload_n 0, 1) := by decide +kernel
theorem dX9_hand_10 : decode cX9_hand 10 = .ok (.iload_n 2, 1) := by decide +kernel
theorem dX9_hand_11 : decode cX9_hand 11 = .ok (.invokevirtual 84, 3) := by decide +kernel
theorem dX9_hand_14 : decode cX9_hand 14 = .ok (.ifCond .eq 15, 3) := by decide +kernel
theorem dX9_hand_17 : decode cX9_hand 17 = .ok (.aload_n 0, 1) := by decide +kernel
theorem dX9_hand_18 : decode cX9_hand 18 = .ok (.iload_n 3, 1) := by decide +kernel
theorem dX9_hand_19 : decode cX9_hand 19 = .ok (.invokevirtual 84, 3) := by decide +kernel
theorem dX9_hand_22 : decode cX9_hand 22 = .ok (.ifCond .eq 7, 3) := by decide +kernel
theorem dX9_hand_25 : decode cX9_hand 25 = .ok (.iconst 0, 1) := by decide +kernel
theorem dX9_hand_26 : decode cX9_hand 26 = .ok (.goto 4, 3) := by decide +kernel
theorem dX9_hand_29 : decode cX9_hand 29 = .ok (.iconst 1, 1) := by decide +kernel
theorem dX9_hand_30 : decode cX9_hand 30 = .ok (.invokevirtual 80, 3) := by decide +kernel
theorem dX9_hand_33 : decode cX9_hand 33 = .ok (.ifCond .eq 5, 3) := by decide +kernel
theorem dX9_hand_36 : decode cX9_hand 36 = .ok (.iconst 0, 1) := by decide +kernel
theorem dX9_hand_37 : decode cX9_hand 37 = .ok (.ireturn, 1) := by decide +kernel
theorem dX9_hand_38 : decode cX9_hand 38 = .ok (.aload_n 0, 1) := by decide +kernel
theorem dX9_hand_39 : decode cX9_hand 39 = .ok (.getfield 16, 3) := by decide +kernel
theorem dX9_hand_42 : decode cX9_hand 42 = .ok (.iload_n 3, 1) := by decide +kernel
theorem dX9_hand_43 : decode cX9_hand 43 = .ok (.invokeinterface 64 2, 5) := by decide +kernel
theorem dX9_hand_48 : decode cX9_hand 48 = .ok (.checkcast 45, 3) := by decide +kernel
theorem dX9_hand_51 : decode cX9_hand 51 = .ok (.invokevirtual 68, 3) := by decide +kernel
theorem dX9_hand_54 : decode cX9_hand 54 = .ok (.bipush 98, 2) := by decide +kernel
theorem dX9_hand_56 : decode cX9_hand 56 = .ok (.if_icmp .eq 11, 3) := by decide +kernel
theorem dX9_hand_59 : decode cX9_hand 59 = .ok (.aload_n 0, 1) := by decide +kernel
theorem dX9_hand_60 : decode cX9_hand 60 = .ok (.iload_n 3, 1) := by decide +kernel
theorem dX9_hand_61 : decode cX9_hand 61 = .ok (.invokevirtual 146, 3) := by decide +kernel
theorem dX9_hand_64 : decode cX9_hand 64 = .ok (.ifCond .eq 7, 3) := by decide +kernel
theorem dX9_hand_67 : decode cX9_hand 67 = .ok (.iconst 1, 1) := by decide +kernel
theorem dX9_hand_68 : decode cX9_hand 68 = .ok (.goto 4, 3) := by decide +kernel
theorem dX9_hand_71 : decode cX9_hand 71 = .ok (.iconst 0, 1) := by decide +kernel
theorem dX9_hand_72 : decode cX9_hand 72 = .ok (.istore 5, 2) := by decide +kernel
theorem dX9_hand_74 : decode cX9_hand 74 = .ok (.aload_n 0, 1) := by decide +kernel
theorem dX9_hand_75 : decode cX9_hand 75 = .ok (.iload_n 1, 1) := by decide +kernel
theorem dX9_hand_76 : decode cX9_hand 76 = .ok (.invokevirtual 91, 3) := by decide +kernel
theorem dX9_hand_79 : decode cX9_hand 79 = .ok (.ifCond .ne 19, 3) := by decide +kernel
theorem dX9_hand_82 : decode cX9_hand 82 = .ok (.aload_n 0, 1) := by decide +kernel
theorem dX9_hand_83 : decode cX9_hand 83 = .ok (.iload_n 2, 1) := by decide +kernel
theorem dX9_hand_84 : decode cX9_hand 84 = .ok (.invokevirtual 91, 3) := by decide +kernel
theorem dX9_hand_87 : decode cX9_hand 87 = .ok (.ifCond .ne 11, 3) := by decide +kernel
theorem dX9_hand_90 : decode cX9_hand 90 = .ok (.aload_n 0, 1) := by decide +kernel
theorem dX9_hand_91 : decode cX9_hand 91 = .ok (.iload_n 3, 1) := by decide +kernel
theorem dX9_hand_92 : decode cX9_hand 92 = .ok (.invokevirtual 91, 3) := by decide +kernel
theorem dX9_hand_95 : decode cX9_hand 95 = .ok (.ifCond .eq 7, 3) := by decide +kernel
theorem dX9_hand_98 : decode cX9_hand 98 = .ok (.iconst 1, 1) := by decide +kernel
theorem dX9_hand_99 : decode cX9_hand 99 = .ok (.goto 4, 3) := by decide +kernel
theorem dX9_hand_102 : decode cX9_hand 102 = .ok (.iconst 0, 1) := by decide +kernel
theorem dX9_hand_103 : decode cX9_hand 103 = .ok (.istore 6, 2) := by decide +kernel
theorem dX9_hand_105 : decode cX9_hand 105 = .ok (.aload_n 0, 1) := by decide +kernel
theorem dX9_hand_106 : decode cX9_hand 106 = .ok (.iload 4, 2) := by decide +kernel
theorem dX9_hand_108 : decode cX9_hand 108 = .ok (.iconst 1, 1) := by decide +kernel
theorem dX9_hand_109 : decode cX9_hand 109 = .ok (.sipush 9999, 3) := by decide +kernel
theorem dX9_hand_112 : decode cX9_hand 112 = .ok (.invokestatic 60, 3) := by decide +kernel
theorem dX9_hand_115 : decode cX9_hand 115 = .ok (.ifCond .eq 23, 3) := by decide +kernel
theorem dX9_hand_118 : decode cX9_hand 118 = .ok (.iload_n 1, 1) := by decide +kernel
theorem dX9_hand_119 : decode cX9_hand 119 = .ok (.iload_n 2, 1) := by decide +kernel
theorem dX9_hand_120 : decode cX9_hand 120 = .ok (.if_icmp .eq 18, 3) := by decide +kernel
theorem dX9_hand_123 : decode cX9_hand 123 = .ok (.iload_n 1, 1) := by decide +kernel
theorem dX9_hand_124 : decode cX9_hand 124 = .ok (.iload_n 3, 1) := by decide +kernel
theorem dX9_hand_125 : decode cX9_hand 125 = .ok (.if_icmp .eq 13, 3) := by decide +kernel
theorem dX9_hand_128 : decode cX9_hand 128 = .ok (.iload_n 2, 1) := by decide +kernel
theorem dX9_hand_129 : decode cX9_hand 129 = .ok (.iload_n 3, 1) := by decide +kernel
theorem dX9_hand_130 : decode cX9_hand 130 = .ok (.if_icmp .eq 8, 3) := by decide +kernel
theorem dX9_hand_133 : decode cX9_hand 133 = .ok (.iload 5, 2) := by decide +kernel
theorem dX9_hand_135 : decode cX9_hand 135 = .ok (.ifCond .ne 7, 3) := by decide +kernel
theorem dX9_hand_138 : decode cX9_hand 138 = .ok (.iconst 2, 1) := by decide +kernel
theorem dX9_hand_139 : decode cX9_hand 139 = .ok (.goto 30, 3) := by decide +kernel
theorem dX9_hand_142 : decode cX9_hand 142 = .ok (.iload 6, 2) := by decide +kernel
theorem dX9_hand_144 : decode cX9_hand 144 = .ok (.ifCond .eq 7, 3) := by decide +kernel
theorem dX9_hand_147 : decode cX9_hand 147 = .ok (.iconst 3, 1) := by decide +kernel
theorem dX9_hand_148 : decode cX9_hand 148 = .ok (.goto 21, 3) := by decide +kernel
theorem dX9_hand_151 : decode cX9_hand 151 = .ok (.aload_n 0, 1) := by decide +kernel
theorem dX9_hand_152 : decode cX9_hand 152 = .ok (.getfield 35, 3) := by decide +kernel
theorem dX9_hand_155 : decode cX9_hand 155 = .ok (.iload_n 1, 1) := by decide +kernel
theorem dX9_hand_156 : decode cX9_hand 156 = .ok (.aaload, 1) := by decide +kernel
theorem dX9_hand_157 : decode cX9_hand 157 = .ok (.iload_n 3, 1) := by decide +kernel
theorem dX9_hand_158 : decode cX9_hand 158 = .ok (.iaload, 1) := by decide +kernel
theorem dX9_hand_159 : decode cX9_hand 159 = .ok (.iload 4, 2) := by decide +kernel
theorem dX9_hand_161 : decode cX9_hand 161 = .ok (.if_icmp .ge 7, 3) := by decide +kernel
theorem dX9_hand_164 : decode cX9_hand 164 = .ok (.iconst 4, 1) := by decide +kernel
theorem dX9_hand_165 : decode cX9_hand 165 = .ok (.goto 4, 3) := by decide +kernel
theorem dX9_hand_168 : decode cX9_hand 168 = .ok (.iconst 0, 1) := by decide +kernel
theorem dX9_hand_169 : decode cX9_hand 169 = .ok (.invokevirtual 80, 3) := by decide +kernel
theorem dX9_hand_172 : decode cX9_hand 172 = .ok (.ifCond .eq 5, 3) := by decide +kernel
theorem dX9_hand_175 : decode cX9_hand 175 = .ok (.iconst 0, 1) := by decide +kernel
theorem dX9_hand_176 : decode cX9_hand 176 = .ok (.ireturn, 1) := by decide +kernel
theorem dX9_hand_177 : decode cX9_hand 177 = .ok (.aload_n 0, 1) := by decide +kernel
theorem dX9_hand_178 : decode cX9_hand 178 = .ok (.getfield 35, 3) := by decide +kernel
theorem dX9_hand_181 : decode cX9_hand 181 = .ok (.iload_n 1, 1) := by decide +kernel
theorem dX9_hand_182 : decode cX9_hand 182 = .ok (.aaload, 1) := by decide +kernel
theorem dX9_hand_183 : decode cX9_hand 183 = .ok (.iload_n 3, 1) := by decide +kernel
theorem dX9_hand_184 : decode cX9_hand 184 = .ok (.dup2, 1) := by decide +kernel
theorem dX9_hand_185 : decode cX9_hand 185 = .ok (.iaload, 1) := by decide +kernel
theorem dX9_hand_186 : decode cX9_hand 186 = .ok (.iload 4, 2) := by decide +kernel
theorem dX9_hand_188 : decode cX9_hand 188 = .ok (.isub, 1) := by decide +kernel
theorem dX9_hand_189 : decode cX9_hand 189 = .ok (.iastore, 1) := by decide +kernel
theorem dX9_hand_190 : decode cX9_hand 190 = .ok (.aload_n 0, 1) := by decide +kernel
theorem dX9_hand_191 : decode cX9_hand 191 = .ok (.getfield 35, 3) := by decide +kernel
theorem dX9_hand_194 : decode cX9_hand 194 = .ok (.iload_n 2, 1) := by decide +kernel
theorem dX9_hand_195 : decode cX9_hand 195 = .ok (.aaload, 1) := by decide +kernel
theorem dX9_hand_196 : decode cX9_hand 196 = .ok (.iload_n 3, 1) := by decide +kernel
theorem dX9_hand_197 : decode cX9_hand 197 = .ok (.dup2, 1) := by decide +kernel
theorem dX9_hand_198 : decode cX9_hand 198 = .ok (.iaload, 1) := by decide +kernel
theorem dX9_hand_199 : decode cX9_hand 199 = .ok (.iload 4, 2) := by decide +kernel
theorem dX9_hand_201 : decode cX9_hand 201 = .ok (.iadd, 1) := by decide +kernel
theorem dX9_hand_202 : decode cX9_hand 202 = .ok (.iastore, 1) := by decide +kernel
theorem dX9_hand_203 : decode cX9_hand 203 = .ok (.aload_n 0, 1) := by decide +kernel
theorem dX9_hand_204 : decode cX9_hand 204 = .ok (.getfield 35, 3) := by decide +kernel
theorem dX9_hand_207 : decode cX9_hand 207 = .ok (.iload_n 1, 1) := by decide +kernel
theorem dX9_hand_208 : decode cX9_hand 208 = .ok (.aaload, 1) := by decide +kernel
theorem dX9_hand_209 : decode cX9_hand 209 = .ok (.iload_n 3, 1) := by decide +kernel
theorem dX9_hand_210 : decode cX9_hand 210 = .ok (.iaload, 1) := by decide +kernel
theorem dX9_hand_211 : decode cX9_hand 211 = .ok (.ireturn, 1) := by decide +kernel
theorem dX9_forgive_0 : decode cX9_forgive 0 = .ok (.aload_n 0, 1) := by decide +kernel
theorem dX9_forgive_1 : decode cX9_forgive 1 = .ok (.aload_n 0, 1) := by decide +kernel
theorem dX9_forgive_2 : decode cX9_forgive 2 = .ok (.iload_n 1, 1) := by decide +kernel
theorem dX9_forgive_3 : decode cX9_forgive 3 = .ok (.invokevirtual 84, 3) := by decide +kernel
theorem dX9_forgive_6 : decode cX9_forgive 6 = .ok (.ifCond .eq 11, 3) := by decide +kernel
theorem dX9_forgive_9 : decode cX9_forgive 9 = .ok (.aload_n 0, 1) := by decide +kernel
theorem dX9_forgive_10 : decode cX9_forgive 10 = .ok (.iload_n 2, 1) := by decide +kernel
theorem dX9_forgive_11 : decode cX9_forgive 11 = .ok (.invokevirtual 84, 3) := by decide +kernel
theorem dX9_forgive_14 : decode cX9_forgive 14 = .ok (.ifCond .ne 7, 3) := by decide +kernel
theorem dX9_forgive_17 : decode cX9_forgive 17 = .ok (.iconst 1, 1) := by decide +kernel
theorem dX9_forgive_18 : decode cX9_forgive 18 = .ok (.goto 35, 3) := by decide +kernel
theorem dX9_forgive_21 : decode cX9_forgive 21 = .ok (.iload_n 3, 1) := by decide +kernel
theorem dX9_forgive_22 : decode cX9_forgive 22 = .ok (.iconst 1, 1) := by decide +kernel
theorem dX9_forgive_23 : decode cX9_forgive 23 = .ok (.sipush 9999, 3) := by decide +kernel
theorem dX9_forgive_26 : decode cX9_forgive 26 = .ok (.invokestatic 60, 3) := by decide +kernel
theorem dX9_forgive_29 : decode cX9_forgive 29 = .ok (.ifCond .ne 7, 3) := by decide +kernel
theorem dX9_forgive_32 : decode cX9_forgive 32 = .ok (.iconst 2, 1) := by decide +kernel
theorem dX9_forgive_33 : decode cX9_forgive 33 = .ok (.goto 20, 3) := by decide +kernel
theorem dX9_forgive_36 : decode cX9_forgive 36 = .ok (.aload_n 0, 1) := by decide +kernel
theorem dX9_forgive_37 : decode cX9_forgive 37 = .ok (.getfield 35, 3) := by decide +kernel
theorem dX9_forgive_40 : decode cX9_forgive 40 = .ok (.iload_n 1, 1) := by decide +kernel
theorem dX9_forgive_41 : decode cX9_forgive 41 = .ok (.aaload, 1) := by decide +kernel
theorem dX9_forgive_42 : decode cX9_forgive 42 = .ok (.iload_n 2, 1) := by decide +kernel
theorem dX9_forgive_43 : decode cX9_forgive 43 = .ok (.iaload, 1) := by decide +kernel
theorem dX9_forgive_44 : decode cX9_forgive 44 = .ok (.iload_n 3, 1) := by decide +kernel
theorem dX9_forgive_45 : decode cX9_forgive 45 = .ok (.if_icmp .ge 7, 3) := by decide +kernel
theorem dX9_forgive_48 : decode cX9_forgive 48 = .ok (.iconst 3, 1) := by decide +kernel
theorem dX9_forgive_49 : decode cX9_forgive 49 = .ok (.goto 4, 3) := by decide +kernel
theorem dX9_forgive_52 : decode cX9_forgive 52 = .ok (.iconst 0, 1) := by decide +kernel
theorem dX9_forgive_53 : decode cX9_forgive 53 = .ok (.invokevirtual 80, 3) := by decide +kernel
theorem dX9_forgive_56 : decode cX9_forgive 56 = .ok (.ifCond .eq 5, 3) := by decide +kernel
theorem dX9_forgive_59 : decode cX9_forgive 59 = .ok (.iconst 0, 1) := by decide +kernel
theorem dX9_forgive_60 : decode cX9_forgive 60 = .ok (.ireturn, 1) := by decide +kernel
theorem dX9_forgive_61 : decode cX9_forgive 61 = .ok (.aload_n 0, 1) := by decide +kernel
theorem dX9_forgive_62 : decode cX9_forgive 62 = .ok (.getfield 35, 3) := by decide +kernel
theorem dX9_forgive_65 : decode cX9_forgive 65 = .ok (.iload_n 1, 1) := by decide +kernel
theorem dX9_forgive_66 : decode cX9_forgive 66 = .ok (.aaload, 1) := by decide +kernel
theorem dX9_forgive_67 : decode cX9_forgive 67 = .ok (.iload_n 2, 1) := by decide +kernel
theorem dX9_forgive_68 : decode cX9_forgive 68 = .ok (.dup2, 1) := by decide +kernel
theorem dX9_forgive_69 : decode cX9_forgive 69 = .ok (.iaload, 1) := by decide +kernel
theorem dX9_forgive_70 : decode cX9_forgive 70 = .ok (.iload_n 3, 1) := by decide +kernel
theorem dX9_forgive_71 : decode cX9_forgive 71 = .ok (.isub, 1) := by decide +kernel
theorem dX9_forgive_72 : decode cX9_forgive 72 = .ok (.iastore, 1) := by decide +kernel
theorem dX9_forgive_73 : decode cX9_forgive 73 = .ok (.aload_n 0, 1) := by decide +kernel
theorem dX9_forgive_74 : decode cX9_forgive 74 = .ok (.getfield 35, 3) := by decide +kernel
theorem dX9_forgive_77 : decode cX9_forgive 77 = .ok (.iload_n 1, 1) := by decide +kernel
theorem dX9_forgive_78 : decode cX9_forgive 78 = .ok (.aaload, 1) := by decide +kernel
theorem dX9_forgive_79 : decode cX9_forgive 79 = .ok (.iload_n 2, 1) := by decide +kernel
theorem dX9_forgive_80 : decode cX9_forgive 80 = .ok (.iaload, 1) := by decide +kernel
theorem dX9_forgive_81 : decode cX9_forgive 81 = .ok (.ireturn, 1) := by decide +kernel
theorem dX9_claim_0 : decode cX9_claim 0 = .ok (.aload_n 0, 1) := by decide +kernel
theorem dX9_claim_1 : decode cX9_claim 1 = .ok (.aload_n 0, 1) := by decide +kernel
theorem dX9_claim_2 : decode cX9_claim 2 = .ok (.iload_n 1, 1) := by decide +kernel
theorem dX9_claim_3 : decode cX9_claim 3 = .ok (.invokevirtual 84, 3) := by decide +kernel
theorem dX9_claim_6 : decode cX9_claim 6 = .ok (.ifCond .eq 15, 3) := by decide +kernel
theorem dX9_claim_9 : decode cX9_claim 9 = .ok (.aload_n 0, 1) := by decide +kernel
theorem dX9_claim_10 : decode cX9_claim 10 = .ok (.iload_n 2, 1) := by decide +kernel
theorem dX9_claim_11 : decode cX9_claim 11 = .ok (.invokevirtual 84, 3) := by decide +kernel
theorem dX9_claim_14 : decode cX9_claim 14 = .ok (.ifCond .eq 7, 3) := by decide +kernel
theorem dX9_claim_17 : decode cX9_claim 17 = .ok (.iconst 0, 1) := by decide +kernel
theorem dX9_claim_18 : decode cX9_claim 18 = .ok (.goto 4, 3) := by decide +kernel
theorem dX9_claim_21 : decode cX9_claim 21 = .ok (.iconst 1, 1) := by decide +kernel
theorem dX9_claim_22 : decode cX9_claim 22 = .ok (.invokevirtual 80, 3) := by decide +kernel
theorem dX9_claim_25 : decode cX9_claim 25 = .ok (.ifCond .eq 7, 3) := by decide +kernel
theorem dX9_claim_28 : decode cX9_claim 28 = .ok (.iconst 0, 1) := by decide +kernel
theorem dX9_claim_29 : decode cX9_claim 29 = .ok (.goto 11, 3) := by decide +kernel
theorem dX9_claim_32 : decode cX9_claim 32 = .ok (.aload_n 0, 1) := by decide +kernel
theorem dX9_claim_33 : decode cX9_claim 33 = .ok (.getfield 35, 3) := by decide +kernel
theorem dX9_claim_36 : decode cX9_claim 36 = .ok (.iload_n 1, 1) := by decide +kernel
theorem dX9_claim_37 : decode cX9_claim 37 = .ok (.aaload, 1) := by decide +kernel
theorem dX9_claim_38 : decode cX9_claim 38 = .ok (.iload_n 2, 1) := by decide +kernel
theorem dX9_claim_39 : decode cX9_claim 39 = .ok (.iaload, 1) := by decide +kernel
theorem dX9_claim_40 : decode cX9_claim 40 = .ok (.ireturn, 1) := by decide +kernel
theorem dX9_draw_0 : decode cX9_draw 0 = .ok (.aload_n 0, 1) := by decide +kernel
theorem dX9_draw_1 : decode cX9_draw 1 = .ok (.aload_n 0, 1) := by decide +kernel
theorem dX9_draw_2 : decode cX9_draw 2 = .ok (.iload_n 1, 1) := by decide +kernel
theorem dX9_draw_3 : decode cX9_draw 3 = .ok (.invokevirtual 84, 3) := by decide +kernel
theorem dX9_draw_6 : decode cX9_draw 6 = .ok (.ifCond .eq 15, 3) := by decide +kernel
theorem dX9_draw_9 : decode cX9_draw 9 = .ok (.aload_n 0, 1) := by decide +kernel
theorem dX9_draw_10 : decode cX9_draw 10 = .ok (.iload_n 2, 1) := by decide +kernel
theorem dX9_draw_11 : decode cX9_draw 11 = .ok (.invokevirtual 84, 3) := by decide +kernel
theorem dX9_draw_14 : decode cX9_draw 14 = .ok (.ifCond .eq 7, 3) := by decide +kernel
theorem dX9_draw_17 : decode cX9_draw 17 = .ok (.iconst 0, 1) := by decide +kernel
theorem dX9_draw_18 : decode cX9_draw 18 = .ok (.goto 4, 3) := by decide +kernel
theorem dX9_draw_21 : decode cX9_draw 21 = .ok (.iconst 1, 1) := by decide +kernel
theorem dX9_draw_22 : decode cX9_draw 22 = .ok (.invokevirtual 80, 3) := by decide +kernel
theorem dX9_draw_25 : decode cX9_draw 25 = .ok (.ifCond .eq 5, 3) := by decide +kernel
theorem dX9_draw_28 : decode cX9_draw 28 = .ok (.iconst 0, 1) := by decide +kernel
theorem dX9_draw_29 : decode cX9_draw 29 = .ok (.ireturn, 1) := by decide +kernel
theorem dX9_draw_30 : decode cX9_draw 30 = .ok (.aload_n 0, 1) := by decide +kernel
theorem dX9_draw_31 : decode cX9_draw 31 = .ok (.iload_n 3, 1) := by decide +kernel
theorem dX9_draw_32 : decode cX9_draw 32 = .ok (.iconst 1, 1) := by decide +kernel
theorem dX9_draw_33 : decode cX9_draw 33 = .ok (.sipush 9999, 3) := by decide +kernel
theorem dX9_draw_36 : decode cX9_draw 36 = .ok (.invokestatic 60, 3) := by decide +kernel
theorem dX9_draw_39 : decode cX9_draw 39 = .ok (.ifCond .eq 19, 3) := by decide +kernel
theorem dX9_draw_42 : decode cX9_draw 42 = .ok (.iload 4, 2) := by decide +kernel
theorem dX9_draw_44 : decode cX9_draw 44 = .ok (.iconst 1, 1) := by decide +kernel
theorem dX9_draw_45 : decode cX9_draw 45 = .ok (.bipush 9, 2) := by decide +kernel
theorem dX9_draw_47 : decode cX9_draw 47 = .ok (.invokestatic 60, 3) := by decide +kernel
theorem dX9_draw_50 : decode cX9_draw 50 = .ok (.ifCond .eq 8, 3) := by decide +kernel
theorem dX9_draw_53 : decode cX9_draw 53 = .ok (.iload_n 1, 1) := by decide +kernel
theorem dX9_draw_54 : decode cX9_draw 54 = .ok (.iload_n 2, 1) := by decide +kernel
theorem dX9_draw_55 : decode cX9_draw 55 = .ok (.if_icmp .ne 7, 3) := by decide +kernel
theorem dX9_draw_58 : decode cX9_draw 58 = .ok (.iconst 2, 1) := by decide +kernel
theorem dX9_draw_59 : decode cX9_draw 59 = .ok (.goto 42, 3) := by decide +kernel
theorem dX9_draw_62 : decode cX9_draw 62 = .ok (.aload_n 0, 1) := by decide +kernel
theorem dX9_draw_63 : decode cX9_draw 63 = .ok (.iload_n 1, 1) := by decide +kernel
theorem dX9_draw_64 : decode cX9_draw 64 = .ok (.invokevirtual 91, 3) := by decide +kernel
theorem dX9_draw_67 : decode cX9_draw 67 = .ok (.ifCond .ne 11, 3) := by decide +kernel
theorem dX9_draw_70 : decode cX9_draw 70 = .ok (.aload_n 0, 1) := by decide +kernel
theorem dX9_draw_71 : decode cX9_draw 71 = .ok (.iload_n 2, 1) := by decide +kernel
theorem dX9_draw_72 : decode cX9_draw 72 = .ok (.invokevirtual 91, 3) := by decide +kernel
theorem dX9_draw_75 : decode cX9_draw 75 = .ok (.ifCond .eq 7, 3) := by decide +kernel
theorem dX9_draw_78 : decode cX9_draw 78 = .ok (.iconst 3, 1) := by decide +kernel
theorem dX9_draw_79 : decode cX9_draw 79 = .ok (.goto 22, 3) := by decide +kernel
theorem dX9_draw_82 : decode cX9_draw 82 = .ok (.aload_n 0, 1) := by decide +kernel
theorem dX9_draw_83 : decode cX9_draw 83 = .ok (.getfield 38, 3) := by decide +kernel
theorem dX9_draw_86 : decode cX9_draw 86 = .ok (.invokeinterface 56 1, 5) := by decide +kernel
theorem dX9_draw_91 : decode cX9_draw 91 = .ok (.bipush 12, 2) := by decide +kernel
theorem dX9_draw_93 : decode cX9_draw 93 = .ok (.if_icmp .ne 7, 3) := by decide +kernel
theorem dX9_draw_96 : decode cX9_draw 96 = .ok (.iconst 4, 1) := by decide +kernel
theorem dX9_draw_97 : decode cX9_draw 97 = .ok (.goto 4, 3) := by decide +kernel
theorem dX9_draw_100 : decode cX9_draw 100 = .ok (.iconst 0, 1) := by decide +kernel
theorem dX9_draw_101 : decode cX9_draw 101 = .ok (.invokevirtual 80, 3) := by decide +kernel
theorem dX9_draw_104 : decode cX9_draw 104 = .ok (.ifCond .eq 5, 3) := by decide +kernel
theorem dX9_draw_107 : decode cX9_draw 107 = .ok (.iconst 0, 1) := by decide +kernel
theorem dX9_draw_108 : decode cX9_draw 108 = .ok (.ireturn, 1) := by decide +kernel
theorem dX9_draw_109 : decode cX9_draw 109 = .ok (.aload_n 0, 1) := by decide +kernel
theorem dX9_draw_110 : decode cX9_draw 110 = .ok (.getfield 38, 3) := by decide +kernel
theorem dX9_draw_113 : decode cX9_draw 113 = .ok (.new 182, 3) := by decide +kernel
theorem dX9_draw_116 : decode cX9_draw 116 = .ok (.dup, 1) := by decide +kernel
theorem dX9_draw_117 : decode cX9_draw 117 = .ok (.iload_n 1, 1) := by decide +kernel
theorem dX9_draw_118 : decode cX9_draw 118 = .ok (.iload_n 2, 1) := by decide +kernel
theorem dX9_draw_119 : decode cX9_draw 119 = .ok (.iload_n 3, 1) := by decide +kernel
theorem dX9_draw_120 : decode cX9_draw 120 = .ok (.aload_n 0, 1) := by decide +kernel
theorem dX9_draw_121 : decode cX9_draw 121 = .ok (.getfield 184, 3) := by decide +kernel
theorem dX9_draw_124 : decode cX9_draw 124 = .ok (.iload 4, 2) := by decide +kernel
theorem dX9_draw_126 : decode cX9_draw 126 = .ok (.iadd, 1) := by decide +kernel
theorem dX9_draw_127 : decode cX9_draw 127 = .ok (.invokespecial 187, 3) := by decide +kernel
theorem dX9_draw_130 : decode cX9_draw 130 = .ok (.invokeinterface 50 2, 5) := by decide +kernel
theorem dX9_draw_135 : decode cX9_draw 135 = .ok (.pop, 1) := by decide +kernel
theorem dX9_draw_136 : decode cX9_draw 136 = .ok (.aload_n 0, 1) := by decide +kernel
theorem dX9_draw_137 : decode cX9_draw 137 = .ok (.getfield 38, 3) := by decide +kernel
theorem dX9_draw_140 : decode cX9_draw 140 = .ok (.invokeinterface 56 1, 5) := by decide +kernel
theorem dX9_draw_145 : decode cX9_draw 145 = .ok (.iconst 1, 1) := by decide +kernel
theorem dX9_draw_146 : decode cX9_draw 146 = .ok (.isub, 1) := by decide +kernel
theorem dX9_draw_147 : decode cX9_draw 147 = .ok (.ireturn, 1) := by decide +kernel
theorem dX9_isBill_0 : decode cX9_isBill 0 = .ok (.iload_n 1, 1) := by decide +kernel
theorem dX9_isBill_1 : decode cX9_isBill 1 = .ok (.iconst 0, 1) := by decide +kernel
theorem dX9_isBill_2 : decode cX9_isBill 2 = .ok (.aload_n 0, 1) := by decide +kernel
theorem dX9_isBill_3 : decode cX9_isBill 3 = .ok (.getfield 38, 3) := by decide +kernel
theorem dX9_isBill_6 : decode cX9_isBill 6 = .ok (.invokeinterface 56 1, 5) := by decide +kernel
theorem dX9_isBill_11 : decode cX9_isBill 11 = .ok (.iconst 1, 1) := by decide +kernel
theorem dX9_isBill_12 : decode cX9_isBill 12 = .ok (.isub, 1) := by decide +kernel
theorem dX9_isBill_13 : decode cX9_isBill 13 = .ok (.invokestatic 60, 3) := by decide +kernel
theorem dX9_isBill_16 : decode cX9_isBill 16 = .ok (.ireturn, 1) := by decide +kernel
theorem dX9_endorse_0 : decode cX9_endorse 0 = .ok (.aload_n 0, 1) := by decide +kernel
theorem dX9_endorse_1 : decode cX9_endorse 1 = .ok (.aload_n 0, 1) := by decide +kernel
theorem dX9_endorse_2 : decode cX9_endorse 2 = .ok (.iload_n 1, 1) := by decide +kernel
theorem dX9_endorse_3 : decode cX9_endorse 3 = .ok (.invokevirtual 188, 3) := by decide +kernel
theorem dX9_endorse_6 : decode cX9_endorse 6 = .ok (.ifCond .eq 15, 3) := by decide +kernel
theorem dX9_endorse_9 : decode cX9_endorse 9 = .ok (.aload_n 0, 1) := by decide +kernel
theorem dX9_endorse_10 : decode cX9_endorse 10 = .ok (.iload_n 2, 1) := by decide +kernel
theorem dX9_endorse_11 : decode cX9_endorse 11 = .ok (.invokevirtual 84, 3) := by decide +kernel
theorem dX9_endorse_14 : decode cX9_endorse 14 = .ok (.ifCond .eq 7, 3) := by decide +kernel
theorem dX9_endorse_17 : decode cX9_endorse 17 = .ok (.iconst 0, 1) := by decide +kernel
theorem dX9_endorse_18 : decode cX9_endorse 18 = .ok (.goto 4, 3) := by decide +kernel
theorem dX9_endorse_21 : decode cX9_endorse 21 = .ok (.iconst 1, 1) := by decide +kernel
theorem dX9_endorse_22 : decode cX9_endorse 22 = .ok (.invokevirtual 80, 3) := by decide +kernel
theorem dX9_endorse_25 : decode cX9_endorse 25 = .ok (.ifCond .eq 5, 3) := by decide +kernel
theorem dX9_endorse_28 : decode cX9_endorse 28 = .ok (.iconst 0, 1) := by decide +kernel
theorem dX9_endorse_29 : decode cX9_endorse 29 = .ok (.ireturn, 1) := by decide +kernel
theorem dX9_endorse_30 : decode cX9_endorse 30 = .ok (.aload_n 0, 1) := by decide +kernel
theorem dX9_endorse_31 : decode cX9_endorse 31 = .ok (.getfield 38, 3) := by decide +kernel
theorem dX9_endorse_34 : decode cX9_endorse 34 = .ok (.iload_n 1, 1) := by decide +kernel
theorem dX9_endorse_35 : decode cX9_endorse 35 = .ok (.invokeinterface 64 2, 5) := by decide +kernel
theorem dX9_endorse_40 : decode cX9_endorse 40 = .ok (.checkcast 182, 3) := by decide +kernel
theorem dX9_endorse_43 : decode cX9_endorse 43 = .ok (.astore_n 3, 1) := by decide +kernel
theorem dX9_endorse_44 : decode cX9_endorse 44 = .ok (.aload_n 0, 1) := by decide +kernel
theorem dX9_endorse_45 : decode cX9_endorse 45 = .ok (.aload_n 3, 1) := by decide +kernel
theorem dX9_endorse_46 : decode cX9_endorse 46 = .ok (.getfield 191, 3) := by decide +kernel
theorem dX9_endorse_49 : decode cX9_endorse 49 = .ok (.ifCond .ne 15, 3) := by decide +kernel
theorem dX9_endorse_52 : decode cX9_endorse 52 = .ok (.iload_n 2, 1) := by decide +kernel
theorem dX9_endorse_53 : decode cX9_endorse 53 = .ok (.aload_n 3, 1) := by decide +kernel
theorem dX9_endorse_54 : decode cX9_endorse 54 = .ok (.getfield 194, 3) := by decide +kernel
theorem dX9_endorse_57 : decode cX9_endorse 57 = .ok (.if_icmp .ne 7, 3) := by decide +kernel
theorem dX9_endorse_60 : decode cX9_endorse 60 = .ok (.iconst 2, 1) := by decide +kernel
theorem dX9_endorse_61 : decode cX9_endorse 61 = .ok (.goto 51, 3) := by decide +kernel
theorem dX9_endorse_64 : decode cX9_endorse 64 = .ok (.aload_n 3, 1) := by decide +kernel
theorem dX9_endorse_65 : decode cX9_endorse 65 = .ok (.getfield 191, 3) := by decide +kernel
theorem dX9_endorse_68 : decode cX9_endorse 68 = .ok (.ifCond .ne 22, 3) := by decide +kernel
theorem dX9_endorse_71 : decode cX9_endorse 71 = .ok (.aload_n 0, 1) := by decide +kernel
theorem dX9_endorse_72 : decode cX9_endorse 72 = .ok (.aload_n 3, 1) := by decide +kernel
theorem dX9_endorse_73 : decode cX9_endorse 73 = .ok (.getfield 194, 3) := by decide +kernel
theorem dX9_endorse_76 : decode cX9_endorse 76 = .ok (.invokevirtual 91, 3) := by decide +kernel
theorem dX9_endorse_79 : decode cX9_endorse 79 = .ok (.ifCond .ne 11, 3) := by decide +kernel
theorem dX9_endorse_82 : decode cX9_endorse 82 = .ok (.aload_n 0, 1) := by decide +kernel
theorem dX9_endorse_83 : decode cX9_endorse 83 = .ok (.iload_n 2, 1) := by decide +kernel
theorem dX9_endorse_84 : decode cX9_endorse 84 = .ok (.invokevirtual 91, 3) := by decide +kernel
theorem dX9_endorse_87 : decode cX9_endorse 87 = .ok (.ifCond .eq 7, 3) := by decide +kernel
theorem dX9_endorse_90 : decode cX9_endorse 90 = .ok (.iconst 3, 1) := by decide +kernel
theorem dX9_endorse_91 : decode cX9_endorse 91 = .ok (.goto 21, 3) := by decide +kernel
theorem dX9_endorse_94 : decode cX9_endorse 94 = .ok (.aload_n 3, 1) := by decide +kernel
theorem dX9_endorse_95 : decode cX9_endorse 95 = .ok (.getfield 197, 3) := by decide +kernel
theorem dX9_endorse_98 : decode cX9_endorse 98 = .ok (.invokeinterface 56 1, 5) := by decide +kernel
theorem dX9_endorse_103 : decode cX9_endorse 103 = .ok (.iconst 5, 1) := by decide +kernel
theorem dX9_endorse_104 : decode cX9_endorse 104 = .ok (.if_icmp .ne 7, 3) := by decide +kernel
theorem dX9_endorse_107 : decode cX9_endorse 107 = .ok (.iconst 4, 1) := by decide +kernel
theorem dX9_endorse_108 : decode cX9_endorse 108 = .ok (.goto 4, 3) := by decide +kernel
theorem dX9_endorse_111 : decode cX9_endorse 111 = .ok (.iconst 0, 1) := by decide +kernel
theorem dX9_endorse_112 : decode cX9_endorse 112 = .ok (.invokevirtual 80, 3) := by decide +kernel
theorem dX9_endorse_115 : decode cX9_endorse 115 = .ok (.ifCond .eq 5, 3) := by decide +kernel
theorem dX9_endorse_118 : decode cX9_endorse 118 = .ok (.iconst 0, 1) := by decide +kernel
theorem dX9_endorse_119 : decode cX9_endorse 119 = .ok (.ireturn, 1) := by decide +kernel
theorem dX9_endorse_120 : decode cX9_endorse 120 = .ok (.aload_n 3, 1) := by decide +kernel
theorem dX9_endorse_121 : decode cX9_endorse 121 = .ok (.getfield 194, 3) := by decide +kernel
theorem dX9_endorse_124 : decode cX9_endorse 124 = .ok (.istore 4, 2) := by decide +kernel
theorem dX9_endorse_126 : decode cX9_endorse 126 = .ok (.aload_n 3, 1) := by decide +kernel
theorem dX9_endorse_127 : decode cX9_endorse 127 = .ok (.getfield 197, 3) := by decide +kernel
theorem dX9_endorse_130 : decode cX9_endorse 130 = .ok (.iconst 0, 1) := by decide +kernel
theorem dX9_endorse_131 : decode cX9_endorse 131 = .ok (.iload 4, 2) := by decide +kernel
theorem dX9_endorse_133 : decode cX9_endorse 133 = .ok (.invokestatic 200, 3) := by decide +kernel
theorem dX9_endorse_136 : decode cX9_endorse 136 = .ok (.invokeinterface 205 3, 5) := by decide +kernel
theorem dX9_endorse_141 : decode cX9_endorse 141 = .ok (.aload_n 3, 1) := by decide +kernel
theorem dX9_endorse_142 : decode cX9_endorse 142 = .ok (.iload_n 2, 1) := by decide +kernel
theorem dX9_endorse_143 : decode cX9_endorse 143 = .ok (.putfield 194, 3) := by decide +kernel
theorem dX9_endorse_146 : decode cX9_endorse 146 = .ok (.iload 4, 2) := by decide +kernel
theorem dX9_endorse_148 : decode cX9_endorse 148 = .ok (.ireturn, 1) := by decide +kernel
theorem dX9_holderOf_0 : decode cX9_holderOf 0 = .ok (.aload_n 0, 1) := by decide +kernel
theorem dX9_holderOf_1 : decode cX9_holderOf 1 = .ok (.aload_n 0, 1) := by decide +kernel
theorem dX9_holderOf_2 : decode cX9_holderOf 2 = .ok (.iload_n 1, 1) := by decide +kernel
theorem dX9_holderOf_3 : decode cX9_holderOf 3 = .ok (.invokevirtual 188, 3) := by decide +kernel
theorem dX9_holderOf_6 : decode cX9_holderOf 6 = .ok (.ifCond .eq 7, 3) := by decide +kernel
theorem dX9_holderOf_9 : decode cX9_holderOf 9 = .ok (.iconst 0, 1) := by decide +kernel
theorem dX9_holderOf_10 : decode cX9_holderOf 10 = .ok (.goto 4, 3) := by decide +kernel
theorem dX9_holderOf_13 : decode cX9_holderOf 13 = .ok (.iconst 1, 1) := by decide +kernel
theorem dX9_holderOf_14 : decode cX9_holderOf 14 = .ok (.invokevirtual 80, 3) := by decide +kernel
theorem dX9_holderOf_17 : decode cX9_holderOf 17 = .ok (.ifCond .eq 7, 3) := by decide +kernel
theorem dX9_holderOf_20 : decode cX9_holderOf 20 = .ok (.iconst 0, 1) := by decide +kernel
theorem dX9_holderOf_21 : decode cX9_holderOf 21 = .ok (.goto 42, 3) := by decide +kernel
theorem dX9_holderOf_24 : decode cX9_holderOf 24 = .ok (.aload_n 0, 1) := by decide +kernel
theorem dX9_holderOf_25 : decode cX9_holderOf 25 = .ok (.getfield 38, 3) := by decide +kernel
theorem dX9_holderOf_28 : decode cX9_holderOf 28 = .ok (.iload_n 1, 1) := by decide +kernel
theorem dX9_holderOf_29 : decode cX9_holderOf 29 = .ok (.invokeinterface 64 2, 5) := by decide +kernel
theorem dX9_holderOf_34 : decode cX9_holderOf 34 = .ok (.checkcast 182, 3) := by decide +kernel
theorem dX9_holderOf_37 : decode cX9_holderOf 37 = .ok (.getfield 191, 3) := by decide +kernel
theorem dX9_holderOf_40 : decode cX9_holderOf 40 = .ok (.ifCond .eq 7, 3) := by decide +kernel
theorem dX9_holderOf_43 : decode cX9_holderOf 43 = .ok (.iconst (-1), 1) := by decide +kernel
theorem dX9_holderOf_44 : decode cX9_holderOf 44 = .ok (.goto 19, 3) := by decide +kernel
theorem dX9_holderOf_47 : decode cX9_holderOf 47 = .ok (.aload_n 0, 1) := by decide +kernel
theorem dX9_holderOf_48 : decode cX9_holderOf 48 = .ok (.getfield 38, 3) := by decide +kernel
theorem dX9_holderOf_51 : decode cX9_holderOf 51 = .ok (.iload_n 1, 1) := by decide +kernel
theorem dX9_holderOf_52 : decode cX9_holderOf 52 = .ok (.invokeinterface 64 2, 5) := by decide +kernel
theorem dX9_holderOf_57 : decode cX9_holderOf 57 = .ok (.checkcast 182, 3) := by decide +kernel
theorem dX9_holderOf_60 : decode cX9_holderOf 60 = .ok (.getfield 194, 3) := by decide +kernel
theorem dX9_holderOf_63 : decode cX9_holderOf 63 = .ok (.ireturn, 1) := by decide +kernel
theorem dX9_nextDay_0 : decode cX9_nextDay 0 = .ok (.aload_n 0, 1) := by decide +kernel
theorem dX9_nextDay_1 : decode cX9_nextDay 1 = .ok (.iconst 0, 1) := by decide +kernel
theorem dX9_nextDay_2 : decode cX9_nextDay 2 = .ok (.putfield 1, 3) := by decide +kernel
theorem dX9_nextDay_5 : decode cX9_nextDay 5 = .ok (.aload_n 0, 1) := by decide +kernel
theorem dX9_nextDay_6 : decode cX9_nextDay 6 = .ok (.dup, 1) := by decide +kernel
theorem dX9_nextDay_7 : decode cX9_nextDay 7 = .ok (.getfield 184, 3) := by decide +kernel
theorem dX9_nextDay_10 : decode cX9_nextDay 10 = .ok (.iconst 1, 1) := by decide +kernel
theorem dX9_nextDay_11 : decode cX9_nextDay 11 = .ok (.iadd, 1) := by decide +kernel
theorem dX9_nextDay_12 : decode cX9_nextDay 12 = .ok (.putfield 184, 3) := by decide +kernel
theorem dX9_nextDay_15 : decode cX9_nextDay 15 = .ok (.iconst 0, 1) := by decide +kernel
theorem dX9_nextDay_16 : decode cX9_nextDay 16 = .ok (.istore_n 1, 1) := by decide +kernel
theorem dX9_nextDay_17 : decode cX9_nextDay 17 = .ok (.aload_n 0, 1) := by decide +kernel
theorem dX9_nextDay_18 : decode cX9_nextDay 18 = .ok (.getfield 38, 3) := by decide +kernel
theorem dX9_nextDay_21 : decode cX9_nextDay 21 = .ok (.invokeinterface 122 1, 5) := by decide +kernel
theorem dX9_nextDay_26 : decode cX9_nextDay 26 = .ok (.astore_n 2, 1) := by decide +kernel
theorem dX9_nextDay_27 : decode cX9_nextDay 27 = .ok (.aload_n 2, 1) := by decide +kernel
theorem dX9_nextDay_28 : decode cX9_nextDay 28 = .ok (.invokeinterface 126 1, 5) := by decide +kernel
theorem dX9_nextDay_33 : decode cX9_nextDay 33 = .ok (.ifCond .eq 215, 3) := by decide +kernel
theorem dX9_nextDay_36 : decode cX9_nextDay 36 = .ok (.aload_n 2, 1) := by decide +kernel
theorem dX9_nextDay_37 : decode cX9_nextDay 37 = .ok (.invokeinterface 132 1, 5) := by decide +kernel
theorem dX9_nextDay_42 : decode cX9_nextDay 42 = .ok (.checkcast 182, 3) := by decide +kernel
theorem dX9_nextDay_45 : decode cX9_nextDay 45 = .ok (.astore_n 3, 1) := by decide +kernel
theorem dX9_nextDay_46 : decode cX9_nextDay 46 = .ok (.aload_n 3, 1) := by decide +kernel
theorem dX9_nextDay_47 : decode cX9_nextDay 47 = .ok (.getfield 208, 3) := by decide +kernel
theorem dX9_nextDay_50 : decode cX9_nextDay 50 = .ok (.aload_n 0, 1) := by decide +kernel
theorem dX9_nextDay_51 : decode cX9_nextDay 51 = .ok (.getfield 184, 3) := by decide +kernel
theorem dX9_nextDay_54 : decode cX9_nextDay 54 = .ok (.if_icmp .eq 6, 3) := by decide +kernel
theorem dX9_nextDay_57 : decode cX9_nextDay 57 = .ok (.goto (-30), 3) := by decide +kernel
theorem dX9_nextDay_60 : decode cX9_nextDay 60 = .ok (.aload_n 3, 1) := by decide +kernel
theorem dX9_nextDay_61 : decode cX9_nextDay 61 = .ok (.iconst 1, 1) := by decide +kernel
theorem dX9_nextDay_62 : decode cX9_nextDay 62 = .ok (.putfield 191, 3) := by decide +kernel
theorem dX9_nextDay_65 : decode cX9_nextDay 65 = .ok (.aload_n 0, 1) := by decide +kernel
theorem dX9_nextDay_66 : decode cX9_nextDay 66 = .ok (.aload_n 3, 1) := by decide +kernel
theorem dX9_nextDay_67 : decode cX9_nextDay 67 = .ok (.getfield 194, 3) := by decide +kernel
theorem dX9_nextDay_70 : decode cX9_nextDay 70 = .ok (.invokevirtual 91, 3) := by decide +kernel
theorem dX9_nextDay_73 : decode cX9_nextDay 73 = .ok (.ifCond .eq 6, 3) := by decide +kernel
theorem dX9_nextDay_76 : decode cX9_nextDay 76 = .ok (.goto (-49), 3) := by decide +kernel
theorem dX9_nextDay_79 : decode cX9_nextDay 79 = .ok (.new 13, 3) := by decide +kernel
theorem dX9_nextDay_82 : decode cX9_nextDay 82 = .ok (.dup, 1) := by decide +kernel
theorem dX9_nextDay_83 : decode cX9_nextDay 83 = .ok (.invokespecial 15, 3) := by decide +kernel
theorem dX9_nextDay_86 : decode cX9_nextDay 86 = .ok (.astore 4, 2) := by decide +kernel
theorem dX9_nextDay_88 : decode cX9_nextDay 88 = .ok (.aload 4, 2) := by decide +kernel
theorem dX9_nextDay_90 : decode cX9_nextDay 90 = .ok (.aload_n 3, 1) := by decide +kernel
theorem dX9_nextDay_91 : decode cX9_nextDay 91 = .ok (.getfield 211, 3) := by decide +kernel
theorem dX9_nextDay_94 : decode cX9_nextDay 94 = .ok (.invokestatic 200, 3) := by decide +kernel
theorem dX9_nextDay_97 : decode cX9_nextDay 97 = .ok (.invokeinterface 50 2, 5) := by decide +kernel
theorem dX9_nextDay_102 : decode cX9_nextDay 102 = .ok (.pop, 1) := by decide +kernel
theorem dX9_nextDay_103 : decode cX9_nextDay 103 = .ok (.aload 4, 2) := by decide +kernel
theorem dX9_nextDay_105 : decode cX9_nextDay 105 = .ok (.aload_n 3, 1) := by decide +kernel
theorem dX9_nextDay_106 : decode cX9_nextDay 106 = .ok (.getfield 214, 3) := by decide +kernel
theorem dX9_nextDay_109 : decode cX9_nextDay 109 = .ok (.invokestatic 200, 3) := by decide +kernel
theorem dX9_nextDay_112 : decode cX9_nextDay 112 = .ok (.invokeinterface 50 2, 5) := by decide +kernel
theorem dX9_nextDay_117 : decode cX9_nextDay 117 = .ok (.pop, 1) := by decide +kernel
theorem dX9_nextDay_118 : decode cX9_nextDay 118 = .ok (.aload 4, 2) := by decide +kernel
theorem dX9_nextDay_120 : decode cX9_nextDay 120 = .ok (.aload_n 3, 1) := by decide +kernel
theorem dX9_nextDay_121 : decode cX9_nextDay 121 = .ok (.getfield 197, 3) := by decide +kernel
theorem dX9_nextDay_124 : decode cX9_nextDay 124 = .ok (.invokeinterface 217 2, 5) := by decide +kernel
theorem dX9_nextDay_129 : decode cX9_nextDay 129 = .ok (.pop, 1) := by decide +kernel
theorem dX9_nextDay_130 : decode cX9_nextDay 130 = .ok (.iconst 0, 1) := by decide +kernel
theorem dX9_nextDay_131 : decode cX9_nextDay 131 = .ok (.istore 5, 2) := by decide +kernel
theorem dX9_nextDay_133 : decode cX9_nextDay 133 = .ok (.iload 5, 2) := by decide +kernel
theorem dX9_nextDay_135 : decode cX9_nextDay 135 = .ok (.aload 4, 2) := by decide +kernel
theorem dX9_nextDay_137 : decode cX9_nextDay 137 = .ok (.invokeinterface 56 1, 5) := by decide +kernel
theorem dX9_nextDay_142 : decode cX9_nextDay 142 = .ok (.if_icmp .ge 31, 3) := by decide +kernel
theorem dX9_nextDay_145 : decode cX9_nextDay 145 = .ok (.aload_n 0, 1) := by decide +kernel
theorem dX9_nextDay_146 : decode cX9_nextDay 146 = .ok (.aload 4, 2) := by decide +kernel
theorem dX9_nextDay_148 : decode cX9_nextDay 148 = .ok (.iload 5, 2) := by decide +kernel
theorem dX9_nextDay_150 : decode cX9_nextDay 150 = .ok (.invokeinterface 64 2, 5) := by decide +kernel
theorem dX9_nextDay_155 : decode cX9_nextDay 155 = .ok (.checkcast 201, 3) := by decide +kernel
theorem dX9_nextDay_158 : decode cX9_nextDay 158 = .ok (.invokevirtual 221, 3) := by decide +kernel
theorem dX9_nextDay_161 : decode cX9_nextDay 161 = .ok (.invokevirtual 91, 3) := by decide +kernel
theorem dX9_nextDay_164 : decode cX9_nextDay 164 = .ok (.ifCond .eq 9, 3) := by decide +kernel
theorem dX9_nextDay_167 : decode cX9_nextDay 167 = .ok (.iinc 5 1, 3) := by decide +kernel
theorem dX9_nextDay_170 : decode cX9_nextDay 170 = .ok (.goto (-37), 3) := by decide +kernel
theorem dX9_nextDay_173 : decode cX9_nextDay 173 = .ok (.iload 5, 2) := by decide +kernel
theorem dX9_nextDay_175 : decode cX9_nextDay 175 = .ok (.aload 4, 2) := by decide +kernel
theorem dX9_nextDay_177 : decode cX9_nextDay 177 = .ok (.invokeinterface 56 1, 5) := by decide +kernel
theorem dX9_nextDay_182 : decode cX9_nextDay 182 = .ok (.if_icmp .eq (-155), 3) := by decide +kernel
theorem dX9_nextDay_185 : decode cX9_nextDay 185 = .ok (.aload 4, 2) := by decide +kernel
theorem dX9_nextDay_187 : decode cX9_nextDay 187 = .ok (.iload 5, 2) := by decide +kernel
theorem dX9_nextDay_189 : decode cX9_nextDay 189 = .ok (.invokeinterface 64 2, 5) := by decide +kernel
theorem dX9_nextDay_194 : decode cX9_nextDay 194 = .ok (.checkcast 201, 3) := by decide +kernel
theorem dX9_nextDay_197 : decode cX9_nextDay 197 = .ok (.invokevirtual 221, 3) := by decide +kernel
theorem dX9_nextDay_200 : decode cX9_nextDay 200 = .ok (.aload_n 3, 1) := by decide +kernel
theorem dX9_nextDay_201 : decode cX9_nextDay 201 = .ok (.getfield 194, 3) := by decide +kernel
theorem dX9_nextDay_204 : decode cX9_nextDay 204 = .ok (.if_icmp .ne 6, 3) := by decide +kernel
theorem dX9_nextDay_207 : decode cX9_nextDay 207 = .ok (.goto (-180), 3) := by decide +kernel
theorem dX9_nextDay_210 : decode cX9_nextDay 210 = .ok (.aload_n 0, 1) := by decide +kernel
theorem dX9_nextDay_211 : decode cX9_nextDay 211 = .ok (.getfield 35, 3) := by decide +kernel
theorem dX9_nextDay_214 : decode cX9_nextDay 214 = .ok (.aload_n 3, 1) := by decide +kernel
theorem dX9_nextDay_215 : decode cX9_nextDay 215 = .ok (.getfield 194, 3) := by decide +kernel
theorem dX9_nextDay_218 : decode cX9_nextDay 218 = .ok (.aaload, 1) := by decide +kernel
theorem dX9_nextDay_219 : decode cX9_nextDay 219 = .ok (.aload 4, 2) := by decide +kernel
theorem dX9_nextDay_221 : decode cX9_nextDay 221 = .ok (.iload 5, 2) := by decide +kernel
theorem dX9_nextDay_223 : decode cX9_nextDay 223 = .ok (.invokeinterface 64 2, 5) := by decide +kernel
theorem dX9_nextDay_228 : decode cX9_nextDay 228 = .ok (.checkcast 201, 3) := by decide +kernel
theorem dX9_nextDay_231 : decode cX9_nextDay 231 = .ok (.invokevirtual 221, 3) := by decide +kernel
theorem dX9_nextDay_234 : decode cX9_nextDay 234 = .ok (.dup2, 1) := by decide +kernel
theorem dX9_nextDay_235 : decode cX9_nextDay 235 = .ok (.iaload, 1) := by decide +kernel
theorem dX9_nextDay_236 : decode cX9_nextDay 236 = .ok (.aload_n 3, 1) := by decide +kernel
theorem dX9_nextDay_237 : decode cX9_nextDay 237 = .ok (.getfield 224, 3) := by decide +kernel
theorem dX9_nextDay_240 : decode cX9_nextDay 240 = .ok (.iadd, 1) := by decide +kernel
theorem dX9_nextDay_241 : decode cX9_nextDay 241 = .ok (.iastore, 1) := by decide +kernel
theorem dX9_nextDay_242 : decode cX9_nextDay 242 = .ok (.iinc 1 1, 3) := by decide +kernel
theorem dX9_nextDay_245 : decode cX9_nextDay 245 = .ok (.goto (-218), 3) := by decide +kernel
theorem dX9_nextDay_248 : decode cX9_nextDay 248 = .ok (.iload_n 1, 1) := by decide +kernel
theorem dX9_nextDay_249 : decode cX9_nextDay 249 = .ok (.ireturn, 1) := by decide +kernel
theorem dX9_addShare_0 : decode cX9_addShare 0 = .ok (.aload_n 0, 1) := by decide +kernel
theorem dX9_addShare_1 : decode cX9_addShare 1 = .ok (.iload_n 1, 1) := by decide +kernel
theorem dX9_addShare_2 : decode cX9_addShare 2 = .ok (.iconst 0, 1) := by decide +kernel
theorem dX9_addShare_3 : decode cX9_addShare 3 = .ok (.iconst 3, 1) := by decide +kernel
theorem dX9_addShare_4 : decode cX9_addShare 4 = .ok (.invokestatic 60, 3) := by decide +kernel
theorem dX9_addShare_7 : decode cX9_addShare 7 = .ok (.ifCond .eq 11, 3) := by decide +kernel
theorem dX9_addShare_10 : decode cX9_addShare 10 = .ok (.aload_n 0, 1) := by decide +kernel
theorem dX9_addShare_11 : decode cX9_addShare 11 = .ok (.iload_n 2, 1) := by decide +kernel
theorem dX9_addShare_12 : decode cX9_addShare 12 = .ok (.invokevirtual 84, 3) := by decide +kernel
theorem dX9_addShare_15 : decode cX9_addShare 15 = .ok (.ifCond .ne 7, 3) := by decide +kernel
theorem dX9_addShare_18 : decode cX9_addShare 18 = .ok (.iconst 1, 1) := by decide +kernel
theorem dX9_addShare_19 : decode cX9_addShare 19 = .ok (.goto 30, 3) := by decide +kernel
theorem dX9_addShare_22 : decode cX9_addShare 22 = .ok (.iload_n 3, 1) := by decide +kernel
theorem dX9_addShare_23 : decode cX9_addShare 23 = .ok (.iconst 1, 1) := by decide +kernel
theorem dX9_addShare_24 : decode cX9_addShare 24 = .ok (.bipush 99, 2) := by decide +kernel
theorem dX9_addShare_26 : decode cX9_addShare 26 = .ok (.invokestatic 60, 3) := by decide +kernel
theorem dX9_addShare_29 : decode cX9_addShare 29 = .ok (.ifCond .ne 7, 3) := by decide +kernel
theorem dX9_addShare_32 : decode cX9_addShare 32 = .ok (.iconst 2, 1) := by decide +kernel
theorem dX9_addShare_33 : decode cX9_addShare 33 = .ok (.goto 16, 3) := by decide +kernel
theorem dX9_addShare_36 : decode cX9_addShare 36 = .ok (.aload_n 0, 1) := by decide +kernel
theorem dX9_addShare_37 : decode cX9_addShare 37 = .ok (.iload_n 2, 1) := by decide +kernel
theorem dX9_addShare_38 : decode cX9_addShare 38 = .ok (.invokevirtual 91, 3) := by decide +kernel
theorem dX9_addShare_41 : decode cX9_addShare 41 = .ok (.ifCond .eq 7, 3) := by decide +kernel
theorem dX9_addShare_44 : decode cX9_addShare 44 = .ok (.iconst 3, 1) := by decide +kernel
theorem dX9_addShare_45 : decode cX9_addShare 45 = .ok (.goto 4, 3) := by decide +kernel
theorem dX9_addShare_48 : decode cX9_addShare 48 = .ok (.iconst 0, 1) := by decide +kernel
theorem dX9_addShare_49 : decode cX9_addShare 49 = .ok (.invokevirtual 80, 3) := by decide +kernel
theorem dX9_addShare_52 : decode cX9_addShare 52 = .ok (.ifCond .eq 5, 3) := by decide +kernel
theorem dX9_addShare_55 : decode cX9_addShare 55 = .ok (.iconst 0, 1) := by decide +kernel
theorem dX9_addShare_56 : decode cX9_addShare 56 = .ok (.ireturn, 1) := by decide +kernel
theorem dX9_addShare_57 : decode cX9_addShare 57 = .ok (.aload_n 0, 1) := by decide +kernel
theorem dX9_addShare_58 : decode cX9_addShare 58 = .ok (.getfield 41, 3) := by decide +kernel
theorem dX9_addShare_61 : decode cX9_addShare 61 = .ok (.iload_n 1, 1) := by decide +kernel
theorem dX9_addShare_62 : decode cX9_addShare 62 = .ok (.aaload, 1) := by decide +kernel
theorem dX9_addShare_63 : decode cX9_addShare 63 = .ok (.iload_n 2, 1) := by decide +kernel
theorem dX9_addShare_64 : decode cX9_addShare 64 = .ok (.dup2, 1) := by decide +kernel
theorem dX9_addShare_65 : decode cX9_addShare 65 = .ok (.iaload, 1) := by decide +kernel
theorem dX9_addShare_66 : decode cX9_addShare 66 = .ok (.iload_n 3, 1) := by decide +kernel
theorem dX9_addShare_67 : decode cX9_addShare 67 = .ok (.iadd, 1) := by decide +kernel
theorem dX9_addShare_68 : decode cX9_addShare 68 = .ok (.iastore, 1) := by decide +kernel
theorem dX9_addShare_69 : decode cX9_addShare 69 = .ok (.aload_n 0, 1) := by decide +kernel
theorem dX9_addShare_70 : decode cX9_addShare 70 = .ok (.getfield 41, 3) := by decide +kernel
theorem dX9_addShare_73 : decode cX9_addShare 73 = .ok (.iload_n 1, 1) := by decide +kernel
theorem dX9_addShare_74 : decode cX9_addShare 74 = .ok (.aaload, 1) := by decide +kernel
theorem dX9_addShare_75 : decode cX9_addShare 75 = .ok (.iload_n 2, 1) := by decide +kernel
theorem dX9_addShare_76 : decode cX9_addShare 76 = .ok (.iaload, 1) := by decide +kernel
theorem dX9_addShare_77 : decode cX9_addShare 77 = .ok (.ireturn, 1) := by decide +kernel
theorem dX9_throwOver_0 : decode cX9_throwOver 0 = .ok (.aload_n 0, 1) := by decide +kernel
theorem dX9_throwOver_1 : decode cX9_throwOver 1 = .ok (.iload_n 1, 1) := by decide +kernel
theorem dX9_throwOver_2 : decode cX9_throwOver 2 = .ok (.iconst 0, 1) := by decide +kernel
theorem dX9_throwOver_3 : decode cX9_throwOver 3 = .ok (.iconst 3, 1) := by decide +kernel
theorem dX9_throwOver_4 : decode cX9_throwOver 4 = .ok (.invokestatic 60, 3) := by decide +kernel
theorem dX9_throwOver_7 : decode cX9_throwOver 7 = .ok (.ifCond .eq 11, 3) := by decide +kernel
theorem dX9_throwOver_10 : decode cX9_throwOver 10 = .ok (.aload_n 0, 1) := by decide +kernel
theorem dX9_throwOver_11 : decode cX9_throwOver 11 = .ok (.iload_n 2, 1) := by decide +kernel
theorem dX9_throwOver_12 : decode cX9_throwOver 12 = .ok (.invokevirtual 84, 3) := by decide +kernel
theorem dX9_throwOver_15 : decode cX9_throwOver 15 = .ok (.ifCond .ne 7, 3) := by decide +kernel
theorem dX9_throwOver_18 : decode cX9_throwOver 18 = .ok (.iconst 1, 1) := by decide +kernel
theorem dX9_throwOver_19 : decode cX9_throwOver 19 = .ok (.goto 18, 3) := by decide +kernel
theorem dX9_throwOver_22 : decode cX9_throwOver 22 = .ok (.iload_n 3, 1) := by decide +kernel
theorem dX9_throwOver_23 : decode cX9_throwOver 23 = .ok (.iconst 1, 1) := by decide +kernel
theorem dX9_throwOver_24 : decode cX9_throwOver 24 = .ok (.bipush 99, 2) := by decide +kernel
theorem dX9_throwOver_26 : decode cX9_throwOver 26 = .ok (.invokestatic 60, 3) := by decide +kernel
theorem dX9_throwOver_29 : decode cX9_throwOver 29 = .ok (.ifCond .ne 7, 3) := by decide +kernel
theorem dX9_throwOver_32 : decode cX9_throwOver 32 = .ok (.iconst 2, 1) := by decide +kernel
theorem dX9_throwOver_33 : decode cX9_throwOver 33 = .ok (.goto 4, 3) := by decide +kernel
theorem dX9_throwOver_36 : decode cX9_throwOver 36 = .ok (.iconst 0, 1) := by decide +kernel
theorem dX9_throwOver_37 : decode cX9_throwOver 37 = .ok (.invokevirtual 80, 3) := by decide +kernel
theorem dX9_throwOver_40 : decode cX9_throwOver 40 = .ok (.ifCond .eq 5, 3) := by decide +kernel
theorem dX9_throwOver_43 : decode cX9_throwOver 43 = .ok (.iconst 0, 1) := by decide +kernel
theorem dX9_throwOver_44 : decode cX9_throwOver 44 = .ok (.ireturn, 1) := by decide +kernel
theorem dX9_throwOver_45 : decode cX9_throwOver 45 = .ok (.aload_n 0, 1) := by decide +kernel
theorem dX9_throwOver_46 : decode cX9_throwOver 46 = .ok (.getfield 41, 3) := by decide +kernel
theorem dX9_throwOver_49 : decode cX9_throwOver 49 = .ok (.iload_n 1, 1) := by decide +kernel
theorem dX9_throwOver_50 : decode cX9_throwOver 50 = .ok (.aaload, 1) := by decide +kernel
theorem dX9_throwOver_51 : decode cX9_throwOver 51 = .ok (.astore 4, 2) := by decide +kernel
theorem dX9_throwOver_53 : decode cX9_throwOver 53 = .ok (.aload_n 0, 1) := by decide +kernel
theorem dX9_throwOver_54 : decode cX9_throwOver 54 = .ok (.iload_n 2, 1) := by decide +kernel
theorem dX9_throwOver_55 : decode cX9_throwOver 55 = .ok (.invokevirtual 91, 3) := by decide +kernel
theorem dX9_throwOver_58 : decode cX9_throwOver 58 = .ok (.istore 5, 2) := by decide +kernel
theorem dX9_throwOver_60 : decode cX9_throwOver 60 = .ok (.iconst 0, 1) := by decide +kernel
theorem dX9_throwOver_61 : decode cX9_throwOver 61 = .ok (.istore 6, 2) := by decide +kernel
theorem dX9_throwOver_63 : decode cX9_throwOver 63 = .ok (.iconst 0, 1) := by decide +kernel
theorem dX9_throwOver_64 : decode cX9_throwOver 64 = .ok (.istore 7, 2) := by decide +kernel
theorem dX9_throwOver_66 : decode cX9_throwOver 66 = .ok (.iload 7, 2) := by decide +kernel
theorem dX9_throwOver_68 : decode cX9_throwOver 68 = .ok (.aload_n 0, 1) := by decide +kernel
theorem dX9_throwOver_69 : decode cX9_throwOver 69 = .ok (.getfield 16, 3) := by decide +kernel
theorem dX9_throwOver_72 : decode cX9_throwOver 72 = .ok (.invokeinterface 56 1, 5) := by decide +kernel
theorem dX9_throwOver_77 : decode cX9_throwOver 77 = .ok (.if_icmp .ge 46, 3) := by decide +kernel
theorem dX9_throwOver_80 : decode cX9_throwOver 80 = .ok (.iload 5, 2) := by decide +kernel
theorem dX9_throwOver_82 : decode cX9_throwOver 82 = .ok (.aload 4, 2) := by decide +kernel
theorem dX9_throwOver_84 : decode cX9_throwOver 84 = .ok (.iload 7, 2) := by decide +kernel
theorem dX9_throwOver_86 : decode cX9_throwOver 86 = .ok (.iaload, 1) := by decide +kernel
theorem dX9_throwOver_87 : decode cX9_throwOver 87 = .ok (.ifCond .le 16, 3) := by decide +kernel
theorem dX9_throwOver_90 : decode cX9_throwOver 90 = .ok (.aload_n 0, 1) := by decide +kernel
theorem dX9_throwOver_91 : decode cX9_throwOver 91 = .ok (.iload 7, 2) := by decide +kernel
theorem dX9_throwOver_93 : decode cX9_throwOver 93 = .ok (.invokevirtual 91, 3) := by decide +kernel
theorem dX9_throwOver_96 : decode cX9_throwOver 96 = .ok (.ifCond .eq 7, 3) := by decide +kernel
theorem dX9_throwOver_99 : decode cX9_throwOver 99 = .ok (.iconst 1, 1) := by decide +kernel
theorem dX9_throwOver_100 : decode cX9_throwOver 100 = .ok (.goto 4, 3) := by decide +kernel
theorem dX9_throwOver_103 : decode cX9_throwOver 103 = .ok (.iconst 0, 1) := by decide +kernel
theorem dX9_throwOver_104 : decode cX9_throwOver 104 = .ok (.ior, 1) := by decide +kernel
theorem dX9_throwOver_105 : decode cX9_throwOver 105 = .ok (.istore 5, 2) := by decide +kernel
theorem dX9_throwOver_107 : decode cX9_throwOver 107 = .ok (.iload 6, 2) := by decide +kernel
theorem dX9_throwOver_109 : decode cX9_throwOver 109 = .ok (.aload 4, 2) := by decide +kernel
theorem dX9_throwOver_111 : decode cX9_throwOver 111 = .ok (.iload 7, 2) := by decide +kernel
theorem dX9_throwOver_113 : decode cX9_throwOver 113 = .ok (.iaload, 1) := by decide +kernel
theorem dX9_throwOver_114 : decode cX9_throwOver 114 = .ok (.iadd, 1) := by decide +kernel
theorem dX9_throwOver_115 : decode cX9_throwOver 115 = .ok (.istore 6, 2) := by decide +kernel
theorem dX9_throwOver_117 : decode cX9_throwOver 117 = .ok (.iinc 7 1, 3) := by decide +kernel
theorem dX9_throwOver_120 : decode cX9_throwOver 120 = .ok (.goto (-54), 3) := by decide +kernel
theorem dX9_throwOver_123 : decode cX9_throwOver 123 = .ok (.aload_n 0, 1) := by decide +kernel
theorem dX9_throwOver_124 : decode cX9_throwOver 124 = .ok (.iload 5, 2) := by decide +kernel
theorem dX9_throwOver_126 : decode cX9_throwOver 126 = .ok (.ifCond .eq 7, 3) := by decide +kernel
theorem dX9_throwOver_129 : decode cX9_throwOver 129 = .ok (.iconst 3, 1) := by decide +kernel
theorem dX9_throwOver_130 : decode cX9_throwOver 130 = .ok (.goto 15, 3) := by decide +kernel
theorem dX9_throwOver_133 : decode cX9_throwOver 133 = .ok (.aload 4, 2) := by decide +kernel
theorem dX9_throwOver_135 : decode cX9_throwOver 135 = .ok (.iload_n 2, 1) := by decide +kernel
theorem dX9_throwOver_136 : decode cX9_throwOver 136 = .ok (.iaload, 1) := by decide +kernel
theorem dX9_throwOver_137 : decode cX9_throwOver 137 = .ok (.ifCond .ne 7, 3) := by decide +kernel
theorem dX9_throwOver_140 : decode cX9_throwOver 140 = .ok (.iconst 4, 1) := by decide +kernel
theorem dX9_throwOver_141 : decode cX9_throwOver 141 = .ok (.goto 4, 3) := by decide +kernel
theorem dX9_throwOver_144 : decode cX9_throwOver 144 = .ok (.iconst 0, 1) := by decide +kernel
theorem dX9_throwOver_145 : decode cX9_throwOver 145 = .ok (.invokevirtual 80, 3) := by decide +kernel
theorem dX9_throwOver_148 : decode cX9_throwOver 148 = .ok (.ifCond .eq 5, 3) := by decide +kernel
theorem dX9_throwOver_151 : decode cX9_throwOver 151 = .ok (.iconst 0, 1) := by decide +kernel
theorem dX9_throwOver_152 : decode cX9_throwOver 152 = .ok (.ireturn, 1) := by decide +kernel
theorem dX9_throwOver_153 : decode cX9_throwOver 153 = .ok (.bipush 6, 2) := by decide +kernel
theorem dX9_throwOver_155 : decode cX9_throwOver 155 = .ok (.newarray .int, 2) := by decide +kernel
theorem dX9_throwOver_157 : decode cX9_throwOver 157 = .ok (.astore 7, 2) := by decide +kernel
theorem dX9_throwOver_159 : decode cX9_throwOver 159 = .ok (.bipush 6, 2) := by decide +kernel
theorem dX9_throwOver_161 : decode cX9_throwOver 161 = .ok (.newarray .boolean, 2) := by decide +kernel
theorem dX9_throwOver_163 : decode cX9_throwOver 163 = .ok (.astore 8, 2) := by decide +kernel
theorem dX9_throwOver_165 : decode cX9_throwOver 165 = .ok (.iload_n 3, 1) := by decide +kernel
theorem dX9_throwOver_166 : decode cX9_throwOver 166 = .ok (.istore 9, 2) := by decide +kernel
theorem dX9_throwOver_168 : decode cX9_throwOver 168 = .ok (.iconst 0, 1) := by decide +kernel
theorem dX9_throwOver_169 : decode cX9_throwOver 169 = .ok (.istore 10, 2) := by decide +kernel
theorem dX9_throwOver_171 : decode cX9_throwOver 171 = .ok (.iload 10, 2) := by decide +kernel
theorem dX9_throwOver_173 : decode cX9_throwOver 173 = .ok (.bipush 6, 2) := by decide +kernel
theorem dX9_throwOver_175 : decode cX9_throwOver 175 = .ok (.if_icmp .ge 34, 3) := by decide +kernel
theorem dX9_throwOver_178 : decode cX9_throwOver 178 = .ok (.aload 7, 2) := by decide +kernel
theorem dX9_throwOver_180 : decode cX9_throwOver 180 = .ok (.iload 10, 2) := by decide +kernel
theorem dX9_throwOver_182 : decode cX9_throwOver 182 = .ok (.iload_n 3, 1) := by decide +kernel
theorem dX9_throwOver_183 : decode cX9_throwOver 183 = .ok (.aload 4, 2) := by decide +kernel
theorem dX9_throwOver_185 : decode cX9_throwOver 185 = .ok (.iload 10, 2) := by decide +kernel
theorem dX9_throwOver_187 : decode cX9_throwOver 187 = .ok (.iaload, 1) := by decide +kernel
theorem dX9_throwOver_188 : decode cX9_throwOver 188 = .ok (.imul, 1) := by decide +kernel
theorem dX9_throwOver_189 : decode cX9_throwOver 189 = .ok (.iload 6, 2) := by decide +kernel
theorem dX9_throwOver_191 : decode cX9_throwOver 191 = .ok (.idiv, 1) := by decide +kernel
theorem dX9_throwOver_192 : decode cX9_throwOver 192 = .ok (.iastore, 1) := by decide +kernel
theorem dX9_throwOver_193 : decode cX9_throwOver 193 = .ok (.iload 9, 2) := by decide +kernel
theorem dX9_throwOver_195 : decode cX9_throwOver 195 = .ok (.aload 7, 2) := by decide +kernel
theorem dX9_throwOver_197 : decode cX9_throwOver 197 = .ok (.iload 10, 2) := by decide +kernel
theorem dX9_throwOver_199 : decode cX9_throwOver 199 = .ok (.iaload, 1) := by decide +kernel
theorem dX9_throwOver_200 : decode cX9_throwOver 200 = .ok (.isub, 1) := by decide +kernel
theorem dX9_throwOver_201 : decode cX9_throwOver 201 = .ok (.istore 9, 2) := by decide +kernel
theorem dX9_throwOver_203 : decode cX9_throwOver 203 = .ok (.iinc 10 1, 3) := by decide +kernel
theorem dX9_throwOver_206 : decode cX9_throwOver 206 = .ok (.goto (-35), 3) := by decide +kernel
theorem dX9_throwOver_209 : decode cX9_throwOver 209 = .ok (.iload 9, 2) := by decide +kernel
theorem dX9_throwOver_211 : decode cX9_throwOver 211 = .ok (.ifCond .le 92, 3) := by decide +kernel
theorem dX9_throwOver_214 : decode cX9_throwOver 214 = .ok (.iconst (-1), 1) := by decide +kernel
theorem dX9_throwOver_215 : decode cX9_throwOver 215 = .ok (.istore 10, 2) := by decide +kernel
theorem dX9_throwOver_217 : decode cX9_throwOver 217 = .ok (.iconst 0, 1) := by decide +kernel
theorem dX9_throwOver_218 : decode cX9_throwOver 218 = .ok (.istore 11, 2) := by decide +kernel
theorem dX9_throwOver_220 : decode cX9_throwOver 220 = .ok (.iload 11, 2) := by decide +kernel
theorem dX9_throwOver_222 : decode cX9_throwOver 222 = .ok (.bipush 6, 2) := by decide +kernel
theorem dX9_throwOver_224 : decode cX9_throwOver 224 = .ok (.if_icmp .ge 58, 3) := by decide +kernel
theorem dX9_throwOver_227 : decode cX9_throwOver 227 = .ok (.aload 4, 2) := by decide +kernel
theorem dX9_throwOver_229 : decode cX9_throwOver 229 = .ok (.iload 11, 2) := by decide +kernel
theorem dX9_throwOver_231 : decode cX9_throwOver 231 = .ok (.iaload, 1) := by decide +kernel
theorem dX9_throwOver_232 : decode cX9_throwOver 232 = .ok (.ifCond .le 44, 3) := by decide +kernel
theorem dX9_throwOver_235 : decode cX9_throwOver 235 = .ok (.aload 8, 2) := by decide +kernel
theorem dX9_throwOver_237 : decode cX9_throwOver 237 = .ok (.iload 11, 2) := by decide +kernel
theorem dX9_throwOver_239 : decode cX9_throwOver 239 = .ok (.baload, 1) := by decide +kernel
theorem dX9_throwOver_240 : decode cX9_throwOver 240 = .ok (.ifCond .ne 36, 3) := by decide +kernel
theorem dX9_throwOver_243 : decode cX9_throwOver 243 = .ok (.iload 10, 2) := by decide +kernel
theorem dX9_throwOver_245 : decode cX9_throwOver 245 = .ok (.iconst (-1), 1) := by decide +kernel
theorem dX9_throwOver_246 : decode cX9_throwOver 246 = .ok (.if_icmp .eq 26, 3) := by decide +kernel
theorem dX9_throwOver_249 : decode cX9_throwOver 249 = .ok (.iload_n 3, 1) := by decide +kernel
theorem dX9_throwOver_250 : decode cX9_throwOver 250 = .ok (.aload 4, 2) := by decide +kernel
theorem dX9_throwOver_252 : decode cX9_throwOver 252 = .ok (.iload 11, 2) := by decide +kernel
theorem dX9_throwOver_254 : decode cX9_throwOver 254 = .ok (.iaload, 1) := by decide +kernel
theorem dX9_throwOver_255 : decode cX9_throwOver 255 = .ok (.imul, 1) := by decide +kernel
theorem dX9_throwOver_256 : decode cX9_throwOver 256 = .ok (.iload 6, 2) := by decide +kernel
theorem dX9_throwOver_258 : decode cX9_throwOver 258 = .ok (.irem, 1) := by decide +kernel
theorem dX9_throwOver_259 : decode cX9_throwOver 259 = .ok (.iload_n 3, 1) := by decide +kernel
theorem dX9_throwOver_260 : decode cX9_throwOver 260 = .ok (.aload 4, 2) := by decide +kernel
theorem dX9_throwOver_262 : decode cX9_throwOver 262 = .ok (.iload 10, 2) := by decide +kernel
theorem dX9_throwOver_264 : decode cX9_throwOver 264 = .ok (.iaload, 1) := by decide +kernel
theorem dX9_throwOver_265 : decode cX9_throwOver 265 = .ok (.imul, 1) := by decide +kernel
theorem dX9_throwOver_266 : decode cX9_throwOver 266 = .ok (.iload 6, 2) := by decide +kernel
theorem dX9_throwOver_268 : decode cX9_throwOver 268 = .ok (.irem, 1) := by decide +kernel
theorem dX9_throwOver_269 : decode cX9_throwOver 269 = .ok (.if_icmp .le 7, 3) := by decide +kernel
theorem dX9_throwOver_272 : decode cX9_throwOver 272 = .ok (.iload 11, 2) := by decide +kernel
theorem dX9_throwOver_274 : decode cX9_throwOver 274 = .ok (.istore 10, 2) := by decide +kernel
theorem dX9_throwOver_276 : decode cX9_throwOver 276 = .ok (.iinc 11 1, 3) := by decide +kernel
theorem dX9_throwOver_279 : decode cX9_throwOver 279 = .ok (.goto (-59), 3) := by decide +kernel
theorem dX9_throwOver_282 : decode cX9_throwOver 282 = .ok (.aload 8, 2) := by decide +kernel
theorem dX9_throwOver_284 : decode cX9_throwOver 284 = .ok (.iload 10, 2) := by decide +kernel
theorem dX9_throwOver_286 : decode cX9_throwOver 286 = .ok (.iconst 1, 1) := by decide +kernel
theorem dX9_throwOver_287 : decode cX9_throwOver 287 = .ok (.bastore, 1) := by decide +kernel
theorem dX9_throwOver_288 : decode cX9_throwOver 288 = .ok (.aload 7, 2) := by decide +kernel
theorem dX9_throwOver_290 : decode cX9_throwOver 290 = .ok (.iload 10, 2) := by decide +kernel
theorem dX9_throwOver_292 : decode cX9_throwOver 292 = .ok (.dup2, 1) := by decide +kernel
theorem dX9_throwOver_293 : decode cX9_throwOver 293 = .ok (.iaload, 1) := by decide +kernel
theorem dX9_throwOver_294 : decode cX9_throwOver 294 = .ok (.iconst 1, 1) := by decide +kernel
theorem dX9_throwOver_295 : decode cX9_throwOver 295 = .ok (.iadd, 1) := by decide +kernel
theorem dX9_throwOver_296 : decode cX9_throwOver 296 = .ok (.iastore, 1) := by decide +kernel
theorem dX9_throwOver_297 : decode cX9_throwOver 297 = .ok (.iinc 9 (-1), 3) := by decide +kernel
theorem dX9_throwOver_300 : decode cX9_throwOver 300 = .ok (.goto (-91), 3) := by decide +kernel
theorem dX9_throwOver_303 : decode cX9_throwOver 303 = .ok (.iconst 0, 1) := by decide +kernel
theorem dX9_throwOver_304 : decode cX9_throwOver 304 = .ok (.istore 10, 2) := by decide +kernel
theorem dX9_throwOver_306 : decode cX9_throwOver 306 = .ok (.iload 10, 2) := by decide +kernel
theorem dX9_throwOver_308 : decode cX9_throwOver 308 = .ok (.bipush 6, 2) := by decide +kernel
theorem dX9_throwOver_310 : decode cX9_throwOver 310 = .ok (.if_icmp .ge 36, 3) := by decide +kernel
theorem dX9_throwOver_313 : decode cX9_throwOver 313 = .ok (.aload_n 0, 1) := by decide +kernel
theorem dX9_throwOver_314 : decode cX9_throwOver 314 = .ok (.getfield 35, 3) := by decide +kernel
theorem dX9_throwOver_317 : decode cX9_throwOver 317 = .ok (.iload_n 2, 1) := by decide +kernel
theorem dX9_throwOver_318 : decode cX9_throwOver 318 = .ok (.aaload, 1) := by decide +kernel
theorem dX9_throwOver_319 : decode cX9_throwOver 319 = .ok (.iload 10, 2) := by decide +kernel
theorem dX9_throwOver_321 : decode cX9_throwOver 321 = .ok (.dup2, 1) := by decide +kernel
theorem dX9_throwOver_322 : decode cX9_throwOver 322 = .ok (.iaload, 1) := by decide +kernel
theorem dX9_throwOver_323 : decode cX9_throwOver 323 = .ok (.iload 10, 2) := by decide +kernel
theorem dX9_throwOver_325 : decode cX9_throwOver 325 = .ok (.iload_n 2, 1) := by decide +kernel
theorem dX9_throwOver_326 : decode cX9_throwOver 326 = .ok (.if_icmp .ne 7, 3) := by decide +kernel
theorem dX9_throwOver_329 : decode cX9_throwOver 329 = .ok (.iconst 0, 1) := by decide +kernel
theorem dX9_throwOver_330 : decode cX9_throwOver 330 = .ok (.goto 8, 3) := by decide +kernel
theorem dX9_throwOver_333 : decode cX9_throwOver 333 = .ok (.aload 7, 2) := by decide +kernel
theorem dX9_throwOver_335 : decode cX9_throwOver 335 = .ok (.iload 10, 2) := by decide +kernel
theorem dX9_throwOver_337 : decode cX9_throwOver 337 = .ok (.iaload, 1) := by decide +kernel
theorem dX9_throwOver_338 : decode cX9_throwOver 338 = .ok (.iadd, 1) := by decide +kernel
theorem dX9_throwOver_339 : decode cX9_throwOver 339 = .ok (.iastore, 1) := by decide +kernel
theorem dX9_throwOver_340 : decode cX9_throwOver 340 = .ok (.iinc 10 1, 3) := by decide +kernel
theorem dX9_throwOver_343 : decode cX9_throwOver 343 = .ok (.goto (-37), 3) := by decide +kernel
theorem dX9_throwOver_346 : decode cX9_throwOver 346 = .ok (.aload 7, 2) := by decide +kernel
theorem dX9_throwOver_348 : decode cX9_throwOver 348 = .ok (.iload_n 2, 1) := by decide +kernel
theorem dX9_throwOver_349 : decode cX9_throwOver 349 = .ok (.iaload, 1) := by decide +kernel
theorem dX9_throwOver_350 : decode cX9_throwOver 350 = .ok (.ireturn, 1) := by decide +kernel
theorem dX9_coins_0 : decode cX9_coins 0 = .ok (.aload_n 0, 1) := by decide +kernel
theorem dX9_coins_1 : decode cX9_coins 1 = .ok (.aload_n 0, 1) := by decide +kernel
theorem dX9_coins_2 : decode cX9_coins 2 = .ok (.iload_n 1, 1) := by decide +kernel
theorem dX9_coins_3 : decode cX9_coins 3 = .ok (.invokevirtual 84, 3) := by decide +kernel
theorem dX9_coins_6 : decode cX9_coins 6 = .ok (.ifCond .ne 7, 3) := by decide +kernel
theorem dX9_coins_9 : decode cX9_coins 9 = .ok (.iconst 1, 1) := by decide +kernel
theorem dX9_coins_10 : decode cX9_coins 10 = .ok (.goto 15, 3) := by decide +kernel
theorem dX9_coins_13 : decode cX9_coins 13 = .ok (.iload_n 2, 1) := by decide +kernel
theorem dX9_coins_14 : decode cX9_coins 14 = .ok (.invokestatic 87, 3) := by decide +kernel
theorem dX9_coins_17 : decode cX9_coins 17 = .ok (.ifCond .ne 7, 3) := by decide +kernel
theorem dX9_coins_20 : decode cX9_coins 20 = .ok (.iconst 2, 1) := by decide +kernel
theorem dX9_coins_21 : decode cX9_coins 21 = .ok (.goto 4, 3) := by decide +kernel
theorem dX9_coins_24 : decode cX9_coins 24 = .ok (.iconst 0, 1) := by decide +kernel
theorem dX9_coins_25 : decode cX9_coins 25 = .ok (.invokevirtual 80, 3) := by decide +kernel
theorem dX9_coins_28 : decode cX9_coins 28 = .ok (.ifCond .eq 5, 3) := by decide +kernel
theorem dX9_coins_31 : decode cX9_coins 31 = .ok (.iconst 0, 1) := by decide +kernel
theorem dX9_coins_32 : decode cX9_coins 32 = .ok (.ireturn, 1) := by decide +kernel
theorem dX9_coins_33 : decode cX9_coins 33 = .ok (.iconst 0, 1) := by decide +kernel
theorem dX9_coins_34 : decode cX9_coins 34 = .ok (.istore_n 3, 1) := by decide +kernel
theorem dX9_coins_35 : decode cX9_coins 35 = .ok (.aload_n 0, 1) := by decide +kernel
theorem dX9_coins_36 : decode cX9_coins 36 = .ok (.getfield 32, 3) := by decide +kernel
theorem dX9_coins_39 : decode cX9_coins 39 = .ok (.invokeinterface 122 1, 5) := by decide +kernel
theorem dX9_coins_44 : decode cX9_coins 44 = .ok (.astore 4, 2) := by decide +kernel
theorem dX9_coins_46 : decode cX9_coins 46 = .ok (.aload 4, 2) := by decide +kernel
theorem dX9_coins_48 : decode cX9_coins 48 = .ok (.invokeinterface 126 1, 5) := by decide +kernel
theorem dX9_coins_53 : decode cX9_coins 53 = .ok (.ifCond .eq 49, 3) := by decide +kernel
theorem dX9_coins_56 : decode cX9_coins 56 = .ok (.aload 4, 2) := by decide +kernel
theorem dX9_coins_58 : decode cX9_coins 58 = .ok (.invokeinterface 132 1, 5) := by decide +kernel
theorem dX9_coins_63 : decode cX9_coins 63 = .ok (.checkcast 94, 3) := by decide +kernel
theorem dX9_coins_66 : decode cX9_coins 66 = .ok (.astore 5, 2) := by decide +kernel
theorem dX9_coins_68 : decode cX9_coins 68 = .ok (.iload_n 3, 1) := by decide +kernel
theorem dX9_coins_69 : decode cX9_coins 69 = .ok (.aload 5, 2) := by decide +kernel
theorem dX9_coins_71 : decode cX9_coins 71 = .ok (.getfield 112, 3) := by decide +kernel
theorem dX9_coins_74 : decode cX9_coins 74 = .ok (.iload_n 1, 1) := by decide +kernel
theorem dX9_coins_75 : decode cX9_coins 75 = .ok (.if_icmp .ne 21, 3) := by decide +kernel
theorem dX9_coins_78 : decode cX9_coins 78 = .ok (.aload 5, 2) := by decide +kernel
theorem dX9_coins_80 : decode cX9_coins 80 = .ok (.getfield 115, 3) := by decide +kernel
theorem dX9_coins_83 : decode cX9_coins 83 = .ok (.ldc 72, 2) := by decide +kernel
theorem dX9_coins_85 : decode cX9_coins 85 = .ok (.iload_n 2, 1) := by decide +kernel
theorem dX9_coins_86 : decode cX9_coins 86 = .ok (.invokevirtual 74, 3) := by decide +kernel
theorem dX9_coins_89 : decode cX9_coins 89 = .ok (.if_icmp .ne 7, 3) := by decide +kernel
theorem dX9_coins_92 : decode cX9_coins 92 = .ok (.iconst 1, 1) := by decide +kernel
theorem dX9_coins_93 : decode cX9_coins 93 = .ok (.goto 4, 3) := by decide +kernel
theorem dX9_coins_96 : decode cX9_coins 96 = .ok (.iconst 0, 1) := by decide +kernel
theorem dX9_coins_97 : decode cX9_coins 97 = .ok (.iadd, 1) := by decide +kernel
theorem dX9_coins_98 : decode cX9_coins 98 = .ok (.istore_n 3, 1) := by decide +kernel
theorem dX9_coins_99 : decode cX9_coins 99 = .ok (.goto (-53), 3) := by decide +kernel
theorem dX9_coins_102 : decode cX9_coins 102 = .ok (.iload_n 3, 1) := by decide +kernel
theorem dX9_coins_103 : decode cX9_coins 103 = .ok (.ireturn, 1) := by decide +kernel
theorem dX9_weightOf_0 : decode cX9_weightOf 0 = .ok (.aload_n 0, 1) := by decide +kernel
theorem dX9_weightOf_1 : decode cX9_weightOf 1 = .ok (.aload_n 0, 1) := by decide +kernel
theorem dX9_weightOf_2 : decode cX9_weightOf 2 = .ok (.iload_n 1, 1) := by decide +kernel
theorem dX9_weightOf_3 : decode cX9_weightOf 3 = .ok (.invokevirtual 106, 3) := by decide +kernel
theorem dX9_weightOf_6 : decode cX9_weightOf 6 = .ok (.ifCond .eq 7, 3) := by decide +kernel
theorem dX9_weightOf_9 : decode cX9_weightOf 9 = .ok (.iconst 0, 1) := by decide +kernel
theorem dX9_weightOf_10 : decode cX9_weightOf 10 = .ok (.goto 4, 3) := by decide +kernel
theorem dX9_weightOf_13 : decode cX9_weightOf 13 = .ok (.iconst 1, 1) := by decide +kernel
theorem dX9_weightOf_14 : decode cX9_weightOf 14 = .ok (.invokevirtual 80, 3) := by decide +kernel
theorem dX9_weightOf_17 : decode cX9_weightOf 17 = .ok (.ifCond .eq 7, 3) := by decide +kernel
theorem dX9_weightOf_20 : decode cX9_weightOf 20 = .ok (.iconst 0, 1) := by decide +kernel
theorem dX9_weightOf_21 : decode cX9_weightOf 21 = .ok (.goto 19, 3) := by decide +kernel
theorem dX9_weightOf_24 : decode cX9_weightOf 24 = .ok (.aload_n 0, 1) := by decide +kernel
theorem dX9_weightOf_25 : decode cX9_weightOf 25 = .ok (.getfield 32, 3) := by decide +kernel
theorem dX9_weightOf_28 : decode cX9_weightOf 28 = .ok (.iload_n 1, 1) := by decide +kernel
theorem dX9_weightOf_29 : decode cX9_weightOf 29 = .ok (.invokeinterface 64 2, 5) := by decide +kernel
theorem dX9_weightOf_34 : decode cX9_weightOf 34 = .ok (.checkcast 94, 3) := by decide +kernel
theorem dX9_weightOf_37 : decode cX9_weightOf 37 = .ok (.getfield 103, 3) := by decide +kernel
theorem dX9_weightOf_40 : decode cX9_weightOf 40 = .ok (.ireturn, 1) := by decide +kernel
theorem dX9_ownerOf_0 : decode cX9_ownerOf 0 = .ok (.aload_n 0, 1) := by decide +kernel
theorem dX9_ownerOf_1 : decode cX9_ownerOf 1 = .ok (.aload_n 0, 1) := by decide +kernel
theorem dX9_ownerOf_2 : decode cX9_ownerOf 2 = .ok (.iload_n 1, 1) := by decide +kernel
theorem dX9_ownerOf_3 : decode cX9_ownerOf 3 = .ok (.invokevirtual 106, 3) := by decide +kernel
theorem dX9_ownerOf_6 : decode cX9_ownerOf 6 = .ok (.ifCond .eq 7, 3) := by decide +kernel
theorem dX9_ownerOf_9 : decode cX9_ownerOf 9 = .ok (.iconst 0, 1) := by decide +kernel
theorem dX9_ownerOf_10 : decode cX9_ownerOf 10 = .ok (.goto 4, 3) := by decide +kernel
theorem dX9_ownerOf_13 : decode cX9_ownerOf 13 = .ok (.iconst 1, 1) := by decide +kernel
theorem dX9_ownerOf_14 : decode cX9_ownerOf 14 = .ok (.invokevirtual 80, 3) := by decide +kernel
theorem dX9_ownerOf_17 : decode cX9_ownerOf 17 = .ok (.ifCond .eq 7, 3) := by decide +kernel
theorem dX9_ownerOf_20 : decode cX9_ownerOf 20 = .ok (.iconst 0, 1) := by decide +kernel
theorem dX9_ownerOf_21 : decode cX9_ownerOf 21 = .ok (.goto 19, 3) := by decide +kernel
theorem dX9_ownerOf_24 : decode cX9_ownerOf 24 = .ok (.aload_n 0, 1) := by decide +kernel
theorem dX9_ownerOf_25 : decode cX9_ownerOf 25 = .ok (.getfield 32, 3) := by decide +kernel
theorem dX9_ownerOf_28 : decode cX9_ownerOf 28 = .ok (.iload_n 1, 1) := by decide +kernel
theorem dX9_ownerOf_29 : decode cX9_ownerOf 29 = .ok (.invokeinterface 64 2, 5) := by decide +kernel
theorem dX9_ownerOf_34 : decode cX9_ownerOf 34 = .ok (.checkcast 94, 3) := by decide +kernel
theorem dX9_ownerOf_37 : decode cX9_ownerOf 37 = .ok (.getfield 112, 3) := by decide +kernel
theorem dX9_ownerOf_40 : decode cX9_ownerOf 40 = .ok (.ireturn, 1) := by decide +kernel
theorem dX9_owners_0 : decode cX9_owners 0 = .ok (.aload_n 0, 1) := by decide +kernel
theorem dX9_owners_1 : decode cX9_owners 1 = .ok (.aload_n 0, 1) := by decide +kernel
theorem dX9_owners_2 : decode cX9_owners 2 = .ok (.iload_n 1, 1) := by decide +kernel
theorem dX9_owners_3 : decode cX9_owners 3 = .ok (.invokevirtual 106, 3) := by decide +kernel
theorem dX9_owners_6 : decode cX9_owners 6 = .ok (.ifCond .eq 7, 3) := by decide +kernel
theorem dX9_owners_9 : decode cX9_owners 9 = .ok (.iconst 0, 1) := by decide +kernel
theorem dX9_owners_10 : decode cX9_owners 10 = .ok (.goto 4, 3) := by decide +kernel
theorem dX9_owners_13 : decode cX9_owners 13 = .ok (.iconst 1, 1) := by decide +kernel
theorem dX9_owners_14 : decode cX9_owners 14 = .ok (.invokevirtual 80, 3) := by decide +kernel
theorem dX9_owners_17 : decode cX9_owners 17 = .ok (.ifCond .eq 7, 3) := by decide +kernel
theorem dX9_owners_20 : decode cX9_owners 20 = .ok (.iconst 0, 1) := by decide +kernel
theorem dX9_owners_21 : decode cX9_owners 21 = .ok (.goto 19, 3) := by decide +kernel
theorem dX9_owners_24 : decode cX9_owners 24 = .ok (.aload_n 0, 1) := by decide +kernel
theorem dX9_owners_25 : decode cX9_owners 25 = .ok (.getfield 32, 3) := by decide +kernel
theorem dX9_owners_28 : decode cX9_owners 28 = .ok (.iload_n 1, 1) := by decide +kernel
theorem dX9_owners_29 : decode cX9_owners 29 = .ok (.invokeinterface 64 2, 5) := by decide +kernel
theorem dX9_owners_34 : decode cX9_owners 34 = .ok (.checkcast 94, 3) := by decide +kernel
theorem dX9_owners_37 : decode cX9_owners 37 = .ok (.getfield 227, 3) := by decide +kernel
theorem dX9_owners_40 : decode cX9_owners 40 = .ok (.ireturn, 1) := by decide +kernel
theorem dX9_ore_0 : decode cX9_ore 0 = .ok (.aload_n 0, 1) := by decide +kernel
theorem dX9_ore_1 : decode cX9_ore 1 = .ok (.aload_n 0, 1) := by decide +kernel
theorem dX9_ore_2 : decode cX9_ore 2 = .ok (.iload_n 1, 1) := by decide +kernel
theorem dX9_ore_3 : decode cX9_ore 3 = .ok (.invokevirtual 84, 3) := by decide +kernel
theorem dX9_ore_6 : decode cX9_ore 6 = .ok (.ifCond .ne 7, 3) := by decide +kernel
theorem dX9_ore_9 : decode cX9_ore 9 = .ok (.iconst 1, 1) := by decide +kernel
theorem dX9_ore_10 : decode cX9_ore 10 = .ok (.goto 15, 3) := by decide +kernel
theorem dX9_ore_13 : decode cX9_ore 13 = .ok (.iload_n 2, 1) := by decide +kernel
theorem dX9_ore_14 : decode cX9_ore 14 = .ok (.invokestatic 87, 3) := by decide +kernel
theorem dX9_ore_17 : decode cX9_ore 17 = .ok (.ifCond .ne 7, 3) := by decide +kernel
theorem dX9_ore_20 : decode cX9_ore 20 = .ok (.iconst 2, 1) := by decide +kernel
theorem dX9_ore_21 : decode cX9_ore 21 = .ok (.goto 4, 3) := by decide +kernel
theorem dX9_ore_24 : decode cX9_ore 24 = .ok (.iconst 0, 1) := by decide +kernel
theorem dX9_ore_25 : decode cX9_ore 25 = .ok (.invokevirtual 80, 3) := by decide +kernel
theorem dX9_ore_28 : decode cX9_ore 28 = .ok (.ifCond .eq 7, 3) := by decide +kernel
theorem dX9_ore_31 : decode cX9_ore 31 = .ok (.iconst 0, 1) := by decide +kernel
theorem dX9_ore_32 : decode cX9_ore 32 = .ok (.goto 16, 3) := by decide +kernel
theorem dX9_ore_35 : decode cX9_ore 35 = .ok (.aload_n 0, 1) := by decide +kernel
theorem dX9_ore_36 : decode cX9_ore 36 = .ok (.getfield 29, 3) := by decide +kernel
theorem dX9_ore_39 : decode cX9_ore 39 = .ok (.iload_n 1, 1) := by decide +kernel
theorem dX9_ore_40 : decode cX9_ore 40 = .ok (.aaload, 1) := by decide +kernel
theorem dX9_ore_41 : decode cX9_ore 41 = .ok (.ldc 72, 2) := by decide +kernel
theorem dX9_ore_43 : decode cX9_ore 43 = .ok (.iload_n 2, 1) := by decide +kernel
theorem dX9_ore_44 : decode cX9_ore 44 = .ok (.invokevirtual 74, 3) := by decide +kernel
theorem dX9_ore_47 : decode cX9_ore 47 = .ok (.iaload, 1) := by decide +kernel
theorem dX9_ore_48 : decode cX9_ore 48 = .ok (.ireturn, 1) := by decide +kernel
theorem dX9_wealth_0 : decode cX9_wealth 0 = .ok (.aload_n 0, 1) := by decide +kernel
theorem dX9_wealth_1 : decode cX9_wealth 1 = .ok (.aload_n 0, 1) := by decide +kernel
theorem dX9_wealth_2 : decode cX9_wealth 2 = .ok (.iload_n 1, 1) := by decide +kernel
theorem dX9_wealth_3 : decode cX9_wealth 3 = .ok (.invokevirtual 84, 3) := by decide +kernel
theorem dX9_wealth_6 : decode cX9_wealth 6 = .ok (.ifCond .eq 7, 3) := by decide +kernel
theorem dX9_wealth_9 : decode cX9_wealth 9 = .ok (.iconst 0, 1) := by decide +kernel
theorem dX9_wealth_10 : decode cX9_wealth 10 = .ok (.goto 4, 3) := by decide +kernel
theorem dX9_wealth_13 : decode cX9_wealth 13 = .ok (.iconst 1, 1) := by decide +kernel
theorem dX9_wealth_14 : decode cX9_wealth 14 = .ok (.invokevirtual 80, 3) := by decide +kernel
theorem dX9_wealth_17 : decode cX9_wealth 17 = .ok (.ifCond .eq 5, 3) := by decide +kernel
theorem dX9_wealth_20 : decode cX9_wealth 20 = .ok (.lconst 0, 1) := by decide +kernel
theorem dX9_wealth_21 : decode cX9_wealth 21 = .ok (.lreturn, 1) := by decide +kernel
theorem dX9_wealth_22 : decode cX9_wealth 22 = .ok (.lconst 0, 1) := by decide +kernel
theorem dX9_wealth_23 : decode cX9_wealth 23 = .ok (.lstore_n 2, 1) := by decide +kernel
theorem dX9_wealth_24 : decode cX9_wealth 24 = .ok (.aload_n 0, 1) := by decide +kernel
theorem dX9_wealth_25 : decode cX9_wealth 25 = .ok (.getfield 32, 3) := by decide +kernel
theorem dX9_wealth_28 : decode cX9_wealth 28 = .ok (.invokeinterface 122 1, 5) := by decide +kernel
theorem dX9_wealth_33 : decode cX9_wealth 33 = .ok (.astore 4, 2) := by decide +kernel
theorem dX9_wealth_35 : decode cX9_wealth 35 = .ok (.aload 4, 2) := by decide +kernel
theorem dX9_wealth_37 : decode cX9_wealth 37 = .ok (.invokeinterface 126 1, 5) := by decide +kernel
theorem dX9_wealth_42 : decode cX9_wealth 42 = .ok (.ifCond .eq 45, 3) := by decide +kernel
theorem dX9_wealth_45 : decode cX9_wealth 45 = .ok (.aload 4, 2) := by decide +kernel
theorem dX9_wealth_47 : decode cX9_wealth 47 = .ok (.invokeinterface 132 1, 5) := by decide +kernel
theorem dX9_wealth_52 : decode cX9_wealth 52 = .ok (.checkcast 94, 3) := by decide +kernel
theorem dX9_wealth_55 : decode cX9_wealth 55 = .ok (.astore 5, 2) := by decide +kernel
theorem dX9_wealth_57 : decode cX9_wealth 57 = .ok (.lload_n 2, 1) := by decide +kernel
theorem dX9_wealth_58 : decode cX9_wealth 58 = .ok (.aload 5, 2) := by decide +kernel
theorem dX9_wealth_60 : decode cX9_wealth 60 = .ok (.getfield 112, 3) := by decide +kernel
theorem dX9_wealth_63 : decode cX9_wealth 63 = .ok (.iload_n 1, 1) := by decide +kernel
theorem dX9_wealth_64 : decode cX9_wealth 64 = .ok (.if_icmp .ne 17, 3) := by decide +kernel
theorem dX9_wealth_67 : decode cX9_wealth 67 = .ok (.aload_n 0, 1) := by decide +kernel
theorem dX9_wealth_68 : decode cX9_wealth 68 = .ok (.getfield 20, 3) := by decide +kernel
theorem dX9_wealth_71 : decode cX9_wealth 71 = .ok (.aload 5, 2) := by decide +kernel
theorem dX9_wealth_73 : decode cX9_wealth 73 = .ok (.getfield 115, 3) := by decide +kernel
theorem dX9_wealth_76 : decode cX9_wealth 76 = .ok (.iaload, 1) := by decide +kernel
theorem dX9_wealth_77 : decode cX9_wealth 77 = .ok (.i2l, 1) := by decide +kernel
theorem dX9_wealth_78 : decode cX9_wealth 78 = .ok (.goto 4, 3) := by decide +kernel
theorem dX9_wealth_81 : decode cX9_wealth 81 = .ok (.lconst 0, 1) := by decide +kernel
theorem dX9_wealth_82 : decode cX9_wealth 82 = .ok (.ladd, 1) := by decide +kernel
theorem dX9_wealth_83 : decode cX9_wealth 83 = .ok (.lstore_n 2, 1) := by decide +kernel
theorem dX9_wealth_84 : decode cX9_wealth 84 = .ok (.goto (-49), 3) := by decide +kernel
theorem dX9_wealth_87 : decode cX9_wealth 87 = .ok (.iconst 0, 1) := by decide +kernel
theorem dX9_wealth_88 : decode cX9_wealth 88 = .ok (.istore 4, 2) := by decide +kernel
theorem dX9_wealth_90 : decode cX9_wealth 90 = .ok (.iload 4, 2) := by decide +kernel
theorem dX9_wealth_92 : decode cX9_wealth 92 = .ok (.bipush 6, 2) := by decide +kernel
theorem dX9_wealth_94 : decode cX9_wealth 94 = .ok (.if_icmp .ge 33, 3) := by decide +kernel
theorem dX9_wealth_97 : decode cX9_wealth 97 = .ok (.lload_n 2, 1) := by decide +kernel
theorem dX9_wealth_98 : decode cX9_wealth 98 = .ok (.aload_n 0, 1) := by decide +kernel
theorem dX9_wealth_99 : decode cX9_wealth 99 = .ok (.getfield 35, 3) := by decide +kernel
theorem dX9_wealth_102 : decode cX9_wealth 102 = .ok (.iload_n 1, 1) := by decide +kernel
theorem dX9_wealth_103 : decode cX9_wealth 103 = .ok (.aaload, 1) := by decide +kernel
theorem dX9_wealth_104 : decode cX9_wealth 104 = .ok (.iload 4, 2) := by decide +kernel
theorem dX9_wealth_106 : decode cX9_wealth 106 = .ok (.iaload, 1) := by decide +kernel
theorem dX9_wealth_107 : decode cX9_wealth 107 = .ok (.i2l, 1) := by decide +kernel
theorem dX9_wealth_108 : decode cX9_wealth 108 = .ok (.aload_n 0, 1) := by decide +kernel
theorem dX9_wealth_109 : decode cX9_wealth 109 = .ok (.getfield 35, 3) := by decide +kernel
theorem dX9_wealth_112 : decode cX9_wealth 112 = .ok (.iload 4, 2) := by decide +kernel
theorem dX9_wealth_114 : decode cX9_wealth 114 = .ok (.aaload, 1) := by decide +kernel
theorem dX9_wealth_115 : decode cX9_wealth 115 = .ok (.iload_n 1, 1) := by decide +kernel
theorem dX9_wealth_116 : decode cX9_wealth 116 = .ok (.iaload, 1) := by decide +kernel
theorem dX9_wealth_117 : decode cX9_wealth 117 = .ok (.i2l, 1) := by decide +kernel
theorem dX9_wealth_118 : decode cX9_wealth 118 = .ok (.lsub, 1) := by decide +kernel
theorem dX9_wealth_119 : decode cX9_wealth 119 = .ok (.ladd, 1) := by decide +kernel
theorem dX9_wealth_120 : decode cX9_wealth 120 = .ok (.lstore_n 2, 1) := by decide +kernel
theorem dX9_wealth_121 : decode cX9_wealth 121 = .ok (.iinc 4 1, 3) := by decide +kernel
theorem dX9_wealth_124 : decode cX9_wealth 124 = .ok (.goto (-34), 3) := by decide +kernel
theorem dX9_wealth_127 : decode cX9_wealth 127 = .ok (.lload_n 2, 1) := by decide +kernel
theorem dX9_wealth_128 : decode cX9_wealth 128 = .ok (.lreturn, 1) := by decide +kernel
theorem dX9_lost_0 : decode cX9_lost 0 = .ok (.aload_n 0, 1) := by decide +kernel
theorem dX9_lost_1 : decode cX9_lost 1 = .ok (.iconst 0, 1) := by decide +kernel
theorem dX9_lost_2 : decode cX9_lost 2 = .ok (.putfield 1, 3) := by decide +kernel
theorem dX9_lost_5 : decode cX9_lost 5 = .ok (.aload_n 0, 1) := by decide +kernel
theorem dX9_lost_6 : decode cX9_lost 6 = .ok (.getfield 178, 3) := by decide +kernel
theorem dX9_lost_9 : decode cX9_lost 9 = .ok (.lreturn, 1) := by decide +kernel
theorem dX9_lightShare_0 : decode cX9_lightShare 0 = .ok (.iconst 0, 1) := by decide +kernel
theorem dX9_lightShare_1 : decode cX9_lightShare 1 = .ok (.istore_n 1, 1) := by decide +kernel
theorem dX9_lightShare_2 : decode cX9_lightShare 2 = .ok (.iconst 0, 1) := by decide +kernel
theorem dX9_lightShare_3 : decode cX9_lightShare 3 = .ok (.istore_n 2, 1) := by decide +kernel
theorem dX9_lightShare_4 : decode cX9_lightShare 4 = .ok (.aload_n 0, 1) := by decide +kernel
theorem dX9_lightShare_5 : decode cX9_lightShare 5 = .ok (.getfield 32, 3) := by decide +kernel
theorem dX9_lightShare_8 : decode cX9_lightShare 8 = .ok (.invokeinterface 122 1, 5) := by decide +kernel
theorem dX9_lightShare_13 : decode cX9_lightShare 13 = .ok (.astore_n 3, 1) := by decide +kernel
theorem dX9_lightShare_14 : decode cX9_lightShare 14 = .ok (.aload_n 3, 1) := by decide +kernel
theorem dX9_lightShare_15 : decode cX9_lightShare 15 = .ok (.invokeinterface 126 1, 5) := by decide +kernel
theorem dX9_lightShare_20 : decode cX9_lightShare 20 = .ok (.ifCond .eq 67, 3) := by decide +kernel
theorem dX9_lightShare_23 : decode cX9_lightShare 23 = .ok (.aload_n 3, 1) := by decide +kernel
theorem dX9_lightShare_24 : decode cX9_lightShare 24 = .ok (.invokeinterface 132 1, 5) := by decide +kernel
theorem dX9_lightShare_29 : decode cX9_lightShare 29 = .ok (.checkcast 94, 3) := by decide +kernel
theorem dX9_lightShare_32 : decode cX9_lightShare 32 = .ok (.astore 4, 2) := by decide +kernel
theorem dX9_lightShare_34 : decode cX9_lightShare 34 = .ok (.iload_n 1, 1) := by decide +kernel
theorem dX9_lightShare_35 : decode cX9_lightShare 35 = .ok (.aload 4, 2) := by decide +kernel
theorem dX9_lightShare_37 : decode cX9_lightShare 37 = .ok (.getfield 103, 3) := by decide +kernel
theorem dX9_lightShare_40 : decode cX9_lightShare 40 = .ok (.ifCond .le 7, 3) := by decide +kernel
theorem dX9_lightShare_43 : decode cX9_lightShare 43 = .ok (.iconst 1, 1) := by decide +kernel
theorem dX9_lightShare_44 : decode cX9_lightShare 44 = .ok (.goto 4, 3) := by decide +kernel
theorem dX9_lightShare_47 : decode cX9_lightShare 47 = .ok (.iconst 0, 1) := by decide +kernel
theorem dX9_lightShare_48 : decode cX9_lightShare 48 = .ok (.iadd, 1) := by decide +kernel
theorem dX9_lightShare_49 : decode cX9_lightShare 49 = .ok (.istore_n 1, 1) := by decide +kernel
theorem dX9_lightShare_50 : decode cX9_lightShare 50 = .ok (.iload_n 2, 1) := by decide +kernel
theorem dX9_lightShare_51 : decode cX9_lightShare 51 = .ok (.aload 4, 2) := by decide +kernel
theorem dX9_lightShare_53 : decode cX9_lightShare 53 = .ok (.getfield 103, 3) := by decide +kernel
theorem dX9_lightShare_56 : decode cX9_lightShare 56 = .ok (.ifCond .le 25, 3) := by decide +kernel
theorem dX9_lightShare_59 : decode cX9_lightShare 59 = .ok (.aload 4, 2) := by decide +kernel
theorem dX9_lightShare_61 : decode cX9_lightShare 61 = .ok (.getfield 103, 3) := by decide +kernel
theorem dX9_lightShare_64 : decode cX9_lightShare 64 = .ok (.aload_n 0, 1) := by decide +kernel
theorem dX9_lightShare_65 : decode cX9_lightShare 65 = .ok (.getfield 24, 3) := by decide +kernel
theorem dX9_lightShare_68 : decode cX9_lightShare 68 = .ok (.aload 4, 2) := by decide +kernel
theorem dX9_lightShare_70 : decode cX9_lightShare 70 = .ok (.getfield 115, 3) := by decide +kernel
theorem dX9_lightShare_73 : decode cX9_lightShare 73 = .ok (.iaload, 1) := by decide +kernel
theorem dX9_lightShare_74 : decode cX9_lightShare 74 = .ok (.if_icmp .ge 7, 3) := by decide +kernel
theorem dX9_lightShare_77 : decode cX9_lightShare 77 = .ok (.iconst 1, 1) := by decide +kernel
theorem dX9_lightShare_78 : decode cX9_lightShare 78 = .ok (.goto 4, 3) := by decide +kernel
theorem dX9_lightShare_81 : decode cX9_lightShare 81 = .ok (.iconst 0, 1) := by decide +kernel
theorem dX9_lightShare_82 : decode cX9_lightShare 82 = .ok (.iadd, 1) := by decide +kernel
theorem dX9_lightShare_83 : decode cX9_lightShare 83 = .ok (.istore_n 2, 1) := by decide +kernel
theorem dX9_lightShare_84 : decode cX9_lightShare 84 = .ok (.goto (-70), 3) := by decide +kernel
theorem dX9_lightShare_87 : decode cX9_lightShare 87 = .ok (.aload_n 0, 1) := by decide +kernel
theorem dX9_lightShare_88 : decode cX9_lightShare 88 = .ok (.iload_n 1, 1) := by decide +kernel
theorem dX9_lightShare_89 : decode cX9_lightShare 89 = .ok (.ifCond .ne 7, 3) := by decide +kernel
theorem dX9_lightShare_92 : decode cX9_lightShare 92 = .ok (.iconst 1, 1) := by decide +kernel
theorem dX9_lightShare_93 : decode cX9_lightShare 93 = .ok (.goto 4, 3) := by decide +kernel
theorem dX9_lightShare_96 : decode cX9_lightShare 96 = .ok (.iconst 0, 1) := by decide +kernel
theorem dX9_lightShare_97 : decode cX9_lightShare 97 = .ok (.invokevirtual 80, 3) := by decide +kernel
theorem dX9_lightShare_100 : decode cX9_lightShare 100 = .ok (.ifCond .eq 7, 3) := by decide +kernel
theorem dX9_lightShare_103 : decode cX9_lightShare 103 = .ok (.fconst 0, 1) := by decide +kernel
theorem dX9_lightShare_104 : decode cX9_lightShare 104 = .ok (.goto 8, 3) := by decide +kernel
theorem dX9_lightShare_107 : decode cX9_lightShare 107 = .ok (.iload_n 2, 1) := by decide +kernel
theorem dX9_lightShare_108 : decode cX9_lightShare 108 = .ok (.i2f, 1) := by decide +kernel
theorem dX9_lightShare_109 : decode cX9_lightShare 109 = .ok (.iload_n 1, 1) := by decide +kernel
theorem dX9_lightShare_110 : decode cX9_lightShare 110 = .ok (.i2f, 1) := by decide +kernel
theorem dX9_lightShare_111 : decode cX9_lightShare 111 = .ok (.fdiv, 1) := by decide +kernel
theorem dX9_lightShare_112 : decode cX9_lightShare 112 = .ok (.freturn, 1) := by decide +kernel
theorem dX9_meanWeight_0 : decode cX9_meanWeight 0 = .ok (.iconst 0, 1) := by decide +kernel
theorem dX9_meanWeight_1 : decode cX9_meanWeight 1 = .ok (.istore_n 1, 1) := by decide +kernel
theorem dX9_meanWeight_2 : decode cX9_meanWeight 2 = .ok (.iconst 0, 1) := by decide +kernel
theorem dX9_meanWeight_3 : decode cX9_meanWeight 3 = .ok (.istore_n 2, 1) := by decide +kernel
theorem dX9_meanWeight_4 : decode cX9_meanWeight 4 = .ok (.aload_n 0, 1) := by decide +kernel
theorem dX9_meanWeight_5 : decode cX9_meanWeight 5 = .ok (.getfield 32, 3) := by decide +kernel
theorem dX9_meanWeight_8 : decode cX9_meanWeight 8 = .ok (.invokeinterface 122 1, 5) := by decide +kernel
theorem dX9_meanWeight_13 : decode cX9_meanWeight 13 = .ok (.astore_n 3, 1) := by decide +kernel
theorem dX9_meanWeight_14 : decode cX9_meanWeight 14 = .ok (.aload_n 3, 1) := by decide +kernel
theorem dX9_meanWeight_15 : decode cX9_meanWeight 15 = .ok (.invokeinterface 126 1, 5) := by decide +kernel
theorem dX9_meanWeight_20 : decode cX9_meanWeight 20 = .ok (.ifCond .eq 41, 3) := by decide +kernel
theorem dX9_meanWeight_23 : decode cX9_meanWeight 23 = .ok (.aload_n 3, 1) := by decide +kernel
theorem dX9_meanWeight_24 : decode cX9_meanWeight 24 = .ok (.invokeinterface 132 1, 5) := by decide +kernel
theorem dX9_meanWeight_29 : decode cX9_meanWeight 29 = .ok (.checkcast 94, 3) := by decide +kernel
theorem dX9_meanWeight_32 : decode cX9_meanWeight 32 = .ok (.astore 4, 2) := by decide +kernel
theorem dX9_meanWeight_34 : decode cX9_meanWeight 34 = .ok (.iload_n 1, 1) := by decide +kernel
theorem dX9_meanWeight_35 : decode cX9_meanWeight 35 = .ok (.aload 4, 2) := by decide +kernel
theorem dX9_meanWeight_37 : decode cX9_meanWeight 37 = .ok (.getfield 103, 3) := by decide +kernel
theorem dX9_meanWeight_40 : decode cX9_meanWeight 40 = .ok (.ifCond .le 7, 3) := by decide +kernel
theorem dX9_meanWeight_43 : decode cX9_meanWeight 43 = .ok (.iconst 1, 1) := by decide +kernel
theorem dX9_meanWeight_44 : decode cX9_meanWeight 44 = .ok (.goto 4, 3) := by decide +kernel
theorem dX9_meanWeight_47 : decode cX9_meanWeight 47 = .ok (.iconst 0, 1) := by decide +kernel
theorem dX9_meanWeight_48 : decode cX9_meanWeight 48 = .ok (.iadd, 1) := by decide +kernel
theorem dX9_meanWeight_49 : decode cX9_meanWeight 49 = .ok (.istore_n 1, 1) := by decide +kernel
theorem dX9_meanWeight_50 : decode cX9_meanWeight 50 = .ok (.iload_n 2, 1) := by decide +kernel
theorem dX9_meanWeight_51 : decode cX9_meanWeight 51 = .ok (.aload 4, 2) := by decide +kernel
theorem dX9_meanWeight_53 : decode cX9_meanWeight 53 = .ok (.getfield 103, 3) := by decide +kernel
theorem dX9_meanWeight_56 : decode cX9_meanWeight 56 = .ok (.iadd, 1) := by decide +kernel
theorem dX9_meanWeight_57 : decode cX9_meanWeight 57 = .ok (.istore_n 2, 1) := by decide +kernel
theorem dX9_meanWeight_58 : decode cX9_meanWeight 58 = .ok (.goto (-44), 3) := by decide +kernel
theorem dX9_meanWeight_61 : decode cX9_meanWeight 61 = .ok (.aload_n 0, 1) := by decide +kernel
theorem dX9_meanWeight_62 : decode cX9_meanWeight 62 = .ok (.iload_n 1, 1) := by decide +kernel
theorem dX9_meanWeight_63 : decode cX9_meanWeight 63 = .ok (.ifCond .ne 7, 3) := by decide +kernel
theorem dX9_meanWeight_66 : decode cX9_meanWeight 66 = .ok (.iconst 1, 1) := by decide +kernel
theorem dX9_meanWeight_67 : decode cX9_meanWeight 67 = .ok (.goto 4, 3) := by decide +kernel
theorem dX9_meanWeight_70 : decode cX9_meanWeight 70 = .ok (.iconst 0, 1) := by decide +kernel
theorem dX9_meanWeight_71 : decode cX9_meanWeight 71 = .ok (.invokevirtual 80, 3) := by decide +kernel
theorem dX9_meanWeight_74 : decode cX9_meanWeight 74 = .ok (.ifCond .eq 7, 3) := by decide +kernel
theorem dX9_meanWeight_77 : decode cX9_meanWeight 77 = .ok (.dconst 0, 1) := by decide +kernel
theorem dX9_meanWeight_78 : decode cX9_meanWeight 78 = .ok (.goto 8, 3) := by decide +kernel
theorem dX9_meanWeight_81 : decode cX9_meanWeight 81 = .ok (.iload_n 2, 1) := by decide +kernel
theorem dX9_meanWeight_82 : decode cX9_meanWeight 82 = .ok (.i2d, 1) := by decide +kernel
theorem dX9_meanWeight_83 : decode cX9_meanWeight 83 = .ok (.iload_n 1, 1) := by decide +kernel
theorem dX9_meanWeight_84 : decode cX9_meanWeight 84 = .ok (.i2d, 1) := by decide +kernel
theorem dX9_meanWeight_85 : decode cX9_meanWeight 85 = .ok (.ddiv, 1) := by decide +kernel
theorem dX9_meanWeight_86 : decode cX9_meanWeight 86 = .ok (.dreturn, 1) := by decide +kernel
theorem dX9_isSound_0 : decode cX9_isSound 0 = .ok (.aload_n 0, 1) := by decide +kernel
theorem dX9_isSound_1 : decode cX9_isSound 1 = .ok (.iconst 0, 1) := by decide +kernel
theorem dX9_isSound_2 : decode cX9_isSound 2 = .ok (.putfield 1, 3) := by decide +kernel
theorem dX9_isSound_5 : decode cX9_isSound 5 = .ok (.iconst 1, 1) := by decide +kernel
theorem dX9_isSound_6 : decode cX9_isSound 6 = .ok (.ireturn, 1) := by decide +kernel
theorem dJ11_valueOf_f0083_0 : decode cJ11_valueOf_f0083 0 = .ok (.iload_n 0, 1) := by decide +kernel
theorem dJ11_valueOf_f0083_1 : decode cJ11_valueOf_f0083 1 = .ok (.bipush 127, 2) := by decide +kernel
theorem dJ11_valueOf_f0083_3 : decode cJ11_valueOf_f0083 3 = .ok (.if_icmp .gt 9, 3) := by decide +kernel
theorem dJ11_valueOf_f0083_6 : decode cJ11_valueOf_f0083 6 = .ok (.getstatic 47, 3) := by decide +kernel
theorem dJ11_valueOf_f0083_9 : decode cJ11_valueOf_f0083 9 = .ok (.iload_n 0, 1) := by decide +kernel
theorem dJ11_valueOf_f0083_10 : decode cJ11_valueOf_f0083 10 = .ok (.aaload, 1) := by decide +kernel
theorem dJ11_valueOf_f0083_11 : decode cJ11_valueOf_f0083 11 = .ok (.areturn, 1) := by decide +kernel
theorem dJ11_valueOf_f0083_12 : decode cJ11_valueOf_f0083 12 = .ok (.new 1, 3) := by decide +kernel
theorem dJ11_valueOf_f0083_15 : decode cJ11_valueOf_f0083 15 = .ok (.dup, 1) := by decide +kernel
theorem dJ11_valueOf_f0083_16 : decode cJ11_valueOf_f0083 16 = .ok (.iload_n 0, 1) := by decide +kernel
theorem dJ11_valueOf_f0083_17 : decode cJ11_valueOf_f0083 17 = .ok (.invokespecial 53, 3) := by decide +kernel
theorem dJ11_valueOf_f0083_20 : decode cJ11_valueOf_f0083 20 = .ok (.areturn, 1) := by decide +kernel
theorem dJ11_charValue_ee9a4_0 : decode cJ11_charValue_ee9a4 0 = .ok (.aload_n 0, 1) := by decide +kernel
theorem dJ11_charValue_ee9a4_1 : decode cJ11_charValue_ee9a4 1 = .ok (.getfield 19, 3) := by decide +kernel
theorem dJ11_charValue_ee9a4_4 : decode cJ11_charValue_ee9a4 4 = .ok (.ireturn, 1) := by decide +kernel
theorem dJ6_valueOf_2dffe_0 : decode cJ6_valueOf_2dffe 0 = .ok (.iload_n 0, 1) := by decide +kernel
theorem dJ6_valueOf_2dffe_1 : decode cJ6_valueOf_2dffe 1 = .ok (.bipush (-128), 2) := by decide +kernel
theorem dJ6_valueOf_2dffe_3 : decode cJ6_valueOf_2dffe 3 = .ok (.if_icmp .lt 20, 3) := by decide +kernel
theorem dJ6_valueOf_2dffe_6 : decode cJ6_valueOf_2dffe 6 = .ok (.iload_n 0, 1) := by decide +kernel
theorem dJ6_valueOf_2dffe_7 : decode cJ6_valueOf_2dffe 7 = .ok (.getstatic 191, 3) := by decide +kernel
theorem dJ6_valueOf_2dffe_10 : decode cJ6_valueOf_2dffe 10 = .ok (.if_icmp .gt 13, 3) := by decide +kernel
theorem dJ6_valueOf_2dffe_13 : decode cJ6_valueOf_2dffe 13 = .ok (.getstatic 195, 3) := by decide +kernel
theorem dJ6_valueOf_2dffe_16 : decode cJ6_valueOf_2dffe 16 = .ok (.iload_n 0, 1) := by decide +kernel
theorem dJ6_valueOf_2dffe_17 : decode cJ6_valueOf_2dffe 17 = .ok (.sipush 128, 3) := by decide +kernel
theorem dJ6_valueOf_2dffe_20 : decode cJ6_valueOf_2dffe 20 = .ok (.iadd, 1) := by decide +kernel
theorem dJ6_valueOf_2dffe_21 : decode cJ6_valueOf_2dffe 21 = .ok (.aaload, 1) := by decide +kernel
theorem dJ6_valueOf_2dffe_22 : decode cJ6_valueOf_2dffe 22 = .ok (.areturn, 1) := by decide +kernel
theorem dJ6_valueOf_2dffe_23 : decode cJ6_valueOf_2dffe 23 = .ok (.new 1, 3) := by decide +kernel
theorem dJ6_valueOf_2dffe_26 : decode cJ6_valueOf_2dffe 26 = .ok (.dup, 1) := by decide +kernel
theorem dJ6_valueOf_2dffe_27 : decode cJ6_valueOf_2dffe 27 = .ok (.iload_n 0, 1) := by decide +kernel
theorem dJ6_valueOf_2dffe_28 : decode cJ6_valueOf_2dffe 28 = .ok (.invokespecial 199, 3) := by decide +kernel
theorem dJ6_valueOf_2dffe_31 : decode cJ6_valueOf_2dffe 31 = .ok (.areturn, 1) := by decide +kernel
theorem dJ6_intValue_8abf5_0 : decode cJ6_intValue_8abf5 0 = .ok (.aload_n 0, 1) := by decide +kernel
theorem dJ6_intValue_8abf5_1 : decode cJ6_intValue_8abf5 1 = .ok (.getfield 205, 3) := by decide +kernel
theorem dJ6_intValue_8abf5_4 : decode cJ6_intValue_8abf5 4 = .ok (.ireturn, 1) := by decide +kernel
theorem dJ9_max_7cf53_0 : decode cJ9_max_7cf53 0 = .ok (.iload_n 0, 1) := by decide +kernel
theorem dJ9_max_7cf53_1 : decode cJ9_max_7cf53 1 = .ok (.iload_n 1, 1) := by decide +kernel
theorem dJ9_max_7cf53_2 : decode cJ9_max_7cf53 2 = .ok (.if_icmp .lt 7, 3) := by decide +kernel
theorem dJ9_max_7cf53_5 : decode cJ9_max_7cf53 5 = .ok (.iload_n 0, 1) := by decide +kernel
theorem dJ9_max_7cf53_6 : decode cJ9_max_7cf53 6 = .ok (.goto 4, 3) := by decide +kernel
theorem dJ9_max_7cf53_9 : decode cJ9_max_7cf53 9 = .ok (.iload_n 1, 1) := by decide +kernel
theorem dJ9_max_7cf53_10 : decode cJ9_max_7cf53 10 = .ok (.ireturn, 1) := by decide +kernel
theorem dJ9_min_7cf53_0 : decode cJ9_min_7cf53 0 = .ok (.iload_n 0, 1) := by decide +kernel
theorem dJ9_min_7cf53_1 : decode cJ9_min_7cf53 1 = .ok (.iload_n 1, 1) := by decide +kernel
theorem dJ9_min_7cf53_2 : decode cJ9_min_7cf53 2 = .ok (.if_icmp .gt 7, 3) := by decide +kernel
theorem dJ9_min_7cf53_5 : decode cJ9_min_7cf53 5 = .ok (.iload_n 0, 1) := by decide +kernel
theorem dJ9_min_7cf53_6 : decode cJ9_min_7cf53 6 = .ok (.goto 4, 3) := by decide +kernel
theorem dJ9_min_7cf53_9 : decode cJ9_min_7cf53 9 = .ok (.iload_n 1, 1) := by decide +kernel
theorem dJ9_min_7cf53_10 : decode cJ9_min_7cf53 10 = .ok (.ireturn, 1) := by decide +kernel
theorem dJ0_indexOf_0f7a4_0 : decode cJ0_indexOf_0f7a4 0 = .ok (.aload_n 0, 1) := by decide +kernel
theorem dJ0_indexOf_0f7a4_1 : decode cJ0_indexOf_0f7a4 1 = .ok (.iload_n 1, 1) := by decide +kernel
theorem dJ0_indexOf_0f7a4_2 : decode cJ0_indexOf_0f7a4 2 = .ok (.iconst 0, 1) := by decide +kernel
theorem dJ0_indexOf_0f7a4_3 : decode cJ0_indexOf_0f7a4 3 = .ok (.invokevirtual 633, 3) := by decide +kernel
theorem dJ0_indexOf_0f7a4_6 : decode cJ0_indexOf_0f7a4 6 = .ok (.ireturn, 1) := by decide +kernel
theorem dJ0_indexOf_7cf53_0 : decode cJ0_indexOf_7cf53 0 = .ok (.aload_n 0, 1) := by decide +kernel
theorem dJ0_indexOf_7cf53_1 : decode cJ0_indexOf_7cf53 1 = .ok (.invokevirtual 492, 3) := by decide +kernel
theorem dJ0_indexOf_7cf53_4 : decode cJ0_indexOf_7cf53 4 = .ok (.ifCond .eq 19, 3) := by decide +kernel
theorem dJ0_indexOf_7cf53_7 : decode cJ0_indexOf_7cf53 7 = .ok (.aload_n 0, 1) := by decide +kernel
theorem dJ0_indexOf_7cf53_8 : decode cJ0_indexOf_7cf53 8 = .ok (.getfield 9, 3) := by decide +kernel
theorem dJ0_indexOf_7cf53_11 : decode cJ0_indexOf_7cf53 11 = .ok (.iload_n 1, 1) := by decide +kernel
theorem dJ0_indexOf_7cf53_12 : decode cJ0_indexOf_7cf53 12 = .ok (.iload_n 2, 1) := by decide +kernel
theorem dJ0_indexOf_7cf53_13 : decode cJ0_indexOf_7cf53 13 = .ok (.aload_n 0, 1) := by decide +kernel
theorem dJ0_indexOf_7cf53_14 : decode cJ0_indexOf_7cf53 14 = .ok (.invokevirtual 505, 3) := by decide +kernel
theorem dJ0_indexOf_7cf53_17 : decode cJ0_indexOf_7cf53 17 = .ok (.invokestatic 637, 3) := by decide +kernel
theorem dJ0_indexOf_7cf53_20 : decode cJ0_indexOf_7cf53 20 = .ok (.goto 16, 3) := by decide +kernel
theorem dJ0_indexOf_7cf53_23 : decode cJ0_indexOf_7cf53 23 = .ok (.aload_n 0, 1) := by decide +kernel
theorem dJ0_indexOf_7cf53_24 : decode cJ0_indexOf_7cf53 24 = .ok (.getfield 9, 3) := by decide +kernel
theorem dJ0_indexOf_7cf53_27 : decode cJ0_indexOf_7cf53 27 = .ok (.iload_n 1, 1) := by decide +kernel
theorem dJ0_indexOf_7cf53_28 : decode cJ0_indexOf_7cf53 28 = .ok (.iload_n 2, 1) := by decide +kernel
theorem dJ0_indexOf_7cf53_29 : decode cJ0_indexOf_7cf53 29 = .ok (.aload_n 0, 1) := by decide +kernel
theorem dJ0_indexOf_7cf53_30 : decode cJ0_indexOf_7cf53 30 = .ok (.invokevirtual 505, 3) := by decide +kernel
theorem dJ0_indexOf_7cf53_33 : decode cJ0_indexOf_7cf53 33 = .ok (.invokestatic 640, 3) := by decide +kernel
theorem dJ0_indexOf_7cf53_36 : decode cJ0_indexOf_7cf53 36 = .ok (.ireturn, 1) := by decide +kernel
theorem dJ0_coder_7d493_0 : decode cJ0_coder_7d493 0 = .ok (.getstatic 38, 3) := by decide +kernel
theorem dJ0_coder_7d493_3 : decode cJ0_coder_7d493 3 = .ok (.ifCond .eq 10, 3) := by decide +kernel
theorem dJ0_coder_7d493_6 : decode cJ0_coder_7d493 6 = .ok (.aload_n 0, 1) := by decide +kernel
theorem dJ0_coder_7d493_7 : decode cJ0_coder_7d493 7 = .ok (.getfield 15, 3) := by decide +kernel
theorem dJ0_coder_7d493_10 : decode cJ0_coder_7d493 10 = .ok (.goto 4, 3) := by decide +kernel
theorem dJ0_coder_7d493_13 : decode cJ0_coder_7d493 13 = .ok (.iconst 1, 1) := by decide +kernel
theorem dJ0_coder_7d493_14 : decode cJ0_coder_7d493 14 = .ok (.ireturn, 1) := by decide +kernel
theorem dJ0_isLatin1_aae02_0 : decode cJ0_isLatin1_aae02 0 = .ok (.getstatic 38, 3) := by decide +kernel
theorem dJ0_isLatin1_aae02_3 : decode cJ0_isLatin1_aae02 3 = .ok (.ifCond .eq 14, 3) := by decide +kernel
theorem dJ0_isLatin1_aae02_6 : decode cJ0_isLatin1_aae02 6 = .ok (.aload_n 0, 1) := by decide +kernel
theorem dJ0_isLatin1_aae02_7 : decode cJ0_isLatin1_aae02 7 = .ok (.getfield 15, 3) := by decide +kernel
theorem dJ0_isLatin1_aae02_10 : decode cJ0_isLatin1_aae02 10 = .ok (.ifCond .ne 7, 3) := by decide +kernel
theorem dJ0_isLatin1_aae02_13 : decode cJ0_isLatin1_aae02 13 = .ok (.iconst 1, 1) := by decide +kernel
theorem dJ0_isLatin1_aae02_14 : decode cJ0_isLatin1_aae02 14 = .ok (.goto 4, 3) := by decide +kernel
theorem dJ0_isLatin1_aae02_17 : decode cJ0_isLatin1_aae02 17 = .ok (.iconst 0, 1) := by decide +kernel
theorem dJ0_isLatin1_aae02_18 : decode cJ0_isLatin1_aae02 18 = .ok (.ireturn, 1) := by decide +kernel
theorem dJ1_canEncode_9a6ad_0 : decode cJ1_canEncode_9a6ad 0 = .ok (.iload_n 0, 1) := by decide +kernel
theorem dJ1_canEncode_9a6ad_1 : decode cJ1_canEncode_9a6ad 1 = .ok (.ifCond .lt 14, 3) := by decide +kernel
theorem dJ1_canEncode_9a6ad_4 : decode cJ1_canEncode_9a6ad 4 = .ok (.iload_n 0, 1) := by decide +kernel
theorem dJ1_canEncode_9a6ad_5 : decode cJ1_canEncode_9a6ad 5 = .ok (.sipush 255, 3) := by decide +kernel
theorem dJ1_canEncode_9a6ad_8 : decode cJ1_canEncode_9a6ad 8 = .ok (.if_icmp .gt 7, 3) := by decide +kernel
theorem dJ1_canEncode_9a6ad_11 : decode cJ1_canEncode_9a6ad 11 = .ok (.iconst 1, 1) := by decide +kernel
theorem dJ1_canEncode_9a6ad_12 : decode cJ1_canEncode_9a6ad 12 = .ok (.goto 4, 3) := by decide +kernel
theorem dJ1_canEncode_9a6ad_15 : decode cJ1_canEncode_9a6ad 15 = .ok (.iconst 0, 1) := by decide +kernel
theorem dJ1_canEncode_9a6ad_16 : decode cJ1_canEncode_9a6ad 16 = .ok (.ireturn, 1) := by decide +kernel
theorem dJ1_indexOf_4cfef_0 : decode cJ1_indexOf_4cfef 0 = .ok (.iload_n 1, 1) := by decide +kernel
theorem dJ1_indexOf_4cfef_1 : decode cJ1_indexOf_4cfef 1 = .ok (.invokestatic 88, 3) := by decide +kernel
theorem dJ1_indexOf_4cfef_4 : decode cJ1_indexOf_4cfef 4 = .ok (.ifCond .ne 5, 3) := by decide +kernel
theorem dJ1_indexOf_4cfef_7 : decode cJ1_indexOf_4cfef 7 = .ok (.iconst (-1), 1) := by decide +kernel
theorem dJ1_indexOf_4cfef_8 : decode cJ1_indexOf_4cfef 8 = .ok (.ireturn, 1) := by decide +kernel
theorem dJ1_indexOf_4cfef_9 : decode cJ1_indexOf_4cfef 9 = .ok (.iload_n 2, 1) := by decide +kernel
theorem dJ1_indexOf_4cfef_10 : decode cJ1_indexOf_4cfef 10 = .ok (.iconst 0, 1) := by decide +kernel
theorem dJ1_indexOf_4cfef_11 : decode cJ1_indexOf_4cfef 11 = .ok (.invokestatic 92, 3) := by decide +kernel
theorem dJ1_indexOf_4cfef_14 : decode cJ1_indexOf_4cfef 14 = .ok (.istore_n 2, 1) := by decide +kernel
theorem dJ1_indexOf_4cfef_15 : decode cJ1_indexOf_4cfef 15 = .ok (.iload_n 3, 1) := by decide +kernel
theorem dJ1_indexOf_4cfef_16 : decode cJ1_indexOf_4cfef 16 = .ok (.aload_n 0, 1) := by decide +kernel
theorem dJ1_indexOf_4cfef_17 : decode cJ1_indexOf_4cfef 17 = .ok (.arraylength, 1) := by decide +kernel
theorem dJ1_indexOf_4cfef_18 : decode cJ1_indexOf_4cfef 18 = .ok (.invokestatic 38, 3) := by decide +kernel
theorem dJ1_indexOf_4cfef_21 : decode cJ1_indexOf_4cfef 21 = .ok (.istore_n 3, 1) := by decide +kernel
theorem dJ1_indexOf_4cfef_22 : decode cJ1_indexOf_4cfef 22 = .ok (.iload_n 2, 1) := by decide +kernel
theorem dJ1_indexOf_4cfef_23 : decode cJ1_indexOf_4cfef 23 = .ok (.iload_n 3, 1) := by decide +kernel
theorem dJ1_indexOf_4cfef_24 : decode cJ1_indexOf_4cfef 24 = .ok (.if_icmp .lt 5, 3) := by decide +kernel
theorem dJ1_indexOf_4cfef_27 : decode cJ1_indexOf_4cfef 27 = .ok (.iconst (-1), 1) := by decide +kernel
theorem dJ1_indexOf_4cfef_28 : decode cJ1_indexOf_4cfef 28 = .ok (.ireturn, 1) := by decide +kernel
theorem dJ1_indexOf_4cfef_29 : decode cJ1_indexOf_4cfef 29 = .ok (.aload_n 0, 1) := by decide +kernel
theorem dJ1_indexOf_4cfef_30 : decode cJ1_indexOf_4cfef 30 = .ok (.iload_n 1, 1) := by decide +kernel
theorem dJ1_indexOf_4cfef_31 : decode cJ1_indexOf_4cfef 31 = .ok (.iload_n 2, 1) := by decide +kernel
theorem dJ1_indexOf_4cfef_32 : decode cJ1_indexOf_4cfef 32 = .ok (.iload_n 3, 1) := by decide +kernel
theorem dJ1_indexOf_4cfef_33 : decode cJ1_indexOf_4cfef 33 = .ok (.invokestatic 95, 3) := by decide +kernel
theorem dJ1_indexOf_4cfef_36 : decode cJ1_indexOf_4cfef 36 = .ok (.ireturn, 1) := by decide +kernel
theorem dJ1_indexOfChar_4cfef_0 : decode cJ1_indexOfChar_4cfef 0 = .ok (.iload_n 1, 1) := by decide +kernel
theorem dJ1_indexOfChar_4cfef_1 : decode cJ1_indexOfChar_4cfef 1 = .ok (.i2b, 1) := by decide +kernel
theorem dJ1_indexOfChar_4cfef_2 : decode cJ1_indexOfChar_4cfef 2 = .ok (.istore 4, 2) := by decide +kernel
theorem dJ1_indexOfChar_4cfef_4 : decode cJ1_indexOfChar_4cfef 4 = .ok (.iload_n 2, 1) := by decide +kernel
theorem dJ1_indexOfChar_4cfef_5 : decode cJ1_indexOfChar_4cfef 5 = .ok (.istore 5, 2) := by decide +kernel
theorem dJ1_indexOfChar_4cfef_7 : decode cJ1_indexOfChar_4cfef 7 = .ok (.iload 5, 2) := by decide +kernel
theorem dJ1_indexOfChar_4cfef_9 : decode cJ1_indexOfChar_4cfef 9 = .ok (.iload_n 3, 1) := by decide +kernel
theorem dJ1_indexOfChar_4cfef_10 : decode cJ1_indexOfChar_4cfef 10 = .ok (.if_icmp .ge 21, 3) := by decide +kernel
theorem dJ1_indexOfChar_4cfef_13 : decode cJ1_indexOfChar_4cfef 13 = .ok (.aload_n 0, 1) := by decide +kernel
theorem dJ1_indexOfChar_4cfef_14 : decode cJ1_indexOfChar_4cfef 14 = .ok (.iload 5, 2) := by decide +kernel
theorem dJ1_indexOfChar_4cfef_16 : decode cJ1_indexOfChar_4cfef 16 = .ok (.baload, 1) := by decide +kernel
theorem dJ1_indexOfChar_4cfef_17 : decode cJ1_indexOfChar_4cfef 17 = .ok (.iload 4, 2) := by decide +kernel
theorem dJ1_indexOfChar_4cfef_19 : decode cJ1_indexOfChar_4cfef 19 = .ok (.if_icmp .ne 6, 3) := by decide +kernel
theorem dJ1_indexOfChar_4cfef_22 : decode cJ1_indexOfChar_4cfef 22 = .ok (.iload 5, 2) := by decide +kernel
theorem dJ1_indexOfChar_4cfef_24 : decode cJ1_indexOfChar_4cfef 24 = .ok (.ireturn, 1) := by decide +kernel
theorem dJ1_indexOfChar_4cfef_25 : decode cJ1_indexOfChar_4cfef 25 = .ok (.iinc 5 1, 3) := by decide +kernel
theorem dJ1_indexOfChar_4cfef_28 : decode cJ1_indexOfChar_4cfef 28 = .ok (.goto (-21), 3) := by decide +kernel
theorem dJ1_indexOfChar_4cfef_31 : decode cJ1_indexOfChar_4cfef 31 = .ok (.iconst (-1), 1) := by decide +kernel
theorem dJ1_indexOfChar_4cfef_32 : decode cJ1_indexOfChar_4cfef 32 = .ok (.ireturn, 1) := by decide +kernel
theorem dJxa1e45_init_da8c8_0 : decode cJxa1e45_init_da8c8 0 = .ok (.aload_n 0, 1) := by decide +kernel
theorem dJxa1e45_init_da8c8_1 : decode cJxa1e45_init_da8c8 1 = .ok (.invokespecial 1, 3) := by decide +kernel
theorem dJxa1e45_init_da8c8_4 : decode cJxa1e45_init_da8c8 4 = .ok (.return_, 1) := by decide +kernel
theorem dJxc12de_init_da8c8_0 : decode cJxc12de_init_da8c8 0 = .ok (.aload_n 0, 1) := by decide +kernel
theorem dJxc12de_init_da8c8_1 : decode cJxc12de_init_da8c8 1 = .ok (.invokespecial 1, 3) := by decide +kernel
theorem dJxc12de_init_da8c8_4 : decode cJxc12de_init_da8c8 4 = .ok (.aload_n 0, 1) := by decide +kernel
theorem dJxc12de_init_da8c8_5 : decode cJxc12de_init_da8c8 5 = .ok (.iconst 0, 1) := by decide +kernel
theorem dJxc12de_init_da8c8_6 : decode cJxc12de_init_da8c8 6 = .ok (.putfield 7, 3) := by decide +kernel
theorem dJxc12de_init_da8c8_9 : decode cJxc12de_init_da8c8 9 = .ok (.return_, 1) := by decide +kernel
theorem dJx35411_init_45d68_0 : decode cJx35411_init_45d68 0 = .ok (.aload_n 0, 1) := by decide +kernel
theorem dJx35411_init_45d68_1 : decode cJx35411_init_45d68 1 = .ok (.aload_n 1, 1) := by decide +kernel
theorem dJx35411_init_45d68_2 : decode cJx35411_init_45d68 2 = .ok (.putfield 1, 3) := by decide +kernel
theorem dJx35411_init_45d68_5 : decode cJx35411_init_45d68 5 = .ok (.aload_n 0, 1) := by decide +kernel
theorem dJx35411_init_45d68_6 : decode cJx35411_init_45d68 6 = .ok (.invokespecial 7, 3) := by decide +kernel
theorem dJx35411_init_45d68_9 : decode cJx35411_init_45d68 9 = .ok (.aload_n 0, 1) := by decide +kernel
theorem dJx35411_init_45d68_10 : decode cJx35411_init_45d68 10 = .ok (.iconst (-1), 1) := by decide +kernel
theorem dJx35411_init_45d68_11 : decode cJx35411_init_45d68 11 = .ok (.putfield 13, 3) := by decide +kernel
theorem dJx35411_init_45d68_14 : decode cJx35411_init_45d68 14 = .ok (.aload_n 0, 1) := by decide +kernel
theorem dJx35411_init_45d68_15 : decode cJx35411_init_45d68 15 = .ok (.aload_n 0, 1) := by decide +kernel
theorem dJx35411_init_45d68_16 : decode cJx35411_init_45d68 16 = .ok (.getfield 1, 3) := by decide +kernel
theorem dJx35411_init_45d68_19 : decode cJx35411_init_45d68 19 = .ok (.getfield 17, 3) := by decide +kernel
theorem dJx35411_init_45d68_22 : decode cJx35411_init_45d68 22 = .ok (.putfield 22, 3) := by decide +kernel
theorem dJx35411_init_45d68_25 : decode cJx35411_init_45d68 25 = .ok (.return_, 1) := by decide +kernel
theorem dJx35411_hasNext_aae02_0 : decode cJx35411_hasNext_aae02 0 = .ok (.aload_n 0, 1) := by decide +kernel
theorem dJx35411_hasNext_aae02_1 : decode cJx35411_hasNext_aae02 1 = .ok (.getfield 25, 3) := by decide +kernel
theorem dJx35411_hasNext_aae02_4 : decode cJx35411_hasNext_aae02 4 = .ok (.aload_n 0, 1) := by decide +kernel
theorem dJx35411_hasNext_aae02_5 : decode cJx35411_hasNext_aae02 5 = .ok (.getfield 1, 3) := by decide +kernel
theorem dJx35411_hasNext_aae02_8 : decode cJx35411_hasNext_aae02 8 = .ok (.getfield 28, 3) := by decide +kernel
theorem dJx35411_hasNext_aae02_11 : decode cJx35411_hasNext_aae02 11 = .ok (.if_icmp .eq 7, 3) := by decide +kernel
theorem dJx35411_hasNext_aae02_14 : decode cJx35411_hasNext_aae02 14 = .ok (.iconst 1, 1) := by decide +kernel
theorem dJx35411_hasNext_aae02_15 : decode cJx35411_hasNext_aae02 15 = .ok (.goto 4, 3) := by decide +kernel
theorem dJx35411_hasNext_aae02_18 : decode cJx35411_hasNext_aae02 18 = .ok (.iconst 0, 1) := by decide +kernel
theorem dJx35411_hasNext_aae02_19 : decode cJx35411_hasNext_aae02 19 = .ok (.ireturn, 1) := by decide +kernel
theorem dJx35411_next_0502b_0 : decode cJx35411_next_0502b 0 = .ok (.aload_n 0, 1) := by decide +kernel
theorem dJx35411_next_0502b_1 : decode cJx35411_next_0502b 1 = .ok (.invokevirtual 31, 3) := by decide +kernel
theorem dJx35411_next_0502b_4 : decode cJx35411_next_0502b 4 = .ok (.aload_n 0, 1) := by decide +kernel
theorem dJx35411_next_0502b_5 : decode cJx35411_next_0502b 5 = .ok (.getfield 25, 3) := by decide +kernel
theorem dJx35411_next_0502b_8 : decode cJx35411_next_0502b 8 = .ok (.istore_n 1, 1) := by decide +kernel
theorem dJx35411_next_0502b_9 : decode cJx35411_next_0502b 9 = .ok (.iload_n 1, 1) := by decide +kernel
theorem dJx35411_next_0502b_10 : decode cJx35411_next_0502b 10 = .ok (.aload_n 0, 1) := by decide +kernel
theorem dJx35411_next_0502b_11 : decode cJx35411_next_0502b 11 = .ok (.getfield 1, 3) := by decide +kernel
theorem dJx35411_next_0502b_14 : decode cJx35411_next_0502b 14 = .ok (.getfield 28, 3) := by decide +kernel
theorem dJx35411_next_0502b_17 : decode cJx35411_next_0502b 17 = .ok (.if_icmp .lt 11, 3) := by decide +kernel
theorem dJx35411_next_0502b_20 : decode cJx35411_next_0502b 20 = .ok (.new 34, 3) := by decide +kernel
theorem dJx35411_next_0502b_23 : decode cJx35411_next_0502b 23 = .ok (.dup, 1) := by decide +kernel
theorem dJx35411_next_0502b_24 : decode cJx35411_next_0502b 24 = .ok (.invokespecial 36, 3) := by decide +kernel
theorem dJx35411_next_0502b_27 : decode cJx35411_next_0502b 27 = .ok (.athrow, 1) := by decide +kernel
theorem dJx35411_next_0502b_28 : decode cJx35411_next_0502b 28 = .ok (.aload_n 0, 1) := by decide +kernel
theorem dJx35411_next_0502b_29 : decode cJx35411_next_0502b 29 = .ok (.getfield 1, 3) := by decide +kernel
theorem dJx35411_next_0502b_32 : decode cJx35411_next_0502b 32 = .ok (.getfield 37, 3) := by decide +kernel
theorem dJx35411_next_0502b_35 : decode cJx35411_next_0502b 35 = .ok (.astore_n 2, 1) := by decide +kernel
theorem dJx35411_next_0502b_36 : decode cJx35411_next_0502b 36 = .ok (.iload_n 1, 1) := by decide +kernel
theorem dJx35411_next_0502b_37 : decode cJx35411_next_0502b 37 = .ok (.aload_n 2, 1) := by decide +kernel
theorem dJx35411_next_0502b_38 : decode cJx35411_next_0502b 38 = .ok (.arraylength, 1) := by decide +kernel
theorem dJx35411_next_0502b_39 : decode cJx35411_next_0502b 39 = .ok (.if_icmp .lt 11, 3) := by decide +kernel
theorem dJx35411_next_0502b_42 : decode cJx35411_next_0502b 42 = .ok (.new 41, 3) := by decide +kernel
theorem dJx35411_next_0502b_45 : decode cJx35411_next_0502b 45 = .ok (.dup, 1) := by decide +kernel
theorem dJx35411_next_0502b_46 : decode cJx35411_next_0502b 46 = .ok (.invokespecial 43, 3) := by decide +kernel
theorem dJx35411_next_0502b_49 : decode cJx35411_next_0502b 49 = .ok (.athrow, 1) := by decide +kernel
theorem dJx35411_next_0502b_50 : decode cJx35411_next_0502b 50 = .ok (.aload_n 0, 1) := by decide +kernel
theorem dJx35411_next_0502b_51 : decode cJx35411_next_0502b 51 = .ok (.iload_n 1, 1) := by decide +kernel
theorem dJx35411_next_0502b_52 : decode cJx35411_next_0502b 52 = .ok (.iconst 1, 1) := by decide +kernel
theorem dJx35411_next_0502b_53 : decode cJx35411_next_0502b 53 = .ok (.iadd, 1) := by decide +kernel
theorem dJx35411_next_0502b_54 : decode cJx35411_next_0502b 54 = .ok (.putfield 25, 3) := by decide +kernel
theorem dJx35411_next_0502b_57 : decode cJx35411_next_0502b 57 = .ok (.aload_n 2, 1) := by decide +kernel
theorem dJx35411_next_0502b_58 : decode cJx35411_next_0502b 58 = .ok (.aload_n 0, 1) := by decide +kernel
theorem dJx35411_next_0502b_59 : decode cJx35411_next_0502b 59 = .ok (.iload_n 1, 1) := by decide +kernel
theorem dJx35411_next_0502b_60 : decode cJx35411_next_0502b 60 = .ok (.dup_x1, 1) := by decide +kernel
theorem dJx35411_next_0502b_61 : decode cJx35411_next_0502b 61 = .ok (.putfield 13, 3) := by decide +kernel
theorem dJx35411_next_0502b_64 : decode cJx35411_next_0502b 64 = .ok (.aaload, 1) := by decide +kernel
theorem dJx35411_next_0502b_65 : decode cJx35411_next_0502b 65 = .ok (.areturn, 1) := by decide +kernel
theorem dJx35411_checkForComodification_da8c8_0 : decode cJx35411_checkForComodification_da8c8 0 = .ok (.aload_n 0, 1) := by decide +kernel
theorem dJx35411_checkForComodification_da8c8_1 : decode cJx35411_checkForComodification_da8c8 1 = .ok (.getfield 1, 3) := by decide +kernel
theorem dJx35411_checkForComodification_da8c8_4 : decode cJx35411_checkForComodification_da8c8 4 = .ok (.getfield 17, 3) := by decide +kernel
theorem dJx35411_checkForComodification_da8c8_7 : decode cJx35411_checkForComodification_da8c8 7 = .ok (.aload_n 0, 1) := by decide +kernel
theorem dJx35411_checkForComodification_da8c8_8 : decode cJx35411_checkForComodification_da8c8 8 = .ok (.getfield 22, 3) := by decide +kernel
theorem dJx35411_checkForComodification_da8c8_11 : decode cJx35411_checkForComodification_da8c8 11 = .ok (.if_icmp .eq 11, 3) := by decide +kernel
theorem dJx35411_checkForComodification_da8c8_14 : decode cJx35411_checkForComodification_da8c8 14 = .ok (.new 41, 3) := by decide +kernel
theorem dJx35411_checkForComodification_da8c8_17 : decode cJx35411_checkForComodification_da8c8 17 = .ok (.dup, 1) := by decide +kernel
theorem dJx35411_checkForComodification_da8c8_18 : decode cJx35411_checkForComodification_da8c8 18 = .ok (.invokespecial 43, 3) := by decide +kernel
theorem dJx35411_checkForComodification_da8c8_21 : decode cJx35411_checkForComodification_da8c8 21 = .ok (.athrow, 1) := by decide +kernel
theorem dJx35411_checkForComodification_da8c8_22 : decode cJx35411_checkForComodification_da8c8 22 = .ok (.return_, 1) := by decide +kernel
theorem dJx4a65c_init_da8c8_0 : decode cJx4a65c_init_da8c8 0 = .ok (.aload_n 0, 1) := by decide +kernel
theorem dJx4a65c_init_da8c8_1 : decode cJx4a65c_init_da8c8 1 = .ok (.invokespecial 1, 3) := by decide +kernel
theorem dJx4a65c_init_da8c8_4 : decode cJx4a65c_init_da8c8 4 = .ok (.aload_n 0, 1) := by decide +kernel
theorem dJx4a65c_init_da8c8_5 : decode cJx4a65c_init_da8c8 5 = .ok (.getstatic 39, 3) := by decide +kernel
theorem dJx4a65c_init_da8c8_8 : decode cJx4a65c_init_da8c8 8 = .ok (.putfield 9, 3) := by decide +kernel
theorem dJx4a65c_init_da8c8_11 : decode cJx4a65c_init_da8c8 11 = .ok (.return_, 1) := by decide +kernel
theorem dJx4a65c_grow_92f84_0 : decode cJx4a65c_grow_92f84 0 = .ok (.aload_n 0, 1) := by decide +kernel
theorem dJx4a65c_grow_92f84_1 : decode cJx4a65c_grow_92f84 1 = .ok (.getfield 9, 3) := by decide +kernel
theorem dJx4a65c_grow_92f84_4 : decode cJx4a65c_grow_92f84 4 = .ok (.arraylength, 1) := by decide +kernel
theorem dJx4a65c_grow_92f84_5 : decode cJx4a65c_grow_92f84 5 = .ok (.istore_n 2, 1) := by decide +kernel
theorem dJx4a65c_grow_92f84_6 : decode cJx4a65c_grow_92f84 6 = .ok (.iload_n 2, 1) := by decide +kernel
theorem dJx4a65c_grow_92f84_7 : decode cJx4a65c_grow_92f84 7 = .ok (.ifCond .gt 13, 3) := by decide +kernel
theorem dJx4a65c_grow_92f84_10 : decode cJx4a65c_grow_92f84 10 = .ok (.aload_n 0, 1) := by decide +kernel
theorem dJx4a65c_grow_92f84_11 : decode cJx4a65c_grow_92f84 11 = .ok (.getfield 9, 3) := by decide +kernel
theorem dJx4a65c_grow_92f84_14 : decode cJx4a65c_grow_92f84 14 = .ok (.getstatic 39, 3) := by decide +kernel
theorem dJx4a65c_grow_92f84_17 : decode cJx4a65c_grow_92f84 17 = .ok (.if_acmp .eq 28, 3) := by decide +kernel
theorem dJx4a65c_grow_92f84_20 : decode cJx4a65c_grow_92f84 20 = .ok (.iload_n 2, 1) := by decide +kernel
theorem dJx4a65c_grow_92f84_21 : decode cJx4a65c_grow_92f84 21 = .ok (.iload_n 1, 1) := by decide +kernel
theorem dJx4a65c_grow_92f84_22 : decode cJx4a65c_grow_92f84 22 = .ok (.iload_n 2, 1) := by decide +kernel
theorem dJx4a65c_grow_92f84_23 : decode cJx4a65c_grow_92f84 23 = .ok (.isub, 1) := by decide +kernel
theorem dJx4a65c_grow_92f84_24 : decode cJx4a65c_grow_92f84 24 = .ok (.iload_n 2, 1) := by decide +kernel
theorem dJx4a65c_grow_92f84_25 : decode cJx4a65c_grow_92f84 25 = .ok (.iconst 1, 1) := by decide +kernel
theorem dJx4a65c_grow_92f84_26 : decode cJx4a65c_grow_92f84 26 = .ok (.ishr, 1) := by decide +kernel
theorem dJx4a65c_grow_92f84_27 : decode cJx4a65c_grow_92f84 27 = .ok (.invokestatic 73, 3) := by decide +kernel
theorem dJx4a65c_grow_92f84_30 : decode cJx4a65c_grow_92f84 30 = .ok (.istore_n 3, 1) := by decide +kernel
theorem dJx4a65c_grow_92f84_31 : decode cJx4a65c_grow_92f84 31 = .ok (.aload_n 0, 1) := by decide +kernel
theorem dJx4a65c_grow_92f84_32 : decode cJx4a65c_grow_92f84 32 = .ok (.aload_n 0, 1) := by decide +kernel
theorem dJx4a65c_grow_92f84_33 : decode cJx4a65c_grow_92f84 33 = .ok (.getfield 9, 3) := by decide +kernel
theorem dJx4a65c_grow_92f84_36 : decode cJx4a65c_grow_92f84 36 = .ok (.iload_n 3, 1) := by decide +kernel
theorem dJx4a65c_grow_92f84_37 : decode cJx4a65c_grow_92f84 37 = .ok (.invokestatic 66, 3) := by decide +kernel
theorem dJx4a65c_grow_92f84_40 : decode cJx4a65c_grow_92f84 40 = .ok (.dup_x1, 1) := by decide +kernel
theorem dJx4a65c_grow_92f84_41 : decode cJx4a65c_grow_92f84 41 = .ok (.putfield 9, 3) := by decide +kernel
theorem dJx4a65c_grow_92f84_44 : decode cJx4a65c_grow_92f84 44 = .ok (.areturn, 1) := by decide +kernel
theorem dJx4a65c_grow_92f84_45 : decode cJx4a65c_grow_92f84 45 = .ok (.aload_n 0, 1) := by decide +kernel
theorem dJx4a65c_grow_92f84_46 : decode cJx4a65c_grow_92f84 46 = .ok (.bipush 10, 2) := by decide +kernel
theorem dJx4a65c_grow_92f84_48 : decode cJx4a65c_grow_92f84 48 = .ok (.iload_n 1, 1) := by decide +kernel
theorem dJx4a65c_grow_92f84_49 : decode cJx4a65c_grow_92f84 49 = .ok (.invokestatic 79, 3) := by decide +kernel
theorem dJx4a65c_grow_92f84_52 : decode cJx4a65c_grow_92f84 52 = .ok (.anewarray 7, 3) := by decide +kernel
theorem dJx4a65c_grow_92f84_55 : decode cJx4a65c_grow_92f84 55 = .ok (.dup_x1, 1) := by decide +kernel
theorem dJx4a65c_grow_92f84_56 : decode cJx4a65c_grow_92f84 56 = .ok (.putfield 9, 3) := by decide +kernel
theorem dJx4a65c_grow_92f84_59 : decode cJx4a65c_grow_92f84 59 = .ok (.areturn, 1) := by decide +kernel
theorem dJx4a65c_grow_d5877_0 : decode cJx4a65c_grow_d5877 0 = .ok (.aload_n 0, 1) := by decide +kernel
theorem dJx4a65c_grow_d5877_1 : decode cJx4a65c_grow_d5877 1 = .ok (.aload_n 0, 1) := by decide +kernel
theorem dJx4a65c_grow_d5877_2 : decode cJx4a65c_grow_d5877 2 = .ok (.getfield 48, 3) := by decide +kernel
theorem dJx4a65c_grow_d5877_5 : decode cJx4a65c_grow_d5877 5 = .ok (.iconst 1, 1) := by decide +kernel
theorem dJx4a65c_grow_d5877_6 : decode cJx4a65c_grow_d5877 6 = .ok (.iadd, 1) := by decide +kernel
theorem dJx4a65c_grow_d5877_7 : decode cJx4a65c_grow_d5877 7 = .ok (.invokevirtual 69, 3) := by decide +kernel
theorem dJx4a65c_grow_d5877_10 : decode cJx4a65c_grow_d5877 10 = .ok (.areturn, 1) := by decide +kernel
theorem dJx4a65c_size_8abf5_0 : decode cJx4a65c_size_8abf5 0 = .ok (.aload_n 0, 1) := by decide +kernel
theorem dJx4a65c_size_8abf5_1 : decode cJx4a65c_size_8abf5 1 = .ok (.getfield 48, 3) := by decide +kernel
theorem dJx4a65c_size_8abf5_4 : decode cJx4a65c_size_8abf5 4 = .ok (.ireturn, 1) := by decide +kernel
theorem dJx4a65c_toArray_d5877_0 : decode cJx4a65c_toArray_d5877 0 = .ok (.aload_n 0, 1) := by decide +kernel
theorem dJx4a65c_toArray_d5877_1 : decode cJx4a65c_toArray_d5877 1 = .ok (.getfield 9, 3) := by decide +kernel
theorem dJx4a65c_toArray_d5877_4 : decode cJx4a65c_toArray_d5877 4 = .ok (.aload_n 0, 1) := by decide +kernel
theorem dJx4a65c_toArray_d5877_5 : decode cJx4a65c_toArray_d5877 5 = .ok (.getfield 48, 3) := by decide +kernel
theorem dJx4a65c_toArray_d5877_8 : decode cJx4a65c_toArray_d5877 8 = .ok (.invokestatic 66, 3) := by decide +kernel
theorem dJx4a65c_toArray_d5877_11 : decode cJx4a65c_toArray_d5877 11 = .ok (.areturn, 1) := by decide +kernel
theorem dJx4a65c_elementData_915e3_0 : decode cJx4a65c_elementData_915e3 0 = .ok (.aload_n 0, 1) := by decide +kernel
theorem dJx4a65c_elementData_915e3_1 : decode cJx4a65c_elementData_915e3 1 = .ok (.getfield 9, 3) := by decide +kernel
theorem dJx4a65c_elementData_915e3_4 : decode cJx4a65c_elementData_915e3 4 = .ok (.iload_n 1, 1) := by decide +kernel
theorem dJx4a65c_elementData_915e3_5 : decode cJx4a65c_elementData_915e3 5 = .ok (.aaload, 1) := by decide +kernel
theorem dJx4a65c_elementData_915e3_6 : decode cJx4a65c_elementData_915e3 6 = .ok (.areturn, 1) := by decide +kernel
theorem dJx4a65c_get_915e3_0 : decode cJx4a65c_get_915e3 0 = .ok (.iload_n 1, 1) := by decide +kernel
theorem dJx4a65c_get_915e3_1 : decode cJx4a65c_get_915e3 1 = .ok (.aload_n 0, 1) := by decide +kernel
theorem dJx4a65c_get_915e3_2 : decode cJx4a65c_get_915e3 2 = .ok (.getfield 48, 3) := by decide +kernel
theorem dJx4a65c_get_915e3_5 : decode cJx4a65c_get_915e3 5 = .ok (.invokestatic 118, 3) := by decide +kernel
theorem dJx4a65c_get_915e3_8 : decode cJx4a65c_get_915e3 8 = .ok (.pop, 1) := by decide +kernel
theorem dJx4a65c_get_915e3_9 : decode cJx4a65c_get_915e3 9 = .ok (.aload_n 0, 1) := by decide +kernel
theorem dJx4a65c_get_915e3_10 : decode cJx4a65c_get_915e3 10 = .ok (.iload_n 1, 1) := by decide +kernel
theorem dJx4a65c_get_915e3_11 : decode cJx4a65c_get_915e3 11 = .ok (.invokevirtual 123, 3) := by decide +kernel
theorem dJx4a65c_get_915e3_14 : decode cJx4a65c_get_915e3 14 = .ok (.areturn, 1) := by decide +kernel
theorem dJx4a65c_set_bcc79_0 : decode cJx4a65c_set_bcc79 0 = .ok (.iload_n 1, 1) := by decide +kernel
theorem dJx4a65c_set_bcc79_1 : decode cJx4a65c_set_bcc79 1 = .ok (.aload_n 0, 1) := by decide +kernel
theorem dJx4a65c_set_bcc79_2 : decode cJx4a65c_set_bcc79 2 = .ok (.getfield 48, 3) := by decide +kernel
theorem dJx4a65c_set_bcc79_5 : decode cJx4a65c_set_bcc79 5 = .ok (.invokestatic 118, 3) := by decide +kernel
theorem dJx4a65c_set_bcc79_8 : decode cJx4a65c_set_bcc79 8 = .ok (.pop, 1) := by decide +kernel
theorem dJx4a65c_set_bcc79_9 : decode cJx4a65c_set_bcc79 9 = .ok (.aload_n 0, 1) := by decide +kernel
theorem dJx4a65c_set_bcc79_10 : decode cJx4a65c_set_bcc79 10 = .ok (.iload_n 1, 1) := by decide +kernel
theorem dJx4a65c_set_bcc79_11 : decode cJx4a65c_set_bcc79 11 = .ok (.invokevirtual 123, 3) := by decide +kernel
theorem dJx4a65c_set_bcc79_14 : decode cJx4a65c_set_bcc79 14 = .ok (.astore_n 3, 1) := by decide +kernel
theorem dJx4a65c_set_bcc79_15 : decode cJx4a65c_set_bcc79 15 = .ok (.aload_n 0, 1) := by decide +kernel
theorem dJx4a65c_set_bcc79_16 : decode cJx4a65c_set_bcc79 16 = .ok (.getfield 9, 3) := by decide +kernel
theorem dJx4a65c_set_bcc79_19 : decode cJx4a65c_set_bcc79 19 = .ok (.iload_n 1, 1) := by decide +kernel
theorem dJx4a65c_set_bcc79_20 : decode cJx4a65c_set_bcc79 20 = .ok (.aload_n 2, 1) := by decide +kernel
theorem dJx4a65c_set_bcc79_21 : decode cJx4a65c_set_bcc79 21 = .ok (.aastore, 1) := by decide +kernel
theorem dJx4a65c_set_bcc79_22 : decode cJx4a65c_set_bcc79 22 = .ok (.aload_n 3, 1) := by decide +kernel
theorem dJx4a65c_set_bcc79_23 : decode cJx4a65c_set_bcc79 23 = .ok (.areturn, 1) := by decide +kernel
theorem dJx4a65c_add_72be8_0 : decode cJx4a65c_add_72be8 0 = .ok (.iload_n 3, 1) := by decide +kernel
theorem dJx4a65c_add_72be8_1 : decode cJx4a65c_add_72be8 1 = .ok (.aload_n 2, 1) := by decide +kernel
theorem dJx4a65c_add_72be8_2 : decode cJx4a65c_add_72be8 2 = .ok (.arraylength, 1) := by decide +kernel
theorem dJx4a65c_add_72be8_3 : decode cJx4a65c_add_72be8 3 = .ok (.if_icmp .ne 8, 3) := by decide +kernel
theorem dJx4a65c_add_72be8_6 : decode cJx4a65c_add_72be8 6 = .ok (.aload_n 0, 1) := by decide +kernel
theorem dJx4a65c_add_72be8_7 : decode cJx4a65c_add_72be8 7 = .ok (.invokevirtual 129, 3) := by decide +kernel
theorem dJx4a65c_add_72be8_10 : decode cJx4a65c_add_72be8 10 = .ok (.astore_n 2, 1) := by decide +kernel
theorem dJx4a65c_add_72be8_11 : decode cJx4a65c_add_72be8 11 = .ok (.aload_n 2, 1) := by decide +kernel
theorem dJx4a65c_add_72be8_12 : decode cJx4a65c_add_72be8 12 = .ok (.iload_n 3, 1) := by decide +kernel
theorem dJx4a65c_add_72be8_13 : decode cJx4a65c_add_72be8 13 = .ok (.aload_n 1, 1) := by decide +kernel
theorem dJx4a65c_add_72be8_14 : decode cJx4a65c_add_72be8 14 = .ok (.aastore, 1) := by decide +kernel
theorem dJx4a65c_add_72be8_15 : decode cJx4a65c_add_72be8 15 = .ok (.aload_n 0, 1) := by decide +kernel
theorem dJx4a65c_add_72be8_16 : decode cJx4a65c_add_72be8 16 = .ok (.iload_n 3, 1) := by decide +kernel
theorem dJx4a65c_add_72be8_17 : decode cJx4a65c_add_72be8 17 = .ok (.iconst 1, 1) := by decide +kernel
theorem dJx4a65c_add_72be8_18 : decode cJx4a65c_add_72be8 18 = .ok (.iadd, 1) := by decide +kernel
theorem dJx4a65c_add_72be8_19 : decode cJx4a65c_add_72be8 19 = .ok (.putfield 48, 3) := by decide +kernel
theorem dJx4a65c_add_72be8_22 : decode cJx4a65c_add_72be8 22 = .ok (.return_, 1) := by decide +kernel
theorem dJx4a65c_add_9ea2d_0 : decode cJx4a65c_add_9ea2d 0 = .ok (.aload_n 0, 1) := by decide +kernel
theorem dJx4a65c_add_9ea2d_1 : decode cJx4a65c_add_9ea2d 1 = .ok (.dup, 1) := by decide +kernel
theorem dJx4a65c_add_9ea2d_2 : decode cJx4a65c_add_9ea2d 2 = .ok (.getfield 63, 3) := by decide +kernel
theorem dJx4a65c_add_9ea2d_5 : decode cJx4a65c_add_9ea2d 5 = .ok (.iconst 1, 1) := by decide +kernel
theorem dJx4a65c_add_9ea2d_6 : decode cJx4a65c_add_9ea2d 6 = .ok (.iadd, 1) := by decide +kernel
theorem dJx4a65c_add_9ea2d_7 : decode cJx4a65c_add_9ea2d 7 = .ok (.putfield 63, 3) := by decide +kernel
theorem dJx4a65c_add_9ea2d_10 : decode cJx4a65c_add_9ea2d 10 = .ok (.aload_n 0, 1) := by decide +kernel
theorem dJx4a65c_add_9ea2d_11 : decode cJx4a65c_add_9ea2d 11 = .ok (.aload_n 1, 1) := by decide +kernel
theorem dJx4a65c_add_9ea2d_12 : decode cJx4a65c_add_9ea2d 12 = .ok (.aload_n 0, 1) := by decide +kernel
theorem dJx4a65c_add_9ea2d_13 : decode cJx4a65c_add_9ea2d 13 = .ok (.getfield 9, 3) := by decide +kernel
theorem dJx4a65c_add_9ea2d_16 : decode cJx4a65c_add_9ea2d 16 = .ok (.aload_n 0, 1) := by decide +kernel
theorem dJx4a65c_add_9ea2d_17 : decode cJx4a65c_add_9ea2d 17 = .ok (.getfield 48, 3) := by decide +kernel
theorem dJx4a65c_add_9ea2d_20 : decode cJx4a65c_add_9ea2d 20 = .ok (.invokevirtual 131, 3) := by decide +kernel
theorem dJx4a65c_add_9ea2d_23 : decode cJx4a65c_add_9ea2d 23 = .ok (.iconst 1, 1) := by decide +kernel
theorem dJx4a65c_add_9ea2d_24 : decode cJx4a65c_add_9ea2d 24 = .ok (.ireturn, 1) := by decide +kernel
theorem dJx4a65c_add_7a177_0 : decode cJx4a65c_add_7a177 0 = .ok (.aload_n 0, 1) := by decide +kernel
theorem dJx4a65c_add_7a177_1 : decode cJx4a65c_add_7a177 1 = .ok (.iload_n 1, 1) := by decide +kernel
theorem dJx4a65c_add_7a177_2 : decode cJx4a65c_add_7a177 2 = .ok (.invokevirtual 135, 3) := by decide +kernel
theorem dJx4a65c_add_7a177_5 : decode cJx4a65c_add_7a177 5 = .ok (.aload_n 0, 1) := by decide +kernel
theorem dJx4a65c_add_7a177_6 : decode cJx4a65c_add_7a177 6 = .ok (.dup, 1) := by decide +kernel
theorem dJx4a65c_add_7a177_7 : decode cJx4a65c_add_7a177 7 = .ok (.getfield 63, 3) := by decide +kernel
theorem dJx4a65c_add_7a177_10 : decode cJx4a65c_add_7a177 10 = .ok (.iconst 1, 1) := by decide +kernel
theorem dJx4a65c_add_7a177_11 : decode cJx4a65c_add_7a177 11 = .ok (.iadd, 1) := by decide +kernel
theorem dJx4a65c_add_7a177_12 : decode cJx4a65c_add_7a177 12 = .ok (.putfield 63, 3) := by decide +kernel
theorem dJx4a65c_add_7a177_15 : decode cJx4a65c_add_7a177 15 = .ok (.aload_n 0, 1) := by decide +kernel
theorem dJx4a65c_add_7a177_16 : decode cJx4a65c_add_7a177 16 = .ok (.getfield 48, 3) := by decide +kernel
theorem dJx4a65c_add_7a177_19 : decode cJx4a65c_add_7a177 19 = .ok (.dup, 1) := by decide +kernel
theorem dJx4a65c_add_7a177_20 : decode cJx4a65c_add_7a177 20 = .ok (.istore_n 3, 1) := by decide +kernel
theorem dJx4a65c_add_7a177_21 : decode cJx4a65c_add_7a177 21 = .ok (.aload_n 0, 1) := by decide +kernel
theorem dJx4a65c_add_7a177_22 : decode cJx4a65c_add_7a177 22 = .ok (.getfield 9, 3) := by decide +kernel
theorem dJx4a65c_add_7a177_25 : decode cJx4a65c_add_7a177 25 = .ok (.dup, 1) := by decide +kernel
theorem dJx4a65c_add_7a177_26 : decode cJx4a65c_add_7a177 26 = .ok (.astore 4, 2) := by decide +kernel
theorem dJx4a65c_add_7a177_28 : decode cJx4a65c_add_7a177 28 = .ok (.arraylength, 1) := by decide +kernel
theorem dJx4a65c_add_7a177_29 : decode cJx4a65c_add_7a177 29 = .ok (.if_icmp .ne 9, 3) := by decide +kernel
theorem dJx4a65c_add_7a177_32 : decode cJx4a65c_add_7a177 32 = .ok (.aload_n 0, 1) := by decide +kernel
theorem dJx4a65c_add_7a177_33 : decode cJx4a65c_add_7a177 33 = .ok (.invokevirtual 129, 3) := by decide +kernel
theorem dJx4a65c_add_7a177_36 : decode cJx4a65c_add_7a177 36 = .ok (.astore 4, 2) := by decide +kernel
theorem dJx4a65c_add_7a177_38 : decode cJx4a65c_add_7a177 38 = .ok (.aload 4, 2) := by decide +kernel
theorem dJx4a65c_add_7a177_40 : decode cJx4a65c_add_7a177 40 = .ok (.iload_n 1, 1) := by decide +kernel
theorem dJx4a65c_add_7a177_41 : decode cJx4a65c_add_7a177 41 = .ok (.aload 4, 2) := by decide +kernel
theorem dJx4a65c_add_7a177_43 : decode cJx4a65c_add_7a177 43 = .ok (.iload_n 1, 1) := by decide +kernel
theorem dJx4a65c_add_7a177_44 : decode cJx4a65c_add_7a177 44 = .ok (.iconst 1, 1) := by decide +kernel
theorem dJx4a65c_add_7a177_45 : decode cJx4a65c_add_7a177 45 = .ok (.iadd, 1) := by decide +kernel
theorem dJx4a65c_add_7a177_46 : decode cJx4a65c_add_7a177 46 = .ok (.iload_n 3, 1) := by decide +kernel
theorem dJx4a65c_add_7a177_47 : decode cJx4a65c_add_7a177 47 = .ok (.iload_n 1, 1) := by decide +kernel
theorem dJx4a65c_add_7a177_48 : decode cJx4a65c_add_7a177 48 = .ok (.isub, 1) := by decide +kernel
theorem dJx4a65c_add_7a177_49 : decode cJx4a65c_add_7a177 49 = .ok (.invokestatic 112, 3) := by decide +kernel
theorem dJx4a65c_add_7a177_52 : decode cJx4a65c_add_7a177 52 = .ok (.aload 4, 2) := by decide +kernel
theorem dJx4a65c_add_7a177_54 : decode cJx4a65c_add_7a177 54 = .ok (.iload_n 1, 1) := by decide +kernel
theorem dJx4a65c_add_7a177_55 : decode cJx4a65c_add_7a177 55 = .ok (.aload_n 2, 1) := by decide +kernel
theorem dJx4a65c_add_7a177_56 : decode cJx4a65c_add_7a177 56 = .ok (.aastore, 1) := by decide +kernel
theorem dJx4a65c_add_7a177_57 : decode cJx4a65c_add_7a177 57 = .ok (.aload_n 0, 1) := by decide +kernel
theorem dJx4a65c_add_7a177_58 : decode cJx4a65c_add_7a177 58 = .ok (.iload_n 3, 1) := by decide +kernel
theorem dJx4a65c_add_7a177_59 : decode cJx4a65c_add_7a177 59 = .ok (.iconst 1, 1) := by decide +kernel
theorem dJx4a65c_add_7a177_60 : decode cJx4a65c_add_7a177 60 = .ok (.iadd, 1) := by decide +kernel
theorem dJx4a65c_add_7a177_61 : decode cJx4a65c_add_7a177 61 = .ok (.putfield 48, 3) := by decide +kernel
theorem dJx4a65c_add_7a177_64 : decode cJx4a65c_add_7a177 64 = .ok (.return_, 1) := by decide +kernel
theorem dJx4a65c_addAll_f0b43_0 : decode cJx4a65c_addAll_f0b43 0 = .ok (.aload_n 1, 1) := by decide +kernel
theorem dJx4a65c_addAll_f0b43_1 : decode cJx4a65c_addAll_f0b43 1 = .ok (.invokeinterface 42 1, 5) := by decide +kernel
theorem dJx4a65c_addAll_f0b43_6 : decode cJx4a65c_addAll_f0b43 6 = .ok (.astore_n 2, 1) := by decide +kernel
theorem dJx4a65c_addAll_f0b43_7 : decode cJx4a65c_addAll_f0b43 7 = .ok (.aload_n 0, 1) := by decide +kernel
theorem dJx4a65c_addAll_f0b43_8 : decode cJx4a65c_addAll_f0b43 8 = .ok (.dup, 1) := by decide +kernel
theorem dJx4a65c_addAll_f0b43_9 : decode cJx4a65c_addAll_f0b43 9 = .ok (.getfield 63, 3) := by decide +kernel
theorem dJx4a65c_addAll_f0b43_12 : decode cJx4a65c_addAll_f0b43 12 = .ok (.iconst 1, 1) := by decide +kernel
theorem dJx4a65c_addAll_f0b43_13 : decode cJx4a65c_addAll_f0b43 13 = .ok (.iadd, 1) := by decide +kernel
theorem dJx4a65c_addAll_f0b43_14 : decode cJx4a65c_addAll_f0b43 14 = .ok (.putfield 63, 3) := by decide +kernel
theorem dJx4a65c_addAll_f0b43_17 : decode cJx4a65c_addAll_f0b43 17 = .ok (.aload_n 2, 1) := by decide +kernel
theorem dJx4a65c_addAll_f0b43_18 : decode cJx4a65c_addAll_f0b43 18 = .ok (.arraylength, 1) := by decide +kernel
theorem dJx4a65c_addAll_f0b43_19 : decode cJx4a65c_addAll_f0b43 19 = .ok (.istore_n 3, 1) := by decide +kernel
theorem dJx4a65c_addAll_f0b43_20 : decode cJx4a65c_addAll_f0b43 20 = .ok (.iload_n 3, 1) := by decide +kernel
theorem dJx4a65c_addAll_f0b43_21 : decode cJx4a65c_addAll_f0b43 21 = .ok (.ifCond .ne 5, 3) := by decide +kernel
theorem dJx4a65c_addAll_f0b43_24 : decode cJx4a65c_addAll_f0b43 24 = .ok (.iconst 0, 1) := by decide +kernel
theorem dJx4a65c_addAll_f0b43_25 : decode cJx4a65c_addAll_f0b43 25 = .ok (.ireturn, 1) := by decide +kernel
theorem dJx4a65c_addAll_f0b43_26 : decode cJx4a65c_addAll_f0b43 26 = .ok (.iload_n 3, 1) := by decide +kernel
theorem dJx4a65c_addAll_f0b43_27 : decode cJx4a65c_addAll_f0b43 27 = .ok (.aload_n 0, 1) := by decide +kernel
theorem dJx4a65c_addAll_f0b43_28 : decode cJx4a65c_addAll_f0b43 28 = .ok (.getfield 9, 3) := by decide +kernel
theorem dJx4a65c_addAll_f0b43_31 : decode cJx4a65c_addAll_f0b43 31 = .ok (.dup, 1) := by decide +kernel
theorem dJx4a65c_addAll_f0b43_32 : decode cJx4a65c_addAll_f0b43 32 = .ok (.astore 4, 2) := by decide +kernel
theorem dJx4a65c_addAll_f0b43_34 : decode cJx4a65c_addAll_f0b43 34 = .ok (.arraylength, 1) := by decide +kernel
theorem dJx4a65c_addAll_f0b43_35 : decode cJx4a65c_addAll_f0b43 35 = .ok (.aload_n 0, 1) := by decide +kernel
theorem dJx4a65c_addAll_f0b43_36 : decode cJx4a65c_addAll_f0b43 36 = .ok (.getfield 48, 3) := by decide +kernel
theorem dJx4a65c_addAll_f0b43_39 : decode cJx4a65c_addAll_f0b43 39 = .ok (.dup, 1) := by decide +kernel
theorem dJx4a65c_addAll_f0b43_40 : decode cJx4a65c_addAll_f0b43 40 = .ok (.istore 5, 2) := by decide +kernel
theorem dJx4a65c_addAll_f0b43_42 : decode cJx4a65c_addAll_f0b43 42 = .ok (.isub, 1) := by decide +kernel
theorem dJx4a65c_addAll_f0b43_43 : decode cJx4a65c_addAll_f0b43 43 = .ok (.if_icmp .le 13, 3) := by decide +kernel
theorem dJx4a65c_addAll_f0b43_46 : decode cJx4a65c_addAll_f0b43 46 = .ok (.aload_n 0, 1) := by decide +kernel
theorem dJx4a65c_addAll_f0b43_47 : decode cJx4a65c_addAll_f0b43 47 = .ok (.iload 5, 2) := by decide +kernel
theorem dJx4a65c_addAll_f0b43_49 : decode cJx4a65c_addAll_f0b43 49 = .ok (.iload_n 3, 1) := by decide +kernel
theorem dJx4a65c_addAll_f0b43_50 : decode cJx4a65c_addAll_f0b43 50 = .ok (.iadd, 1) := by decide +kernel
theorem dJx4a65c_addAll_f0b43_51 : decode cJx4a65c_addAll_f0b43 51 = .ok (.invokevirtual 69, 3) := by decide +kernel
theorem dJx4a65c_addAll_f0b43_54 : decode cJx4a65c_addAll_f0b43 54 = .ok (.astore 4, 2) := by decide +kernel
theorem dJx4a65c_addAll_f0b43_56 : decode cJx4a65c_addAll_f0b43 56 = .ok (.aload_n 2, 1) := by decide +kernel
theorem dJx4a65c_addAll_f0b43_57 : decode cJx4a65c_addAll_f0b43 57 = .ok (.iconst 0, 1) := by decide +kernel
theorem dJx4a65c_addAll_f0b43_58 : decode cJx4a65c_addAll_f0b43 58 = .ok (.aload 4, 2) := by decide +kernel
theorem dJx4a65c_addAll_f0b43_60 : decode cJx4a65c_addAll_f0b43 60 = .ok (.iload 5, 2) := by decide +kernel
theorem dJx4a65c_addAll_f0b43_62 : decode cJx4a65c_addAll_f0b43 62 = .ok (.iload_n 3, 1) := by decide +kernel
theorem dJx4a65c_addAll_f0b43_63 : decode cJx4a65c_addAll_f0b43 63 = .ok (.invokestatic 112, 3) := by decide +kernel
theorem dJx4a65c_addAll_f0b43_66 : decode cJx4a65c_addAll_f0b43 66 = .ok (.aload_n 0, 1) := by decide +kernel
theorem dJx4a65c_addAll_f0b43_67 : decode cJx4a65c_addAll_f0b43 67 = .ok (.iload 5, 2) := by decide +kernel
theorem dJx4a65c_addAll_f0b43_69 : decode cJx4a65c_addAll_f0b43 69 = .ok (.iload_n 3, 1) := by decide +kernel
theorem dJx4a65c_addAll_f0b43_70 : decode cJx4a65c_addAll_f0b43 70 = .ok (.iadd, 1) := by decide +kernel
theorem dJx4a65c_addAll_f0b43_71 : decode cJx4a65c_addAll_f0b43 71 = .ok (.putfield 48, 3) := by decide +kernel
theorem dJx4a65c_addAll_f0b43_74 : decode cJx4a65c_addAll_f0b43 74 = .ok (.iconst 1, 1) := by decide +kernel
theorem dJx4a65c_addAll_f0b43_75 : decode cJx4a65c_addAll_f0b43 75 = .ok (.ireturn, 1) := by decide +kernel
theorem dJx4a65c_rangeCheckForAdd_d00df_0 : decode cJx4a65c_rangeCheckForAdd_d00df 0 = .ok (.iload_n 1, 1) := by decide +kernel
theorem dJx4a65c_rangeCheckForAdd_d00df_1 : decode cJx4a65c_rangeCheckForAdd_d00df 1 = .ok (.aload_n 0, 1) := by decide +kernel
theorem dJx4a65c_rangeCheckForAdd_d00df_2 : decode cJx4a65c_rangeCheckForAdd_d00df 2 = .ok (.getfield 48, 3) := by decide +kernel
theorem dJx4a65c_rangeCheckForAdd_d00df_5 : decode cJx4a65c_rangeCheckForAdd_d00df 5 = .ok (.if_icmp .gt 7, 3) := by decide +kernel
theorem dJx4a65c_rangeCheckForAdd_d00df_8 : decode cJx4a65c_rangeCheckForAdd_d00df 8 = .ok (.iload_n 1, 1) := by decide +kernel
theorem dJx4a65c_rangeCheckForAdd_d00df_9 : decode cJx4a65c_rangeCheckForAdd_d00df 9 = .ok (.ifCond .ge 16, 3) := by decide +kernel
theorem dJx4a65c_rangeCheckForAdd_d00df_12 : decode cJx4a65c_rangeCheckForAdd_d00df 12 = .ok (.new 187, 3) := by decide +kernel
theorem dJx4a65c_rangeCheckForAdd_d00df_15 : decode cJx4a65c_rangeCheckForAdd_d00df 15 = .ok (.dup, 1) := by decide +kernel
theorem dJx4a65c_rangeCheckForAdd_d00df_16 : decode cJx4a65c_rangeCheckForAdd_d00df 16 = .ok (.aload_n 0, 1) := by decide +kernel
theorem dJx4a65c_rangeCheckForAdd_d00df_17 : decode cJx4a65c_rangeCheckForAdd_d00df 17 = .ok (.iload_n 1, 1) := by decide +kernel
theorem dJx4a65c_rangeCheckForAdd_d00df_18 : decode cJx4a65c_rangeCheckForAdd_d00df 18 = .ok (.invokevirtual 198, 3) := by decide +kernel
theorem dJx4a65c_rangeCheckForAdd_d00df_21 : decode cJx4a65c_rangeCheckForAdd_d00df 21 = .ok (.invokespecial 193, 3) := by decide +kernel
theorem dJx4a65c_rangeCheckForAdd_d00df_24 : decode cJx4a65c_rangeCheckForAdd_d00df 24 = .ok (.athrow, 1) := by decide +kernel
theorem dJx4a65c_rangeCheckForAdd_d00df_25 : decode cJx4a65c_rangeCheckForAdd_d00df 25 = .ok (.return_, 1) := by decide +kernel
theorem dJx4a65c_outOfBoundsMsg_b52d3_0 : decode cJx4a65c_outOfBoundsMsg_b52d3 0 = .ok (.new 20, 3) := by decide +kernel
theorem dJx4a65c_outOfBoundsMsg_b52d3_3 : decode cJx4a65c_outOfBoundsMsg_b52d3 3 = .ok (.dup, 1) := by decide +kernel
theorem dJx4a65c_outOfBoundsMsg_b52d3_4 : decode cJx4a65c_outOfBoundsMsg_b52d3 4 = .ok (.invokespecial 22, 3) := by decide +kernel
theorem dJx4a65c_outOfBoundsMsg_b52d3_7 : decode cJx4a65c_outOfBoundsMsg_b52d3 7 = .ok (.ldc 201, 2) := by decide +kernel
theorem dJx4a65c_outOfBoundsMsg_b52d3_9 : decode cJx4a65c_outOfBoundsMsg_b52d3 9 = .ok (.invokevirtual 25, 3) := by decide +kernel
theorem dJx4a65c_outOfBoundsMsg_b52d3_12 : decode cJx4a65c_outOfBoundsMsg_b52d3 12 = .ok (.iload_n 1, 1) := by decide +kernel
theorem dJx4a65c_outOfBoundsMsg_b52d3_13 : decode cJx4a65c_outOfBoundsMsg_b52d3 13 = .ok (.invokevirtual 29, 3) := by decide +kernel
theorem dJx4a65c_outOfBoundsMsg_b52d3_16 : decode cJx4a65c_outOfBoundsMsg_b52d3 16 = .ok (.ldc 203, 2) := by decide +kernel
theorem dJx4a65c_outOfBoundsMsg_b52d3_18 : decode cJx4a65c_outOfBoundsMsg_b52d3 18 = .ok (.invokevirtual 25, 3) := by decide +kernel
theorem dJx4a65c_outOfBoundsMsg_b52d3_21 : decode cJx4a65c_outOfBoundsMsg_b52d3 21 = .ok (.aload_n 0, 1) := by decide +kernel
theorem dJx4a65c_outOfBoundsMsg_b52d3_22 : decode cJx4a65c_outOfBoundsMsg_b52d3 22 = .ok (.getfield 48, 3) := by decide +kernel
theorem dJx4a65c_outOfBoundsMsg_b52d3_25 : decode cJx4a65c_outOfBoundsMsg_b52d3 25 = .ok (.invokevirtual 29, 3) := by decide +kernel
theorem dJx4a65c_outOfBoundsMsg_b52d3_28 : decode cJx4a65c_outOfBoundsMsg_b52d3 28 = .ok (.invokevirtual 32, 3) := by decide +kernel
theorem dJx4a65c_outOfBoundsMsg_b52d3_31 : decode cJx4a65c_outOfBoundsMsg_b52d3 31 = .ok (.areturn, 1) := by decide +kernel
theorem dJx4a65c_iterator_32c93_0 : decode cJx4a65c_iterator_32c93 0 = .ok (.new 267, 3) := by decide +kernel
theorem dJx4a65c_iterator_32c93_3 : decode cJx4a65c_iterator_32c93 3 = .ok (.dup, 1) := by decide +kernel
theorem dJx4a65c_iterator_32c93_4 : decode cJx4a65c_iterator_32c93 4 = .ok (.aload_n 0, 1) := by decide +kernel
theorem dJx4a65c_iterator_32c93_5 : decode cJx4a65c_iterator_32c93 5 = .ok (.invokespecial 269, 3) := by decide +kernel
theorem dJx4a65c_iterator_32c93_8 : decode cJx4a65c_iterator_32c93 8 = .ok (.areturn, 1) := by decide +kernel
theorem dJ7_copyOf_1904c_0 : decode cJ7_copyOf_1904c 0 = .ok (.aload_n 0, 1) := by decide +kernel
theorem dJ7_copyOf_1904c_1 : decode cJ7_copyOf_1904c 1 = .ok (.iload_n 1, 1) := by decide +kernel
theorem dJ7_copyOf_1904c_2 : decode cJ7_copyOf_1904c 2 = .ok (.aload_n 0, 1) := by decide +kernel
theorem dJ7_copyOf_1904c_3 : decode cJ7_copyOf_1904c 3 = .ok (.invokevirtual 86, 3) := by decide +kernel
theorem dJ7_copyOf_1904c_6 : decode cJ7_copyOf_1904c 6 = .ok (.invokestatic 300, 3) := by decide +kernel
theorem dJ7_copyOf_1904c_9 : decode cJ7_copyOf_1904c 9 = .ok (.areturn, 1) := by decide +kernel
theorem dJ7_copyOf_6403c_0 : decode cJ7_copyOf_6403c 0 = .ok (.aload_n 2, 1) := by decide +kernel
theorem dJ7_copyOf_6403c_1 : decode cJ7_copyOf_6403c 1 = .ok (.ldc 110, 2) := by decide +kernel
theorem dJ7_copyOf_6403c_3 : decode cJ7_copyOf_6403c 3 = .ok (.if_acmp .ne 10, 3) := by decide +kernel
theorem dJ7_copyOf_6403c_6 : decode cJ7_copyOf_6403c 6 = .ok (.iload_n 1, 1) := by decide +kernel
theorem dJ7_copyOf_6403c_7 : decode cJ7_copyOf_6403c 7 = .ok (.anewarray 2, 3) := by decide +kernel
theorem dJ7_copyOf_6403c_10 : decode cJ7_copyOf_6403c 10 = .ok (.goto 14, 3) := by decide +kernel
theorem dJ7_copyOf_6403c_13 : decode cJ7_copyOf_6403c 13 = .ok (.aload_n 2, 1) := by decide +kernel
theorem dJ7_copyOf_6403c_14 : decode cJ7_copyOf_6403c 14 = .ok (.invokevirtual 90, 3) := by decide +kernel
theorem dJ7_copyOf_6403c_17 : decode cJ7_copyOf_6403c 17 = .ok (.iload_n 1, 1) := by decide +kernel
theorem dJ7_copyOf_6403c_18 : decode cJ7_copyOf_6403c 18 = .ok (.invokestatic 95, 3) := by decide +kernel
theorem dJ7_copyOf_6403c_21 : decode cJ7_copyOf_6403c 21 = .ok (.checkcast 110, 3) := by decide +kernel
theorem dJ7_copyOf_6403c_24 : decode cJ7_copyOf_6403c 24 = .ok (.astore_n 3, 1) := by decide +kernel
theorem dJ7_copyOf_6403c_25 : decode cJ7_copyOf_6403c 25 = .ok (.aload_n 0, 1) := by decide +kernel
theorem dJ7_copyOf_6403c_26 : decode cJ7_copyOf_6403c 26 = .ok (.iconst 0, 1) := by decide +kernel
theorem dJ7_copyOf_6403c_27 : decode cJ7_copyOf_6403c 27 = .ok (.aload_n 3, 1) := by decide +kernel
theorem dJ7_copyOf_6403c_28 : decode cJ7_copyOf_6403c 28 = .ok (.iconst 0, 1) := by decide +kernel
theorem dJ7_copyOf_6403c_29 : decode cJ7_copyOf_6403c 29 = .ok (.aload_n 0, 1) := by decide +kernel
theorem dJ7_copyOf_6403c_30 : decode cJ7_copyOf_6403c 30 = .ok (.arraylength, 1) := by decide +kernel
theorem dJ7_copyOf_6403c_31 : decode cJ7_copyOf_6403c 31 = .ok (.iload_n 1, 1) := by decide +kernel
theorem dJ7_copyOf_6403c_32 : decode cJ7_copyOf_6403c 32 = .ok (.invokestatic 304, 3) := by decide +kernel
theorem dJ7_copyOf_6403c_35 : decode cJ7_copyOf_6403c 35 = .ok (.invokestatic 150, 3) := by decide +kernel
theorem dJ7_copyOf_6403c_38 : decode cJ7_copyOf_6403c 38 = .ok (.aload_n 3, 1) := by decide +kernel
theorem dJ7_copyOf_6403c_39 : decode cJ7_copyOf_6403c 39 = .ok (.areturn, 1) := by decide +kernel
theorem dJ7_copyOf_9075b_0 : decode cJ7_copyOf_9075b 0 = .ok (.iload_n 1, 1) := by decide +kernel
theorem dJ7_copyOf_9075b_1 : decode cJ7_copyOf_9075b 1 = .ok (.aload_n 0, 1) := by decide +kernel
theorem dJ7_copyOf_9075b_2 : decode cJ7_copyOf_9075b 2 = .ok (.arraylength, 1) := by decide +kernel
theorem dJ7_copyOf_9075b_3 : decode cJ7_copyOf_9075b 3 = .ok (.if_icmp .ne 11, 3) := by decide +kernel
theorem dJ7_copyOf_9075b_6 : decode cJ7_copyOf_9075b 6 = .ok (.aload_n 0, 1) := by decide +kernel
theorem dJ7_copyOf_9075b_7 : decode cJ7_copyOf_9075b 7 = .ok (.invokevirtual 310, 3) := by decide +kernel
theorem dJ7_copyOf_9075b_10 : decode cJ7_copyOf_9075b 10 = .ok (.checkcast 311, 3) := by decide +kernel
theorem dJ7_copyOf_9075b_13 : decode cJ7_copyOf_9075b 13 = .ok (.areturn, 1) := by decide +kernel
theorem dJ7_copyOf_9075b_14 : decode cJ7_copyOf_9075b 14 = .ok (.iload_n 1, 1) := by decide +kernel
theorem dJ7_copyOf_9075b_15 : decode cJ7_copyOf_9075b 15 = .ok (.newarray .byte, 2) := by decide +kernel
theorem dJ7_copyOf_9075b_17 : decode cJ7_copyOf_9075b 17 = .ok (.astore_n 2, 1) := by decide +kernel
theorem dJ7_copyOf_9075b_18 : decode cJ7_copyOf_9075b 18 = .ok (.aload_n 0, 1) := by decide +kernel
theorem dJ7_copyOf_9075b_19 : decode cJ7_copyOf_9075b 19 = .ok (.iconst 0, 1) := by decide +kernel
theorem dJ7_copyOf_9075b_20 : decode cJ7_copyOf_9075b 20 = .ok (.aload_n 2, 1) := by decide +kernel
theorem dJ7_copyOf_9075b_21 : decode cJ7_copyOf_9075b 21 = .ok (.iconst 0, 1) := by decide +kernel
theorem dJ7_copyOf_9075b_22 : decode cJ7_copyOf_9075b 22 = .ok (.aload_n 0, 1) := by decide +kernel
theorem dJ7_copyOf_9075b_23 : decode cJ7_copyOf_9075b 23 = .ok (.arraylength, 1) := by decide +kernel
theorem dJ7_copyOf_9075b_24 : decode cJ7_copyOf_9075b 24 = .ok (.iload_n 1, 1) := by decide +kernel
theorem dJ7_copyOf_9075b_25 : decode cJ7_copyOf_9075b 25 = .ok (.invokestatic 304, 3) := by decide +kernel
theorem dJ7_copyOf_9075b_28 : decode cJ7_copyOf_9075b 28 = .ok (.invokestatic 150, 3) := by decide +kernel
theorem dJ7_copyOf_9075b_31 : decode cJ7_copyOf_9075b 31 = .ok (.aload_n 2, 1) := by decide +kernel
theorem dJ7_copyOf_9075b_32 : decode cJ7_copyOf_9075b 32 = .ok (.areturn, 1) := by decide +kernel
theorem dJ15_checkIndex_7cf53_0 : decode cJ15_checkIndex_7cf53 0 = .ok (.iload_n 0, 1) := by decide +kernel
theorem dJ15_checkIndex_7cf53_1 : decode cJ15_checkIndex_7cf53 1 = .ok (.iload_n 1, 1) := by decide +kernel
theorem dJ15_checkIndex_7cf53_2 : decode cJ15_checkIndex_7cf53 2 = .ok (.aconst_null, 1) := by decide +kernel
theorem dJ15_checkIndex_7cf53_3 : decode cJ15_checkIndex_7cf53 3 = .ok (.invokestatic 105, 3) := by decide +kernel
theorem dJ15_checkIndex_7cf53_6 : decode cJ15_checkIndex_7cf53 6 = .ok (.ireturn, 1) := by decide +kernel
theorem dJ8_newLength_cabcc_0 : decode cJ8_newLength_cabcc 0 = .ok (.iload_n 0, 1) := by decide +kernel
theorem dJ8_newLength_cabcc_1 : decode cJ8_newLength_cabcc 1 = .ok (.iload_n 1, 1) := by decide +kernel
theorem dJ8_newLength_cabcc_2 : decode cJ8_newLength_cabcc 2 = .ok (.iload_n 2, 1) := by decide +kernel
theorem dJ8_newLength_cabcc_3 : decode cJ8_newLength_cabcc 3 = .ok (.invokestatic 194, 3) := by decide +kernel
theorem dJ8_newLength_cabcc_6 : decode cJ8_newLength_cabcc 6 = .ok (.iadd, 1) := by decide +kernel
theorem dJ8_newLength_cabcc_7 : decode cJ8_newLength_cabcc 7 = .ok (.istore_n 3, 1) := by decide +kernel
theorem dJ8_newLength_cabcc_8 : decode cJ8_newLength_cabcc 8 = .ok (.iconst 0, 1) := by decide +kernel
theorem dJ8_newLength_cabcc_9 : decode cJ8_newLength_cabcc 9 = .ok (.iload_n 3, 1) := by decide +kernel
theorem dJ8_newLength_cabcc_10 : decode cJ8_newLength_cabcc 10 = .ok (.if_icmp .ge 11, 3) := by decide +kernel
theorem dJ8_newLength_cabcc_13 : decode cJ8_newLength_cabcc 13 = .ok (.iload_n 3, 1) := by decide +kernel
theorem dJ8_newLength_cabcc_14 : decode cJ8_newLength_cabcc 14 = .ok (.ldc 200, 2) := by decide +kernel
theorem dJ8_newLength_cabcc_16 : decode cJ8_newLength_cabcc 16 = .ok (.if_icmp .gt 5, 3) := by decide +kernel
theorem dJ8_newLength_cabcc_19 : decode cJ8_newLength_cabcc 19 = .ok (.iload_n 3, 1) := by decide +kernel
theorem dJ8_newLength_cabcc_20 : decode cJ8_newLength_cabcc 20 = .ok (.ireturn, 1) := by decide +kernel
theorem dJ8_newLength_cabcc_21 : decode cJ8_newLength_cabcc 21 = .ok (.iload_n 0, 1) := by decide +kernel
theorem dJ8_newLength_cabcc_22 : decode cJ8_newLength_cabcc 22 = .ok (.iload_n 1, 1) := by decide +kernel
theorem dJ8_newLength_cabcc_23 : decode cJ8_newLength_cabcc 23 = .ok (.invokestatic 201, 3) := by decide +kernel
theorem dJ8_newLength_cabcc_26 : decode cJ8_newLength_cabcc 26 = .ok (.ireturn, 1) := by decide +kernel
theorem dJ3_checkIndex_8e157_0 : decode cJ3_checkIndex_8e157 0 = .ok (.iload_n 0, 1) := by decide +kernel
theorem dJ3_checkIndex_8e157_1 : decode cJ3_checkIndex_8e157 1 = .ok (.ifCond .lt 8, 3) := by decide +kernel
theorem dJ3_checkIndex_8e157_4 : decode cJ3_checkIndex_8e157 4 = .ok (.iload_n 0, 1) := by decide +kernel
theorem dJ3_checkIndex_8e157_5 : decode cJ3_checkIndex_8e157 5 = .ok (.iload_n 1, 1) := by decide +kernel
theorem dJ3_checkIndex_8e157_6 : decode cJ3_checkIndex_8e157 6 = .ok (.if_icmp .lt 10, 3) := by decide +kernel
theorem dJ3_checkIndex_8e157_9 : decode cJ3_checkIndex_8e157 9 = .ok (.aload_n 2, 1) := by decide +kernel
theorem dJ3_checkIndex_8e157_10 : decode cJ3_checkIndex_8e157 10 = .ok (.iload_n 0, 1) := by decide +kernel
theorem dJ3_checkIndex_8e157_11 : decode cJ3_checkIndex_8e157 11 = .ok (.iload_n 1, 1) := by decide +kernel
theorem dJ3_checkIndex_8e157_12 : decode cJ3_checkIndex_8e157 12 = .ok (.invokestatic 95, 3) := by decide +kernel
theorem dJ3_checkIndex_8e157_15 : decode cJ3_checkIndex_8e157 15 = .ok (.athrow, 1) := by decide +kernel
theorem dJ3_checkIndex_8e157_16 : decode cJ3_checkIndex_8e157 16 = .ok (.iload_n 0, 1) := by decide +kernel
theorem dJ3_checkIndex_8e157_17 : decode cJ3_checkIndex_8e157 17 = .ok (.ireturn, 1) := by decide +kernel
theorem dL_addHouse_0 : decode cL_addHouse 0 = .ok (.aload_n 2, 1) := by decide +kernel
theorem dL_addHouse_1 : decode cL_addHouse 1 = .ok (.iconst 0, 1) := by decide +kernel
theorem dL_addHouse_2 : decode cL_addHouse 2 = .ok (.aload_n 0, 1) := by decide +kernel
theorem dL_addHouse_3 : decode cL_addHouse 3 = .ok (.iload_n 1, 1) := by decide +kernel
theorem dL_addHouse_4 : decode cL_addHouse 4 = .ok (.invokevirtual 7, 3) := by decide +kernel
theorem dL_addHouse_7 : decode cL_addHouse 7 = .ok (.i2l, 1) := by decide +kernel
theorem dL_addHouse_8 : decode cL_addHouse 8 = .ok (.lastore, 1) := by decide +kernel
theorem dL_addHouse_9 : decode cL_addHouse 9 = .ok (.goto 9, 3) := by decide +kernel
theorem dL_addHouse_12 : decode cL_addHouse 12 = .ok (.astore_n 3, 1) := by decide +kernel
theorem dL_addHouse_13 : decode cL_addHouse 13 = .ok (.iconst 1, 1) := by decide +kernel
theorem dL_addHouse_14 : decode cL_addHouse 14 = .ok (.ireturn, 1) := by decide +kernel
theorem dL_addHouse_15 : decode cL_addHouse 15 = .ok (.astore_n 3, 1) := by decide +kernel
theorem dL_addHouse_16 : decode cL_addHouse 16 = .ok (.iconst 2, 1) := by decide +kernel
theorem dL_addHouse_17 : decode cL_addHouse 17 = .ok (.ireturn, 1) := by decide +kernel
theorem dL_addHouse_18 : decode cL_addHouse 18 = .ok (.iconst 0, 1) := by decide +kernel
theorem dL_addHouse_19 : decode cL_addHouse 19 = .ok (.ireturn, 1) := by decide +kernel
theorem dL_kindOf_0 : decode cL_kindOf 0 = .ok (.aload_n 2, 1) := by decide +kernel
theorem dL_kindOf_1 : decode cL_kindOf 1 = .ok (.iconst 0, 1) := by decide +kernel
theorem dL_kindOf_2 : decode cL_kindOf 2 = .ok (.aload_n 0, 1) := by decide +kernel
theorem dL_kindOf_3 : decode cL_kindOf 3 = .ok (.iload_n 1, 1) := by decide +kernel
theorem dL_kindOf_4 : decode cL_kindOf 4 = .ok (.invokevirtual 17, 3) := by decide +kernel
theorem dL_kindOf_7 : decode cL_kindOf 7 = .ok (.i2l, 1) := by decide +kernel
theorem dL_kindOf_8 : decode cL_kindOf 8 = .ok (.lastore, 1) := by decide +kernel
theorem dL_kindOf_9 : decode cL_kindOf 9 = .ok (.goto 6, 3) := by decide +kernel
theorem dL_kindOf_12 : decode cL_kindOf 12 = .ok (.astore_n 3, 1) := by decide +kernel
theorem dL_kindOf_13 : decode cL_kindOf 13 = .ok (.iconst 1, 1) := by decide +kernel
theorem dL_kindOf_14 : decode cL_kindOf 14 = .ok (.ireturn, 1) := by decide +kernel
theorem dL_kindOf_15 : decode cL_kindOf 15 = .ok (.iconst 0, 1) := by decide +kernel
theorem dL_kindOf_16 : decode cL_kindOf 16 = .ok (.ireturn, 1) := by decide +kernel
theorem dL_dig_0 : decode cL_dig 0 = .ok (.aload 4, 2) := by decide +kernel
theorem dL_dig_2 : decode cL_dig 2 = .ok (.iconst 0, 1) := by decide +kernel
theorem dL_dig_3 : decode cL_dig 3 = .ok (.aload_n 0, 1) := by decide +kernel
theorem dL_dig_4 : decode cL_dig 4 = .ok (.iload_n 1, 1) := by decide +kernel
theorem dL_dig_5 : decode cL_dig 5 = .ok (.iload_n 2, 1) := by decide +kernel
theorem dL_dig_6 : decode cL_dig 6 = .ok (.iload_n 3, 1) := by decide +kernel
theorem dL_dig_7 : decode cL_dig 7 = .ok (.invokevirtual 23, 3) := by decide +kernel
theorem dL_dig_10 : decode cL_dig 10 = .ok (.i2l, 1) := by decide +kernel
theorem dL_dig_11 : decode cL_dig 11 = .ok (.lastore, 1) := by decide +kernel
theorem dL_dig_12 : decode cL_dig 12 = .ok (.goto 15, 3) := by decide +kernel
theorem dL_dig_15 : decode cL_dig 15 = .ok (.astore 5, 2) := by decide +kernel
theorem dL_dig_17 : decode cL_dig 17 = .ok (.iconst 1, 1) := by decide +kernel
theorem dL_dig_18 : decode cL_dig 18 = .ok (.ireturn, 1) := by decide +kernel
theorem dL_dig_19 : decode cL_dig 19 = .ok (.astore 5, 2) := by decide +kernel
theorem dL_dig_21 : decode cL_dig 21 = .ok (.iconst 2, 1) := by decide +kernel
theorem dL_dig_22 : decode cL_dig 22 = .ok (.ireturn, 1) := by decide +kernel
theorem dL_dig_23 : decode cL_dig 23 = .ok (.astore 5, 2) := by decide +kernel
theorem dL_dig_25 : decode cL_dig 25 = .ok (.iconst 3, 1) := by decide +kernel
theorem dL_dig_26 : decode cL_dig 26 = .ok (.ireturn, 1) := by decide +kernel
theorem dL_dig_27 : decode cL_dig 27 = .ok (.iconst 0, 1) := by decide +kernel
theorem dL_dig_28 : decode cL_dig 28 = .ok (.ireturn, 1) := by decide +kernel
theorem dL_decree_0 : decode cL_decree 0 = .ok (.aload 4, 2) := by decide +kernel
theorem dL_decree_2 : decode cL_decree 2 = .ok (.iconst 0, 1) := by decide +kernel
theorem dL_decree_3 : decode cL_decree 3 = .ok (.aload_n 0, 1) := by decide +kernel
theorem dL_decree_4 : decode cL_decree 4 = .ok (.iload_n 1, 1) := by decide +kernel
theorem dL_decree_5 : decode cL_decree 5 = .ok (.iload_n 2, 1) := by decide +kernel
theorem dL_decree_6 : decode cL_decree 6 = .ok (.iload_n 3, 1) := by decide +kernel
theorem dL_decree_7 : decode cL_decree 7 = .ok (.invokevirtual 27, 3) := by decide +kernel
theorem dL_decree_10 : decode cL_decree 10 = .ok (.i2l, 1) := by decide +kernel
theorem dL_decree_11 : decode cL_decree 11 = .ok (.lastore, 1) := by decide +kernel
theorem dL_decree_12 : decode cL_decree 12 = .ok (.goto 7, 3) := by decide +kernel
theorem dL_decree_15 : decode cL_decree 15 = .ok (.astore 5, 2) := by decide +kernel
theorem dL_decree_17 : decode cL_decree 17 = .ok (.iconst 1, 1) := by decide +kernel
theorem dL_decree_18 : decode cL_decree 18 = .ok (.ireturn, 1) := by decide +kernel
theorem dL_decree_19 : decode cL_decree 19 = .ok (.iconst 0, 1) := by decide +kernel
theorem dL_decree_20 : decode cL_decree 20 = .ok (.ireturn, 1) := by decide +kernel
theorem dL_mint_0 : decode cL_mint 0 = .ok (.aload 4, 2) := by decide +kernel
theorem dL_mint_2 : decode cL_mint 2 = .ok (.iconst 0, 1) := by decide +kernel
theorem dL_mint_3 : decode cL_mint 3 = .ok (.aload_n 0, 1) := by decide +kernel
theorem dL_mint_4 : decode cL_mint 4 = .ok (.iload_n 1, 1) := by decide +kernel
theorem dL_mint_5 : decode cL_mint 5 = .ok (.iload_n 2, 1) := by decide +kernel
theorem dL_mint_6 : decode cL_mint 6 = .ok (.iload_n 3, 1) := by decide +kernel
theorem dL_mint_7 : decode cL_mint 7 = .ok (.invokevirtual 31, 3) := by decide +kernel
theorem dL_mint_10 : decode cL_mint 10 = .ok (.i2l, 1) := by decide +kernel
theorem dL_mint_11 : decode cL_mint 11 = .ok (.lastore, 1) := by decide +kernel
theorem dL_mint_12 : decode cL_mint 12 = .ok (.goto 19, 3) := by decide +kernel
theorem dL_mint_15 : decode cL_mint 15 = .ok (.astore 5, 2) := by decide +kernel
theorem dL_mint_17 : decode cL_mint 17 = .ok (.iconst 1, 1) := by decide +kernel
theorem dL_mint_18 : decode cL_mint 18 = .ok (.ireturn, 1) := by decide +kernel
theorem dL_mint_19 : decode cL_mint 19 = .ok (.astore 5, 2) := by decide +kernel
theorem dL_mint_21 : decode cL_mint 21 = .ok (.iconst 2, 1) := by decide +kernel
theorem dL_mint_22 : decode cL_mint 22 = .ok (.ireturn, 1) := by decide +kernel
theorem dL_mint_23 : decode cL_mint 23 = .ok (.astore 5, 2) := by decide +kernel
theorem dL_mint_25 : decode cL_mint 25 = .ok (.iconst 3, 1) := by decide +kernel
theorem dL_mint_26 : decode cL_mint 26 = .ok (.ireturn, 1) := by decide +kernel
theorem dL_mint_27 : decode cL_mint 27 = .ok (.astore 5, 2) := by decide +kernel
theorem dL_mint_29 : decode cL_mint 29 = .ok (.iconst 4, 1) := by decide +kernel
theorem dL_mint_30 : decode cL_mint 30 = .ok (.ireturn, 1) := by decide +kernel
theorem dL_mint_31 : decode cL_mint 31 = .ok (.iconst 0, 1) := by decide +kernel
theorem dL_mint_32 : decode cL_mint 32 = .ok (.ireturn, 1) := by decide +kernel
theorem dL_clip_0 : decode cL_clip 0 = .ok (.aload_n 3, 1) := by decide +kernel
theorem dL_clip_1 : decode cL_clip 1 = .ok (.iconst 0, 1) := by decide +kernel
theorem dL_clip_2 : decode cL_clip 2 = .ok (.aload_n 0, 1) := by decide +kernel
theorem dL_clip_3 : decode cL_clip 3 = .ok (.iload_n 1, 1) := by decide +kernel
theorem dL_clip_4 : decode cL_clip 4 = .ok (.iload_n 2, 1) := by decide +kernel
theorem dL_clip_5 : decode cL_clip 5 = .ok (.invokevirtual 36, 3) := by decide +kernel
theorem dL_clip_8 : decode cL_clip 8 = .ok (.i2l, 1) := by decide +kernel
theorem dL_clip_9 : decode cL_clip 9 = .ok (.lastore, 1) := by decide +kernel
theorem dL_clip_10 : decode cL_clip 10 = .ok (.goto 15, 3) := by decide +kernel
theorem dL_clip_13 : decode cL_clip 13 = .ok (.astore 4, 2) := by decide +kernel
theorem dL_clip_15 : decode cL_clip 15 = .ok (.iconst 1, 1) := by decide +kernel
theorem dL_clip_16 : decode cL_clip 16 = .ok (.ireturn, 1) := by decide +kernel
theorem dL_clip_17 : decode cL_clip 17 = .ok (.astore 4, 2) := by decide +kernel
theorem dL_clip_19 : decode cL_clip 19 = .ok (.iconst 2, 1) := by decide +kernel
theorem dL_clip_20 : decode cL_clip 20 = .ok (.ireturn, 1) := by decide +kernel
theorem dL_clip_21 : decode cL_clip 21 = .ok (.astore 4, 2) := by decide +kernel
theorem dL_clip_23 : decode cL_clip 23 = .ok (.iconst 3, 1) := by decide +kernel
theorem dL_clip_24 : decode cL_clip 24 = .ok (.ireturn, 1) := by decide +kernel
theorem dL_clip_25 : decode cL_clip 25 = .ok (.iconst 0, 1) := by decide +kernel
theorem dL_clip_26 : decode cL_clip 26 = .ok (.ireturn, 1) := by decide +kernel
theorem dL_hoard_0 : decode cL_hoard 0 = .ok (.aload_n 3, 1) := by decide +kernel
theorem dL_hoard_1 : decode cL_hoard 1 = .ok (.iconst 0, 1) := by decide +kernel
theorem dL_hoard_2 : decode cL_hoard 2 = .ok (.aload_n 0, 1) := by decide +kernel
theorem dL_hoard_3 : decode cL_hoard 3 = .ok (.iload_n 1, 1) := by decide +kernel
theorem dL_hoard_4 : decode cL_hoard 4 = .ok (.iload_n 2, 1) := by decide +kernel
theorem dL_hoard_5 : decode cL_hoard 5 = .ok (.invokevirtual 40, 3) := by decide +kernel
theorem dL_hoard_8 : decode cL_hoard 8 = .ok (.ifCond .eq 7, 3) := by decide +kernel
theorem dL_hoard_11 : decode cL_hoard 11 = .ok (.lconst 1, 1) := by decide +kernel
theorem dL_hoard_12 : decode cL_hoard 12 = .ok (.goto 4, 3) := by decide +kernel
theorem dL_hoard_15 : decode cL_hoard 15 = .ok (.lconst 0, 1) := by decide +kernel
theorem dL_hoard_16 : decode cL_hoard 16 = .ok (.lastore, 1) := by decide +kernel
theorem dL_hoard_17 : decode cL_hoard 17 = .ok (.goto 11, 3) := by decide +kernel
theorem dL_hoard_20 : decode cL_hoard 20 = .ok (.astore 4, 2) := by decide +kernel
theorem dL_hoard_22 : decode cL_hoard 22 = .ok (.iconst 1, 1) := by decide +kernel
theorem dL_hoard_23 : decode cL_hoard 23 = .ok (.ireturn, 1) := by decide +kernel
theorem dL_hoard_24 : decode cL_hoard 24 = .ok (.astore 4, 2) := by decide +kernel
theorem dL_hoard_26 : decode cL_hoard 26 = .ok (.iconst 2, 1) := by decide +kernel
theorem dL_hoard_27 : decode cL_hoard 27 = .ok (.ireturn, 1) := by decide +kernel
theorem dL_hoard_28 : decode cL_hoard 28 = .ok (.iconst 0, 1) := by decide +kernel
theorem dL_hoard_29 : decode cL_hoard 29 = .ok (.ireturn, 1) := by decide +kernel
theorem dL_recoin_0 : decode cL_recoin 0 = .ok (.aload_n 3, 1) := by decide +kernel
theorem dL_recoin_1 : decode cL_recoin 1 = .ok (.iconst 0, 1) := by decide +kernel
theorem dL_recoin_2 : decode cL_recoin 2 = .ok (.aload_n 0, 1) := by decide +kernel
theorem dL_recoin_3 : decode cL_recoin 3 = .ok (.iload_n 1, 1) := by decide +kernel
theorem dL_recoin_4 : decode cL_recoin 4 = .ok (.iload_n 2, 1) := by decide +kernel
theorem dL_recoin_5 : decode cL_recoin 5 = .ok (.invokevirtual 44, 3) := by decide +kernel
theorem dL_recoin_8 : decode cL_recoin 8 = .ok (.i2l, 1) := by decide +kernel
theorem dL_recoin_9 : decode cL_recoin 9 = .ok (.lastore, 1) := by decide +kernel
theorem dL_recoin_10 : decode cL_recoin 10 = .ok (.goto 15, 3) := by decide +kernel
theorem dL_recoin_13 : decode cL_recoin 13 = .ok (.astore 4, 2) := by decide +kernel
theorem dL_recoin_15 : decode cL_recoin 15 = .ok (.iconst 1, 1) := by decide +kernel
theorem dL_recoin_16 : decode cL_recoin 16 = .ok (.ireturn, 1) := by decide +kernel
theorem dL_recoin_17 : decode cL_recoin 17 = .ok (.astore 4, 2) := by decide +kernel
theorem dL_recoin_19 : decode cL_recoin 19 = .ok (.iconst 2, 1) := by decide +kernel
theorem dL_recoin_20 : decode cL_recoin 20 = .ok (.ireturn, 1) := by decide +kernel
theorem dL_recoin_21 : decode cL_recoin 21 = .ok (.astore 4, 2) := by decide +kernel
theorem dL_recoin_23 : decode cL_recoin 23 = .ok (.iconst 3, 1) := by decide +kernel
theorem dL_recoin_24 : decode cL_recoin 24 = .ok (.ireturn, 1) := by decide +kernel
theorem dL_recoin_25 : decode cL_recoin 25 = .ok (.iconst 0, 1) := by decide +kernel
theorem dL_recoin_26 : decode cL_recoin 26 = .ok (.ireturn, 1) := by decide +kernel
theorem dL_pay_0 : decode cL_pay 0 = .ok (.aload 5, 2) := by decide +kernel
theorem dL_pay_2 : decode cL_pay 2 = .ok (.iconst 0, 1) := by decide +kernel
theorem dL_pay_3 : decode cL_pay 3 = .ok (.aload_n 0, 1) := by decide +kernel
theorem dL_pay_4 : decode cL_pay 4 = .ok (.iload_n 1, 1) := by decide +kernel
theorem dL_pay_5 : decode cL_pay 5 = .ok (.iload_n 2, 1) := by decide +kernel
theorem dL_pay_6 : decode cL_pay 6 = .ok (.iload_n 3, 1) := by decide +kernel
theorem dL_pay_7 : decode cL_pay 7 = .ok (.iload 4, 2) := by decide +kernel
theorem dL_pay_9 : decode cL_pay 9 = .ok (.invokevirtual 48, 3) := by decide +kernel
theorem dL_pay_12 : decode cL_pay 12 = .ok (.i2l, 1) := by decide +kernel
theorem dL_pay_13 : decode cL_pay 13 = .ok (.lastore, 1) := by decide +kernel
theorem dL_pay_14 : decode cL_pay 14 = .ok (.goto 19, 3) := by decide +kernel
theorem dL_pay_17 : decode cL_pay 17 = .ok (.astore 6, 2) := by decide +kernel
theorem dL_pay_19 : decode cL_pay 19 = .ok (.iconst 1, 1) := by decide +kernel
theorem dL_pay_20 : decode cL_pay 20 = .ok (.ireturn, 1) := by decide +kernel
theorem dL_pay_21 : decode cL_pay 21 = .ok (.astore 6, 2) := by decide +kernel
theorem dL_pay_23 : decode cL_pay 23 = .ok (.iconst 2, 1) := by decide +kernel
theorem dL_pay_24 : decode cL_pay 24 = .ok (.ireturn, 1) := by decide +kernel
theorem dL_pay_25 : decode cL_pay 25 = .ok (.astore 6, 2) := by decide +kernel
theorem dL_pay_27 : decode cL_pay 27 = .ok (.iconst 3, 1) := by decide +kernel
theorem dL_pay_28 : decode cL_pay 28 = .ok (.ireturn, 1) := by decide +kernel
theorem dL_pay_29 : decode cL_pay 29 = .ok (.astore 6, 2) := by decide +kernel
theorem dL_pay_31 : decode cL_pay 31 = .ok (.iconst 4, 1) := by decide +kernel
theorem dL_pay_32 : decode cL_pay 32 = .ok (.ireturn, 1) := by decide +kernel
theorem dL_pay_33 : decode cL_pay 33 = .ok (.iconst 0, 1) := by decide +kernel
theorem dL_pay_34 : decode cL_pay 34 = .ok (.ireturn, 1) := by decide +kernel
theorem dL_deposit_0 : decode cL_deposit 0 = .ok (.aload 5, 2) := by decide +kernel
theorem dL_deposit_2 : decode cL_deposit 2 = .ok (.iconst 0, 1) := by decide +kernel
theorem dL_deposit_3 : decode cL_deposit 3 = .ok (.aload_n 0, 1) := by decide +kernel
theorem dL_deposit_4 : decode cL_deposit 4 = .ok (.iload_n 1, 1) := by decide +kernel
theorem dL_deposit_5 : decode cL_deposit 5 = .ok (.iload_n 2, 1) := by decide +kernel
theorem dL_deposit_6 : decode cL_deposit 6 = .ok (.iload_n 3, 1) := by decide +kernel
theorem dL_deposit_7 : decode cL_deposit 7 = .ok (.iload 4, 2) := by decide +kernel
theorem dL_deposit_9 : decode cL_deposit 9 = .ok (.invokevirtual 52, 3) := by decide +kernel
theorem dL_deposit_12 : decode cL_deposit 12 = .ok (.i2l, 1) := by decide +kernel
theorem dL_deposit_13 : decode cL_deposit 13 = .ok (.lastore, 1) := by decide +kernel
theorem dL_deposit_14 : decode cL_deposit 14 = .ok (.goto 19, 3) := by decide +kernel
theorem dL_deposit_17 : decode cL_deposit 17 = .ok (.astore 6, 2) := by decide +kernel
theorem dL_deposit_19 : decode cL_deposit 19 = .ok (.iconst 1, 1) := by decide +kernel
theorem dL_deposit_20 : decode cL_deposit 20 = .ok (.ireturn, 1) := by decide +kernel
theorem dL_deposit_21 : decode cL_deposit 21 = .ok (.astore 6, 2) := by decide +kernel
theorem dL_deposit_23 : decode cL_deposit 23 = .ok (.iconst 2, 1) := by decide +kernel
theorem dL_deposit_24 : decode cL_deposit 24 = .ok (.ireturn, 1) := by decide +kernel
theorem dL_deposit_25 : decode cL_deposit 25 = .ok (.astore 6, 2) := by decide +kernel
theorem dL_deposit_27 : decode cL_deposit 27 = .ok (.iconst 3, 1) := by decide +kernel
theorem dL_deposit_28 : decode cL_deposit 28 = .ok (.ireturn, 1) := by decide +kernel
theorem dL_deposit_29 : decode cL_deposit 29 = .ok (.astore 6, 2) := by decide +kernel
theorem dL_deposit_31 : decode cL_deposit 31 = .ok (.iconst 4, 1) := by decide +kernel
theorem dL_deposit_32 : decode cL_deposit 32 = .ok (.ireturn, 1) := by decide +kernel
theorem dL_deposit_33 : decode cL_deposit 33 = .ok (.iconst 0, 1) := by decide +kernel
theorem dL_deposit_34 : decode cL_deposit 34 = .ok (.ireturn, 1) := by decide +kernel
theorem dL_withdraw_0 : decode cL_withdraw 0 = .ok (.aload 5, 2) := by decide +kernel
theorem dL_withdraw_2 : decode cL_withdraw 2 = .ok (.iconst 0, 1) := by decide +kernel
theorem dL_withdraw_3 : decode cL_withdraw 3 = .ok (.aload_n 0, 1) := by decide +kernel
theorem dL_withdraw_4 : decode cL_withdraw 4 = .ok (.iload_n 1, 1) := by decide +kernel
theorem dL_withdraw_5 : decode cL_withdraw 5 = .ok (.iload_n 2, 1) := by decide +kernel
theorem dL_withdraw_6 : decode cL_withdraw 6 = .ok (.iload_n 3, 1) := by decide +kernel
theorem dL_withdraw_7 : decode cL_withdraw 7 = .ok (.iload 4, 2) := by decide +kernel
theorem dL_withdraw_9 : decode cL_withdraw 9 = .ok (.invokevirtual 55, 3) := by decide +kernel
theorem dL_withdraw_12 : decode cL_withdraw 12 = .ok (.i2l, 1) := by decide +kernel
theorem dL_withdraw_13 : decode cL_withdraw 13 = .ok (.lastore, 1) := by decide +kernel
theorem dL_withdraw_14 : decode cL_withdraw 14 = .ok (.goto 19, 3) := by decide +kernel
theorem dL_withdraw_17 : decode cL_withdraw 17 = .ok (.astore 6, 2) := by decide +kernel
theorem dL_withdraw_19 : decode cL_withdraw 19 = .ok (.iconst 1, 1) := by decide +kernel
theorem dL_withdraw_20 : decode cL_withdraw 20 = .ok (.ireturn, 1) := by decide +kernel
theorem dL_withdraw_21 : decode cL_withdraw 21 = .ok (.astore 6, 2) := by decide +kernel
theorem dL_withdraw_23 : decode cL_withdraw 23 = .ok (.iconst 2, 1) := by decide +kernel
theorem dL_withdraw_24 : decode cL_withdraw 24 = .ok (.ireturn, 1) := by decide +kernel
theorem dL_withdraw_25 : decode cL_withdraw 25 = .ok (.astore 6, 2) := by decide +kernel
theorem dL_withdraw_27 : decode cL_withdraw 27 = .ok (.iconst 3, 1) := by decide +kernel
theorem dL_withdraw_28 : decode cL_withdraw 28 = .ok (.ireturn, 1) := by decide +kernel
theorem dL_withdraw_29 : decode cL_withdraw 29 = .ok (.astore 6, 2) := by decide +kernel
theorem dL_withdraw_31 : decode cL_withdraw 31 = .ok (.iconst 4, 1) := by decide +kernel
theorem dL_withdraw_32 : decode cL_withdraw 32 = .ok (.ireturn, 1) := by decide +kernel
theorem dL_withdraw_33 : decode cL_withdraw 33 = .ok (.iconst 0, 1) := by decide +kernel
theorem dL_withdraw_34 : decode cL_withdraw 34 = .ok (.ireturn, 1) := by decide +kernel
theorem dL_lend_0 : decode cL_lend 0 = .ok (.aload 4, 2) := by decide +kernel
theorem dL_lend_2 : decode cL_lend 2 = .ok (.iconst 0, 1) := by decide +kernel
theorem dL_lend_3 : decode cL_lend 3 = .ok (.aload_n 0, 1) := by decide +kernel
theorem dL_lend_4 : decode cL_lend 4 = .ok (.iload_n 1, 1) := by decide +kernel
theorem dL_lend_5 : decode cL_lend 5 = .ok (.iload_n 2, 1) := by decide +kernel
theorem dL_lend_6 : decode cL_lend 6 = .ok (.iload_n 3, 1) := by decide +kernel
theorem dL_lend_7 : decode cL_lend 7 = .ok (.invokevirtual 59, 3) := by decide +kernel
theorem dL_lend_10 : decode cL_lend 10 = .ok (.i2l, 1) := by decide +kernel
theorem dL_lend_11 : decode cL_lend 11 = .ok (.lastore, 1) := by decide +kernel
theorem dL_lend_12 : decode cL_lend 12 = .ok (.goto 15, 3) := by decide +kernel
theorem dL_lend_15 : decode cL_lend 15 = .ok (.astore 5, 2) := by decide +kernel
theorem dL_lend_17 : decode cL_lend 17 = .ok (.iconst 1, 1) := by decide +kernel
theorem dL_lend_18 : decode cL_lend 18 = .ok (.ireturn, 1) := by decide +kernel
theorem dL_lend_19 : decode cL_lend 19 = .ok (.astore 5, 2) := by decide +kernel
theorem dL_lend_21 : decode cL_lend 21 = .ok (.iconst 2, 1) := by decide +kernel
theorem dL_lend_22 : decode cL_lend 22 = .ok (.ireturn, 1) := by decide +kernel
theorem dL_lend_23 : decode cL_lend 23 = .ok (.astore 5, 2) := by decide +kernel
theorem dL_lend_25 : decode cL_lend 25 = .ok (.iconst 3, 1) := by decide +kernel
theorem dL_lend_26 : decode cL_lend 26 = .ok (.ireturn, 1) := by decide +kernel
theorem dL_lend_27 : decode cL_lend 27 = .ok (.iconst 0, 1) := by decide +kernel
theorem dL_lend_28 : decode cL_lend 28 = .ok (.ireturn, 1) := by decide +kernel
theorem dL_hand_0 : decode cL_hand 0 = .ok (.aload 5, 2) := by decide +kernel
theorem dL_hand_2 : decode cL_hand 2 = .ok (.iconst 0, 1) := by decide +kernel
theorem dL_hand_3 : decode cL_hand 3 = .ok (.aload_n 0, 1) := by decide +kernel
theorem dL_hand_4 : decode cL_hand 4 = .ok (.iload_n 1, 1) := by decide +kernel
theorem dL_hand_5 : decode cL_hand 5 = .ok (.iload_n 2, 1) := by decide +kernel
theorem dL_hand_6 : decode cL_hand 6 = .ok (.iload_n 3, 1) := by decide +kernel
theorem dL_hand_7 : decode cL_hand 7 = .ok (.iload 4, 2) := by decide +kernel
theorem dL_hand_9 : decode cL_hand 9 = .ok (.invokevirtual 63, 3) := by decide +kernel
theorem dL_hand_12 : decode cL_hand 12 = .ok (.i2l, 1) := by decide +kernel
theorem dL_hand_13 : decode cL_hand 13 = .ok (.lastore, 1) := by decide +kernel
theorem dL_hand_14 : decode cL_hand 14 = .ok (.goto 19, 3) := by decide +kernel
theorem dL_hand_17 : decode cL_hand 17 = .ok (.astore 6, 2) := by decide +kernel
theorem dL_hand_19 : decode cL_hand 19 = .ok (.iconst 1, 1) := by decide +kernel
theorem dL_hand_20 : decode cL_hand 20 = .ok (.ireturn, 1) := by decide +kernel
theorem dL_hand_21 : decode cL_hand 21 = .ok (.astore 6, 2) := by decide +kernel
theorem dL_hand_23 : decode cL_hand 23 = .ok (.iconst 2, 1) := by decide +kernel
theorem dL_hand_24 : decode cL_hand 24 = .ok (.ireturn, 1) := by decide +kernel
theorem dL_hand_25 : decode cL_hand 25 = .ok (.astore 6, 2) := by decide +kernel
theorem dL_hand_27 : decode cL_hand 27 = .ok (.iconst 3, 1) := by decide +kernel
theorem dL_hand_28 : decode cL_hand 28 = .ok (.ireturn, 1) := by decide +kernel
theorem dL_hand_29 : decode cL_hand 29 = .ok (.astore 6, 2) := by decide +kernel
theorem dL_hand_31 : decode cL_hand 31 = .ok (.iconst 4, 1) := by decide +kernel
theorem dL_hand_32 : decode cL_hand 32 = .ok (.ireturn, 1) := by decide +kernel
theorem dL_hand_33 : decode cL_hand 33 = .ok (.iconst 0, 1) := by decide +kernel
theorem dL_hand_34 : decode cL_hand 34 = .ok (.ireturn, 1) := by decide +kernel
theorem dL_forgive_0 : decode cL_forgive 0 = .ok (.aload 4, 2) := by decide +kernel
theorem dL_forgive_2 : decode cL_forgive 2 = .ok (.iconst 0, 1) := by decide +kernel
theorem dL_forgive_3 : decode cL_forgive 3 = .ok (.aload_n 0, 1) := by decide +kernel
theorem dL_forgive_4 : decode cL_forgive 4 = .ok (.iload_n 1, 1) := by decide +kernel
theorem dL_forgive_5 : decode cL_forgive 5 = .ok (.iload_n 2, 1) := by decide +kernel
theorem dL_forgive_6 : decode cL_forgive 6 = .ok (.iload_n 3, 1) := by decide +kernel
theorem dL_forgive_7 : decode cL_forgive 7 = .ok (.invokevirtual 67, 3) := by decide +kernel
theorem dL_forgive_10 : decode cL_forgive 10 = .ok (.i2l, 1) := by decide +kernel
theorem dL_forgive_11 : decode cL_forgive 11 = .ok (.lastore, 1) := by decide +kernel
theorem dL_forgive_12 : decode cL_forgive 12 = .ok (.goto 15, 3) := by decide +kernel
theorem dL_forgive_15 : decode cL_forgive 15 = .ok (.astore 5, 2) := by decide +kernel
theorem dL_forgive_17 : decode cL_forgive 17 = .ok (.iconst 1, 1) := by decide +kernel
theorem dL_forgive_18 : decode cL_forgive 18 = .ok (.ireturn, 1) := by decide +kernel
theorem dL_forgive_19 : decode cL_forgive 19 = .ok (.astore 5, 2) := by decide +kernel
theorem dL_forgive_21 : decode cL_forgive 21 = .ok (.iconst 2, 1) := by decide +kernel
theorem dL_forgive_22 : decode cL_forgive 22 = .ok (.ireturn, 1) := by decide +kernel
theorem dL_forgive_23 : decode cL_forgive 23 = .ok (.astore 5, 2) := by decide +kernel
theorem dL_forgive_25 : decode cL_forgive 25 = .ok (.iconst 3, 1) := by decide +kernel
theorem dL_forgive_26 : decode cL_forgive 26 = .ok (.ireturn, 1) := by decide +kernel
theorem dL_forgive_27 : decode cL_forgive 27 = .ok (.iconst 0, 1) := by decide +kernel
theorem dL_forgive_28 : decode cL_forgive 28 = .ok (.ireturn, 1) := by decide +kernel
theorem dL_claim_0 : decode cL_claim 0 = .ok (.aload_n 3, 1) := by decide +kernel
theorem dL_claim_1 : decode cL_claim 1 = .ok (.iconst 0, 1) := by decide +kernel
theorem dL_claim_2 : decode cL_claim 2 = .ok (.aload_n 0, 1) := by decide +kernel
theorem dL_claim_3 : decode cL_claim 3 = .ok (.iload_n 1, 1) := by decide +kernel
theorem dL_claim_4 : decode cL_claim 4 = .ok (.iload_n 2, 1) := by decide +kernel
theorem dL_claim_5 : decode cL_claim 5 = .ok (.invokevirtual 70, 3) := by decide +kernel
theorem dL_claim_8 : decode cL_claim 8 = .ok (.i2l, 1) := by decide +kernel
theorem dL_claim_9 : decode cL_claim 9 = .ok (.lastore, 1) := by decide +kernel
theorem dL_claim_10 : decode cL_claim 10 = .ok (.goto 7, 3) := by decide +kernel
theorem dL_claim_13 : decode cL_claim 13 = .ok (.astore 4, 2) := by decide +kernel
theorem dL_claim_15 : decode cL_claim 15 = .ok (.iconst 1, 1) := by decide +kernel
theorem dL_claim_16 : decode cL_claim 16 = .ok (.ireturn, 1) := by decide +kernel
theorem dL_claim_17 : decode cL_claim 17 = .ok (.iconst 0, 1) := by decide +kernel
theorem dL_claim_18 : decode cL_claim 18 = .ok (.ireturn, 1) := by decide +kernel
theorem dL_draw_0 : decode cL_draw 0 = .ok (.aload 5, 2) := by decide +kernel
theorem dL_draw_2 : decode cL_draw 2 = .ok (.iconst 0, 1) := by decide +kernel
theorem dL_draw_3 : decode cL_draw 3 = .ok (.aload_n 0, 1) := by decide +kernel
theorem dL_draw_4 : decode cL_draw 4 = .ok (.iload_n 1, 1) := by decide +kernel
theorem dL_draw_5 : decode cL_draw 5 = .ok (.iload_n 2, 1) := by decide +kernel
theorem dL_draw_6 : decode cL_draw 6 = .ok (.iload_n 3, 1) := by decide +kernel
theorem dL_draw_7 : decode cL_draw 7 = .ok (.iload 4, 2) := by decide +kernel
theorem dL_draw_9 : decode cL_draw 9 = .ok (.invokevirtual 73, 3) := by decide +kernel
theorem dL_draw_12 : decode cL_draw 12 = .ok (.i2l, 1) := by decide +kernel
theorem dL_draw_13 : decode cL_draw 13 = .ok (.lastore, 1) := by decide +kernel
theorem dL_draw_14 : decode cL_draw 14 = .ok (.goto 19, 3) := by decide +kernel
theorem dL_draw_17 : decode cL_draw 17 = .ok (.astore 6, 2) := by decide +kernel
theorem dL_draw_19 : decode cL_draw 19 = .ok (.iconst 1, 1) := by decide +kernel
theorem dL_draw_20 : decode cL_draw 20 = .ok (.ireturn, 1) := by decide +kernel
theorem dL_draw_21 : decode cL_draw 21 = .ok (.astore 6, 2) := by decide +kernel
theorem dL_draw_23 : decode cL_draw 23 = .ok (.iconst 2, 1) := by decide +kernel
theorem dL_draw_24 : decode cL_draw 24 = .ok (.ireturn, 1) := by decide +kernel
theorem dL_draw_25 : decode cL_draw 25 = .ok (.astore 6, 2) := by decide +kernel
theorem dL_draw_27 : decode cL_draw 27 = .ok (.iconst 3, 1) := by decide +kernel
theorem dL_draw_28 : decode cL_draw 28 = .ok (.ireturn, 1) := by decide +kernel
theorem dL_draw_29 : decode cL_draw 29 = .ok (.astore 6, 2) := by decide +kernel
theorem dL_draw_31 : decode cL_draw 31 = .ok (.iconst 4, 1) := by decide +kernel
theorem dL_draw_32 : decode cL_draw 32 = .ok (.ireturn, 1) := by decide +kernel
theorem dL_draw_33 : decode cL_draw 33 = .ok (.iconst 0, 1) := by decide +kernel
theorem dL_draw_34 : decode cL_draw 34 = .ok (.ireturn, 1) := by decide +kernel
theorem dL_endorse_0 : decode cL_endorse 0 = .ok (.aload_n 3, 1) := by decide +kernel
theorem dL_endorse_1 : decode cL_endorse 1 = .ok (.iconst 0, 1) := by decide +kernel
theorem dL_endorse_2 : decode cL_endorse 2 = .ok (.aload_n 0, 1) := by decide +kernel
theorem dL_endorse_3 : decode cL_endorse 3 = .ok (.iload_n 1, 1) := by decide +kernel
theorem dL_endorse_4 : decode cL_endorse 4 = .ok (.iload_n 2, 1) := by decide +kernel
theorem dL_endorse_5 : decode cL_endorse 5 = .ok (.invokevirtual 76, 3) := by decide +kernel
theorem dL_endorse_8 : decode cL_endorse 8 = .ok (.i2l, 1) := by decide +kernel
theorem dL_endorse_9 : decode cL_endorse 9 = .ok (.lastore, 1) := by decide +kernel
theorem dL_endorse_10 : decode cL_endorse 10 = .ok (.goto 19, 3) := by decide +kernel
theorem dL_endorse_13 : decode cL_endorse 13 = .ok (.astore 4, 2) := by decide +kernel
theorem dL_endorse_15 : decode cL_endorse 15 = .ok (.iconst 1, 1) := by decide +kernel
theorem dL_endorse_16 : decode cL_endorse 16 = .ok (.ireturn, 1) := by decide +kernel
theorem dL_endorse_17 : decode cL_endorse 17 = .ok (.astore 4, 2) := by decide +kernel
theorem dL_endorse_19 : decode cL_endorse 19 = .ok (.iconst 2, 1) := by decide +kernel
theorem dL_endorse_20 : decode cL_endorse 20 = .ok (.ireturn, 1) := by decide +kernel
theorem dL_endorse_21 : decode cL_endorse 21 = .ok (.astore 4, 2) := by decide +kernel
theorem dL_endorse_23 : decode cL_endorse 23 = .ok (.iconst 3, 1) := by decide +kernel
theorem dL_endorse_24 : decode cL_endorse 24 = .ok (.ireturn, 1) := by decide +kernel
theorem dL_endorse_25 : decode cL_endorse 25 = .ok (.astore 4, 2) := by decide +kernel
theorem dL_endorse_27 : decode cL_endorse 27 = .ok (.iconst 4, 1) := by decide +kernel
theorem dL_endorse_28 : decode cL_endorse 28 = .ok (.ireturn, 1) := by decide +kernel
theorem dL_endorse_29 : decode cL_endorse 29 = .ok (.iconst 0, 1) := by decide +kernel
theorem dL_endorse_30 : decode cL_endorse 30 = .ok (.ireturn, 1) := by decide +kernel
theorem dL_holderOf_0 : decode cL_holderOf 0 = .ok (.aload_n 2, 1) := by decide +kernel
theorem dL_holderOf_1 : decode cL_holderOf 1 = .ok (.iconst 0, 1) := by decide +kernel
theorem dL_holderOf_2 : decode cL_holderOf 2 = .ok (.aload_n 0, 1) := by decide +kernel
theorem dL_holderOf_3 : decode cL_holderOf 3 = .ok (.iload_n 1, 1) := by decide +kernel
theorem dL_holderOf_4 : decode cL_holderOf 4 = .ok (.invokevirtual 79, 3) := by decide +kernel
theorem dL_holderOf_7 : decode cL_holderOf 7 = .ok (.i2l, 1) := by decide +kernel
theorem dL_holderOf_8 : decode cL_holderOf 8 = .ok (.lastore, 1) := by decide +kernel
theorem dL_holderOf_9 : decode cL_holderOf 9 = .ok (.goto 6, 3) := by decide +kernel
theorem dL_holderOf_12 : decode cL_holderOf 12 = .ok (.astore_n 3, 1) := by decide +kernel
theorem dL_holderOf_13 : decode cL_holderOf 13 = .ok (.iconst 1, 1) := by decide +kernel
theorem dL_holderOf_14 : decode cL_holderOf 14 = .ok (.ireturn, 1) := by decide +kernel
theorem dL_holderOf_15 : decode cL_holderOf 15 = .ok (.iconst 0, 1) := by decide +kernel
theorem dL_holderOf_16 : decode cL_holderOf 16 = .ok (.ireturn, 1) := by decide +kernel
theorem dL_addShare_0 : decode cL_addShare 0 = .ok (.aload 4, 2) := by decide +kernel
theorem dL_addShare_2 : decode cL_addShare 2 = .ok (.iconst 0, 1) := by decide +kernel
theorem dL_addShare_3 : decode cL_addShare 3 = .ok (.aload_n 0, 1) := by decide +kernel
theorem dL_addShare_4 : decode cL_addShare 4 = .ok (.iload_n 1, 1) := by decide +kernel
theorem dL_addShare_5 : decode cL_addShare 5 = .ok (.iload_n 2, 1) := by decide +kernel
theorem dL_addShare_6 : decode cL_addShare 6 = .ok (.iload_n 3, 1) := by decide +kernel
theorem dL_addShare_7 : decode cL_addShare 7 = .ok (.invokevirtual 83, 3) := by decide +kernel
theorem dL_addShare_10 : decode cL_addShare 10 = .ok (.i2l, 1) := by decide +kernel
theorem dL_addShare_11 : decode cL_addShare 11 = .ok (.lastore, 1) := by decide +kernel
theorem dL_addShare_12 : decode cL_addShare 12 = .ok (.goto 15, 3) := by decide +kernel
theorem dL_addShare_15 : decode cL_addShare 15 = .ok (.astore 5, 2) := by decide +kernel
theorem dL_addShare_17 : decode cL_addShare 17 = .ok (.iconst 1, 1) := by decide +kernel
theorem dL_addShare_18 : decode cL_addShare 18 = .ok (.ireturn, 1) := by decide +kernel
theorem dL_addShare_19 : decode cL_addShare 19 = .ok (.astore 5, 2) := by decide +kernel
theorem dL_addShare_21 : decode cL_addShare 21 = .ok (.iconst 2, 1) := by decide +kernel
theorem dL_addShare_22 : decode cL_addShare 22 = .ok (.ireturn, 1) := by decide +kernel
theorem dL_addShare_23 : decode cL_addShare 23 = .ok (.astore 5, 2) := by decide +kernel
theorem dL_addShare_25 : decode cL_addShare 25 = .ok (.iconst 3, 1) := by decide +kernel
theorem dL_addShare_26 : decode cL_addShare 26 = .ok (.ireturn, 1) := by decide +kernel
theorem dL_addShare_27 : decode cL_addShare 27 = .ok (.iconst 0, 1) := by decide +kernel
theorem dL_addShare_28 : decode cL_addShare 28 = .ok (.ireturn, 1) := by decide +kernel
theorem dL_throwOver_0 : decode cL_throwOver 0 = .ok (.aload 4, 2) := by decide +kernel
theorem dL_throwOver_2 : decode cL_throwOver 2 = .ok (.iconst 0, 1) := by decide +kernel
theorem dL_throwOver_3 : decode cL_throwOver 3 = .ok (.aload_n 0, 1) := by decide +kernel
theorem dL_throwOver_4 : decode cL_throwOver 4 = .ok (.iload_n 1, 1) := by decide +kernel
theorem dL_throwOver_5 : decode cL_throwOver 5 = .ok (.iload_n 2, 1) := by decide +kernel
theorem dL_throwOver_6 : decode cL_throwOver 6 = .ok (.iload_n 3, 1) := by decide +kernel
theorem dL_throwOver_7 : decode cL_throwOver 7 = .ok (.invokevirtual 86, 3) := by decide +kernel
theorem dL_throwOver_10 : decode cL_throwOver 10 = .ok (.i2l, 1) := by decide +kernel
theorem dL_throwOver_11 : decode cL_throwOver 11 = .ok (.lastore, 1) := by decide +kernel
theorem dL_throwOver_12 : decode cL_throwOver 12 = .ok (.goto 19, 3) := by decide +kernel
theorem dL_throwOver_15 : decode cL_throwOver 15 = .ok (.astore 5, 2) := by decide +kernel
theorem dL_throwOver_17 : decode cL_throwOver 17 = .ok (.iconst 1, 1) := by decide +kernel
theorem dL_throwOver_18 : decode cL_throwOver 18 = .ok (.ireturn, 1) := by decide +kernel
theorem dL_throwOver_19 : decode cL_throwOver 19 = .ok (.astore 5, 2) := by decide +kernel
theorem dL_throwOver_21 : decode cL_throwOver 21 = .ok (.iconst 2, 1) := by decide +kernel
theorem dL_throwOver_22 : decode cL_throwOver 22 = .ok (.ireturn, 1) := by decide +kernel
theorem dL_throwOver_23 : decode cL_throwOver 23 = .ok (.astore 5, 2) := by decide +kernel
theorem dL_throwOver_25 : decode cL_throwOver 25 = .ok (.iconst 3, 1) := by decide +kernel
theorem dL_throwOver_26 : decode cL_throwOver 26 = .ok (.ireturn, 1) := by decide +kernel
theorem dL_throwOver_27 : decode cL_throwOver 27 = .ok (.astore 5, 2) := by decide +kernel
theorem dL_throwOver_29 : decode cL_throwOver 29 = .ok (.iconst 4, 1) := by decide +kernel
theorem dL_throwOver_30 : decode cL_throwOver 30 = .ok (.ireturn, 1) := by decide +kernel
theorem dL_throwOver_31 : decode cL_throwOver 31 = .ok (.iconst 0, 1) := by decide +kernel
theorem dL_throwOver_32 : decode cL_throwOver 32 = .ok (.ireturn, 1) := by decide +kernel
theorem dL_coins_0 : decode cL_coins 0 = .ok (.aload_n 3, 1) := by decide +kernel
theorem dL_coins_1 : decode cL_coins 1 = .ok (.iconst 0, 1) := by decide +kernel
theorem dL_coins_2 : decode cL_coins 2 = .ok (.aload_n 0, 1) := by decide +kernel
theorem dL_coins_3 : decode cL_coins 3 = .ok (.iload_n 1, 1) := by decide +kernel
theorem dL_coins_4 : decode cL_coins 4 = .ok (.iload_n 2, 1) := by decide +kernel
theorem dL_coins_5 : decode cL_coins 5 = .ok (.invokevirtual 89, 3) := by decide +kernel
theorem dL_coins_8 : decode cL_coins 8 = .ok (.i2l, 1) := by decide +kernel
theorem dL_coins_9 : decode cL_coins 9 = .ok (.lastore, 1) := by decide +kernel
theorem dL_coins_10 : decode cL_coins 10 = .ok (.goto 11, 3) := by decide +kernel
theorem dL_coins_13 : decode cL_coins 13 = .ok (.astore 4, 2) := by decide +kernel
theorem dL_coins_15 : decode cL_coins 15 = .ok (.iconst 1, 1) := by decide +kernel
theorem dL_coins_16 : decode cL_coins 16 = .ok (.ireturn, 1) := by decide +kernel
theorem dL_coins_17 : decode cL_coins 17 = .ok (.astore 4, 2) := by decide +kernel
theorem dL_coins_19 : decode cL_coins 19 = .ok (.iconst 2, 1) := by decide +kernel
theorem dL_coins_20 : decode cL_coins 20 = .ok (.ireturn, 1) := by decide +kernel
theorem dL_coins_21 : decode cL_coins 21 = .ok (.iconst 0, 1) := by decide +kernel
theorem dL_coins_22 : decode cL_coins 22 = .ok (.ireturn, 1) := by decide +kernel
theorem dL_weightOf_0 : decode cL_weightOf 0 = .ok (.aload_n 2, 1) := by decide +kernel
theorem dL_weightOf_1 : decode cL_weightOf 1 = .ok (.iconst 0, 1) := by decide +kernel
theorem dL_weightOf_2 : decode cL_weightOf 2 = .ok (.aload_n 0, 1) := by decide +kernel
theorem dL_weightOf_3 : decode cL_weightOf 3 = .ok (.iload_n 1, 1) := by decide +kernel
theorem dL_weightOf_4 : decode cL_weightOf 4 = .ok (.invokevirtual 92, 3) := by decide +kernel
theorem dL_weightOf_7 : decode cL_weightOf 7 = .ok (.i2l, 1) := by decide +kernel
theorem dL_weightOf_8 : decode cL_weightOf 8 = .ok (.lastore, 1) := by decide +kernel
theorem dL_weightOf_9 : decode cL_weightOf 9 = .ok (.goto 6, 3) := by decide +kernel
theorem dL_weightOf_12 : decode cL_weightOf 12 = .ok (.astore_n 3, 1) := by decide +kernel
theorem dL_weightOf_13 : decode cL_weightOf 13 = .ok (.iconst 1, 1) := by decide +kernel
theorem dL_weightOf_14 : decode cL_weightOf 14 = .ok (.ireturn, 1) := by decide +kernel
theorem dL_weightOf_15 : decode cL_weightOf 15 = .ok (.iconst 0, 1) := by decide +kernel
theorem dL_weightOf_16 : decode cL_weightOf 16 = .ok (.ireturn, 1) := by decide +kernel
theorem dL_ownerOf_0 : decode cL_ownerOf 0 = .ok (.aload_n 2, 1) := by decide +kernel
theorem dL_ownerOf_1 : decode cL_ownerOf 1 = .ok (.iconst 0, 1) := by decide +kernel
theorem dL_ownerOf_2 : decode cL_ownerOf 2 = .ok (.aload_n 0, 1) := by decide +kernel
theorem dL_ownerOf_3 : decode cL_ownerOf 3 = .ok (.iload_n 1, 1) := by decide +kernel
theorem dL_ownerOf_4 : decode cL_ownerOf 4 = .ok (.invokevirtual 95, 3) := by decide +kernel
theorem dL_ownerOf_7 : decode cL_ownerOf 7 = .ok (.i2l, 1) := by decide +kernel
theorem dL_ownerOf_8 : decode cL_ownerOf 8 = .ok (.lastore, 1) := by decide +kernel
theorem dL_ownerOf_9 : decode cL_ownerOf 9 = .ok (.goto 6, 3) := by decide +kernel
theorem dL_ownerOf_12 : decode cL_ownerOf 12 = .ok (.astore_n 3, 1) := by decide +kernel
theorem dL_ownerOf_13 : decode cL_ownerOf 13 = .ok (.iconst 1, 1) := by decide +kernel
theorem dL_ownerOf_14 : decode cL_ownerOf 14 = .ok (.ireturn, 1) := by decide +kernel
theorem dL_ownerOf_15 : decode cL_ownerOf 15 = .ok (.iconst 0, 1) := by decide +kernel
theorem dL_ownerOf_16 : decode cL_ownerOf 16 = .ok (.ireturn, 1) := by decide +kernel
theorem dL_owners_0 : decode cL_owners 0 = .ok (.aload_n 2, 1) := by decide +kernel
theorem dL_owners_1 : decode cL_owners 1 = .ok (.iconst 0, 1) := by decide +kernel
theorem dL_owners_2 : decode cL_owners 2 = .ok (.aload_n 0, 1) := by decide +kernel
theorem dL_owners_3 : decode cL_owners 3 = .ok (.iload_n 1, 1) := by decide +kernel
theorem dL_owners_4 : decode cL_owners 4 = .ok (.invokevirtual 98, 3) := by decide +kernel
theorem dL_owners_7 : decode cL_owners 7 = .ok (.i2l, 1) := by decide +kernel
theorem dL_owners_8 : decode cL_owners 8 = .ok (.lastore, 1) := by decide +kernel
theorem dL_owners_9 : decode cL_owners 9 = .ok (.goto 6, 3) := by decide +kernel
theorem dL_owners_12 : decode cL_owners 12 = .ok (.astore_n 3, 1) := by decide +kernel
theorem dL_owners_13 : decode cL_owners 13 = .ok (.iconst 1, 1) := by decide +kernel
theorem dL_owners_14 : decode cL_owners 14 = .ok (.ireturn, 1) := by decide +kernel
theorem dL_owners_15 : decode cL_owners 15 = .ok (.iconst 0, 1) := by decide +kernel
theorem dL_owners_16 : decode cL_owners 16 = .ok (.ireturn, 1) := by decide +kernel
theorem dL_ore_0 : decode cL_ore 0 = .ok (.aload_n 3, 1) := by decide +kernel
theorem dL_ore_1 : decode cL_ore 1 = .ok (.iconst 0, 1) := by decide +kernel
theorem dL_ore_2 : decode cL_ore 2 = .ok (.aload_n 0, 1) := by decide +kernel
theorem dL_ore_3 : decode cL_ore 3 = .ok (.iload_n 1, 1) := by decide +kernel
theorem dL_ore_4 : decode cL_ore 4 = .ok (.iload_n 2, 1) := by decide +kernel
theorem dL_ore_5 : decode cL_ore 5 = .ok (.invokevirtual 101, 3) := by decide +kernel
theorem dL_ore_8 : decode cL_ore 8 = .ok (.i2l, 1) := by decide +kernel
theorem dL_ore_9 : decode cL_ore 9 = .ok (.lastore, 1) := by decide +kernel
theorem dL_ore_10 : decode cL_ore 10 = .ok (.goto 11, 3) := by decide +kernel
theorem dL_ore_13 : decode cL_ore 13 = .ok (.astore 4, 2) := by decide +kernel
theorem dL_ore_15 : decode cL_ore 15 = .ok (.iconst 1, 1) := by decide +kernel
theorem dL_ore_16 : decode cL_ore 16 = .ok (.ireturn, 1) := by decide +kernel
theorem dL_ore_17 : decode cL_ore 17 = .ok (.astore 4, 2) := by decide +kernel
theorem dL_ore_19 : decode cL_ore 19 = .ok (.iconst 2, 1) := by decide +kernel
theorem dL_ore_20 : decode cL_ore 20 = .ok (.ireturn, 1) := by decide +kernel
theorem dL_ore_21 : decode cL_ore 21 = .ok (.iconst 0, 1) := by decide +kernel
theorem dL_ore_22 : decode cL_ore 22 = .ok (.ireturn, 1) := by decide +kernel
theorem dL_wealth_0 : decode cL_wealth 0 = .ok (.aload_n 2, 1) := by decide +kernel
theorem dL_wealth_1 : decode cL_wealth 1 = .ok (.iconst 0, 1) := by decide +kernel
theorem dL_wealth_2 : decode cL_wealth 2 = .ok (.aload_n 0, 1) := by decide +kernel
theorem dL_wealth_3 : decode cL_wealth 3 = .ok (.iload_n 1, 1) := by decide +kernel
theorem dL_wealth_4 : decode cL_wealth 4 = .ok (.invokevirtual 104, 3) := by decide +kernel
theorem dL_wealth_7 : decode cL_wealth 7 = .ok (.lastore, 1) := by decide +kernel
theorem dL_wealth_8 : decode cL_wealth 8 = .ok (.goto 6, 3) := by decide +kernel
theorem dL_wealth_11 : decode cL_wealth 11 = .ok (.astore_n 3, 1) := by decide +kernel
theorem dL_wealth_12 : decode cL_wealth 12 = .ok (.iconst 1, 1) := by decide +kernel
theorem dL_wealth_13 : decode cL_wealth 13 = .ok (.ireturn, 1) := by decide +kernel
theorem dL_wealth_14 : decode cL_wealth 14 = .ok (.iconst 0, 1) := by decide +kernel
theorem dL_wealth_15 : decode cL_wealth 15 = .ok (.ireturn, 1) := by decide +kernel
theorem dL_lightShare_0 : decode cL_lightShare 0 = .ok (.aload_n 1, 1) := by decide +kernel
theorem dL_lightShare_1 : decode cL_lightShare 1 = .ok (.iconst 0, 1) := by decide +kernel
theorem dL_lightShare_2 : decode cL_lightShare 2 = .ok (.aload_n 0, 1) := by decide +kernel
theorem dL_lightShare_3 : decode cL_lightShare 3 = .ok (.invokevirtual 108, 3) := by decide +kernel
theorem dL_lightShare_6 : decode cL_lightShare 6 = .ok (.f2d, 1) := by decide +kernel
theorem dL_lightShare_7 : decode cL_lightShare 7 = .ok (.dastore, 1) := by decide +kernel
theorem dL_lightShare_8 : decode cL_lightShare 8 = .ok (.goto 6, 3) := by decide +kernel
theorem dL_lightShare_11 : decode cL_lightShare 11 = .ok (.astore_n 2, 1) := by decide +kernel
theorem dL_lightShare_12 : decode cL_lightShare 12 = .ok (.iconst 1, 1) := by decide +kernel
theorem dL_lightShare_13 : decode cL_lightShare 13 = .ok (.ireturn, 1) := by decide +kernel
theorem dL_lightShare_14 : decode cL_lightShare 14 = .ok (.iconst 0, 1) := by decide +kernel
theorem dL_lightShare_15 : decode cL_lightShare 15 = .ok (.ireturn, 1) := by decide +kernel
theorem dL_meanWeight_0 : decode cL_meanWeight 0 = .ok (.aload_n 1, 1) := by decide +kernel
theorem dL_meanWeight_1 : decode cL_meanWeight 1 = .ok (.iconst 0, 1) := by decide +kernel
theorem dL_meanWeight_2 : decode cL_meanWeight 2 = .ok (.aload_n 0, 1) := by decide +kernel
theorem dL_meanWeight_3 : decode cL_meanWeight 3 = .ok (.invokevirtual 114, 3) := by decide +kernel
theorem dL_meanWeight_6 : decode cL_meanWeight 6 = .ok (.dastore, 1) := by decide +kernel
theorem dL_meanWeight_7 : decode cL_meanWeight 7 = .ok (.goto 6, 3) := by decide +kernel
theorem dL_meanWeight_10 : decode cL_meanWeight 10 = .ok (.astore_n 2, 1) := by decide +kernel
theorem dL_meanWeight_11 : decode cL_meanWeight 11 = .ok (.iconst 1, 1) := by decide +kernel
theorem dL_meanWeight_12 : decode cL_meanWeight 12 = .ok (.ireturn, 1) := by decide +kernel
theorem dL_meanWeight_13 : decode cL_meanWeight 13 = .ok (.iconst 0, 1) := by decide +kernel
theorem dL_meanWeight_14 : decode cL_meanWeight 14 = .ok (.ireturn, 1) := by decide +kernel
