theorem dX0_init_0 : decode cX0_init 0 = .ok (.aload_n 0, 1) := by decide +kernel
theorem dX0_init_1 : decode cX0_init 1 = .ok (.invokespecial 3, 3) := by decide +kernel
theorem dX0_init_4 : decode cX0_init 4 = .ok (.aload_n 0, 1) := by decide +kernel
theorem dX0_init_5 : decode cX0_init 5 = .ok (.bipush 10, 2) := by decide +kernel
theorem dX0_init_7 : decode cX0_init 7 = .ok (.putfield 9, 3) := by decide +kernel
theorem dX0_init_10 : decode cX0_init 10 = .ok (.aload_n 0, 1) := by decide +kernel
theorem dX0_init_11 : decode cX0_init 11 = .ok (.bipush 10, 2) := by decide +kernel
theorem dX0_init_13 : decode cX0_init 13 = .ok (.putfield 15, 3) := by decide +kernel
theorem dX0_init_16 : decode cX0_init 16 = .ok (.aload_n 0, 1) := by decide +kernel
theorem dX0_init_17 : decode cX0_init 17 = .ok (.iconst 0, 1) := by decide +kernel
theorem dX0_init_18 : decode cX0_init 18 = .ok (.putfield 18, 3) := by decide +kernel
theorem dX0_init_21 : decode cX0_init 21 = .ok (.aload_n 0, 1) := by decide +kernel
theorem dX0_init_22 : decode cX0_init 22 = .ok (.iconst (-1), 1) := by decide +kernel
theorem dX0_init_23 : decode cX0_init 23 = .ok (.putfield 21, 3) := by decide +kernel
theorem dX0_init_26 : decode cX0_init 26 = .ok (.aload_n 0, 1) := by decide +kernel
theorem dX0_init_27 : decode cX0_init 27 = .ok (.iconst 0, 1) := by decide +kernel
theorem dX0_init_28 : decode cX0_init 28 = .ok (.putfield 24, 3) := by decide +kernel
theorem dX0_init_31 : decode cX0_init 31 = .ok (.aload_n 0, 1) := by decide +kernel
theorem dX0_init_32 : decode cX0_init 32 = .ok (.sipush 400, 3) := by decide +kernel
theorem dX0_init_35 : decode cX0_init 35 = .ok (.putfield 27, 3) := by decide +kernel
theorem dX0_init_38 : decode cX0_init 38 = .ok (.return_, 1) := by decide +kernel
theorem dX0_isPeak_0 : decode cX0_isPeak 0 = .ok (.iload_n 1, 1) := by decide +kernel
theorem dX0_isPeak_1 : decode cX0_isPeak 1 = .ok (.aload_n 0, 1) := by decide +kernel
theorem dX0_isPeak_2 : decode cX0_isPeak 2 = .ok (.getfield 18, 3) := by decide +kernel
theorem dX0_isPeak_5 : decode cX0_isPeak 5 = .ok (.if_icmp .lt 15, 3) := by decide +kernel
theorem dX0_isPeak_8 : decode cX0_isPeak 8 = .ok (.iload_n 1, 1) := by decide +kernel
theorem dX0_isPeak_9 : decode cX0_isPeak 9 = .ok (.aload_n 0, 1) := by decide +kernel
theorem dX0_isPeak_10 : decode cX0_isPeak 10 = .ok (.getfield 21, 3) := by decide +kernel
theorem dX0_isPeak_13 : decode cX0_isPeak 13 = .ok (.if_icmp .gt 7, 3) := by decide +kernel
theorem dX0_isPeak_16 : decode cX0_isPeak 16 = .ok (.iconst 1, 1) := by decide +kernel
theorem dX0_isPeak_17 : decode cX0_isPeak 17 = .ok (.goto 4, 3) := by decide +kernel
theorem dX0_isPeak_20 : decode cX0_isPeak 20 = .ok (.iconst 0, 1) := by decide +kernel
theorem dX0_isPeak_21 : decode cX0_isPeak 21 = .ok (.ireturn, 1) := by decide +kernel
theorem dX0_isAheadOfPeak_0 : decode cX0_isAheadOfPeak 0 = .ok (.iload_n 1, 1) := by decide +kernel
theorem dX0_isAheadOfPeak_1 : decode cX0_isAheadOfPeak 1 = .ok (.aload_n 0, 1) := by decide +kernel
theorem dX0_isAheadOfPeak_2 : decode cX0_isAheadOfPeak 2 = .ok (.getfield 18, 3) := by decide +kernel
theorem dX0_isAheadOfPeak_5 : decode cX0_isAheadOfPeak 5 = .ok (.if_icmp .ge 17, 3) := by decide +kernel
theorem dX0_isAheadOfPeak_8 : decode cX0_isAheadOfPeak 8 = .ok (.aload_n 0, 1) := by decide +kernel
theorem dX0_isAheadOfPeak_9 : decode cX0_isAheadOfPeak 9 = .ok (.getfield 18, 3) := by decide +kernel
theorem dX0_isAheadOfPeak_12 : decode cX0_isAheadOfPeak 12 = .ok (.iload_n 1, 1) := by decide +kernel
theorem dX0_isAheadOfPeak_13 : decode cX0_isAheadOfPeak 13 = .ok (.isub, 1) := by decide +kernel
theorem dX0_isAheadOfPeak_14 : decode cX0_isAheadOfPeak 14 = .ok (.iload_n 2, 1) := by decide +kernel
theorem dX0_isAheadOfPeak_15 : decode cX0_isAheadOfPeak 15 = .ok (.if_icmp .gt 7, 3) := by decide +kernel
theorem dX0_isAheadOfPeak_18 : decode cX0_isAheadOfPeak 18 = .ok (.iconst 1, 1) := by decide +kernel
theorem dX0_isAheadOfPeak_19 : decode cX0_isAheadOfPeak 19 = .ok (.goto 4, 3) := by decide +kernel
theorem dX0_isAheadOfPeak_22 : decode cX0_isAheadOfPeak 22 = .ok (.iconst 0, 1) := by decide +kernel
theorem dX0_isAheadOfPeak_23 : decode cX0_isAheadOfPeak 23 = .ok (.ireturn, 1) := by decide +kernel
set_option maxRecDepth 20000 in
theorem ggX0_priceIn_X0_isPeak : GoodIn wsX0_priceIn wsX0_isPeak := goodIn_r _ [7, 8, 9, 10, 11, 12, 13, 14, 15] (by decide +kernel) (by decide +kernel)
set_option maxRecDepth 20000 in
theorem gX0_priceIn_X0_isPeak : GoodIn wsX0_priceIn (wsV RX0 30 RX0 yX0_isPeak wsX0_isPeak) := goodIn_app (goodIn_of _ (by decide +kernel)) ggX0_priceIn_X0_isPeak
theorem dX0_priceIn_0 : decode cX0_priceIn 0 = .ok (.aload_n 0, 1) := by decide +kernel
theorem dX0_priceIn_1 : decode cX0_priceIn 1 = .ok (.iload_n 1, 1) := by decide +kernel
theorem dX0_priceIn_2 : decode cX0_priceIn 2 = .ok (.invokevirtual 30, 3) := by decide +kernel
theorem dX0_priceIn_5 : decode cX0_priceIn 5 = .ok (.ifCond .eq 10, 3) := by decide +kernel
theorem dX0_priceIn_8 : decode cX0_priceIn 8 = .ok (.aload_n 0, 1) := by decide +kernel
theorem dX0_priceIn_9 : decode cX0_priceIn 9 = .ok (.getfield 15, 3) := by decide +kernel
theorem dX0_priceIn_12 : decode cX0_priceIn 12 = .ok (.goto 7, 3) := by decide +kernel
theorem dX0_priceIn_15 : decode cX0_priceIn 15 = .ok (.aload_n 0, 1) := by decide +kernel
theorem dX0_priceIn_16 : decode cX0_priceIn 16 = .ok (.getfield 9, 3) := by decide +kernel
theorem dX0_priceIn_19 : decode cX0_priceIn 19 = .ok (.ireturn, 1) := by decide +kernel
theorem dX1_init_0 : decode cX1_init 0 = .ok (.aload_n 0, 1) := by decide +kernel
theorem dX1_init_1 : decode cX1_init 1 = .ok (.invokespecial 1, 3) := by decide +kernel
theorem dX1_init_4 : decode cX1_init 4 = .ok (.aload_n 0, 1) := by decide +kernel
theorem dX1_init_5 : decode cX1_init 5 = .ok (.iload_n 1, 1) := by decide +kernel
theorem dX1_init_6 : decode cX1_init 6 = .ok (.putfield 7, 3) := by decide +kernel
theorem dX1_init_9 : decode cX1_init 9 = .ok (.aload_n 0, 1) := by decide +kernel
theorem dX1_init_10 : decode cX1_init 10 = .ok (.iload_n 2, 1) := by decide +kernel
theorem dX1_init_11 : decode cX1_init 11 = .ok (.putfield 13, 3) := by decide +kernel
theorem dX1_init_14 : decode cX1_init 14 = .ok (.aload_n 0, 1) := by decide +kernel
theorem dX1_init_15 : decode cX1_init 15 = .ok (.iload_n 3, 1) := by decide +kernel
theorem dX1_init_16 : decode cX1_init 16 = .ok (.putfield 16, 3) := by decide +kernel
theorem dX1_init_19 : decode cX1_init 19 = .ok (.return_, 1) := by decide +kernel
theorem dX1_lossAt_0 : decode cX1_lossAt 0 = .ok (.iload_n 1, 1) := by decide +kernel
theorem dX1_lossAt_1 : decode cX1_lossAt 1 = .ok (.aload_n 0, 1) := by decide +kernel
theorem dX1_lossAt_2 : decode cX1_lossAt 2 = .ok (.getfield 16, 3) := by decide +kernel
theorem dX1_lossAt_5 : decode cX1_lossAt 5 = .ok (.if_icmp .ge 6, 3) := by decide +kernel
theorem dX1_lossAt_8 : decode cX1_lossAt 8 = .ok (.bipush 10, 2) := by decide +kernel
theorem dX1_lossAt_10 : decode cX1_lossAt 10 = .ok (.ireturn, 1) := by decide +kernel
theorem dX1_lossAt_11 : decode cX1_lossAt 11 = .ok (.iload_n 1, 1) := by decide +kernel
theorem dX1_lossAt_12 : decode cX1_lossAt 12 = .ok (.aload_n 0, 1) := by decide +kernel
theorem dX1_lossAt_13 : decode cX1_lossAt 13 = .ok (.getfield 13, 3) := by decide +kernel
theorem dX1_lossAt_16 : decode cX1_lossAt 16 = .ok (.if_icmp .le 17, 3) := by decide +kernel
theorem dX1_lossAt_19 : decode cX1_lossAt 19 = .ok (.iconst 1, 1) := by decide +kernel
theorem dX1_lossAt_20 : decode cX1_lossAt 20 = .ok (.iload_n 1, 1) := by decide +kernel
theorem dX1_lossAt_21 : decode cX1_lossAt 21 = .ok (.aload_n 0, 1) := by decide +kernel
theorem dX1_lossAt_22 : decode cX1_lossAt 22 = .ok (.getfield 13, 3) := by decide +kernel
theorem dX1_lossAt_25 : decode cX1_lossAt 25 = .ok (.isub, 1) := by decide +kernel
theorem dX1_lossAt_26 : decode cX1_lossAt 26 = .ok (.bipush 20, 2) := by decide +kernel
theorem dX1_lossAt_28 : decode cX1_lossAt 28 = .ok (.idiv, 1) := by decide +kernel
theorem dX1_lossAt_29 : decode cX1_lossAt 29 = .ok (.iadd, 1) := by decide +kernel
theorem dX1_lossAt_30 : decode cX1_lossAt 30 = .ok (.goto 4, 3) := by decide +kernel
theorem dX1_lossAt_33 : decode cX1_lossAt 33 = .ok (.iconst 1, 1) := by decide +kernel
theorem dX1_lossAt_34 : decode cX1_lossAt 34 = .ok (.ireturn, 1) := by decide +kernel
theorem dX2_init_0 : decode cX2_init 0 = .ok (.aload_n 0, 1) := by decide +kernel
theorem dX2_init_1 : decode cX2_init 1 = .ok (.invokespecial 3, 3) := by decide +kernel
theorem dX2_init_4 : decode cX2_init 4 = .ok (.aload_n 0, 1) := by decide +kernel
theorem dX2_init_5 : decode cX2_init 5 = .ok (.sipush 960, 3) := by decide +kernel
theorem dX2_init_8 : decode cX2_init 8 = .ok (.newarray .int, 2) := by decide +kernel
theorem dX2_init_10 : decode cX2_init 10 = .ok (.putfield 9, 3) := by decide +kernel
theorem dX2_init_13 : decode cX2_init 13 = .ok (.aload_n 0, 1) := by decide +kernel
theorem dX2_init_14 : decode cX2_init 14 = .ok (.sipush 960, 3) := by decide +kernel
theorem dX2_init_17 : decode cX2_init 17 = .ok (.newarray .int, 2) := by decide +kernel
theorem dX2_init_19 : decode cX2_init 19 = .ok (.putfield 15, 3) := by decide +kernel
theorem dX2_init_22 : decode cX2_init 22 = .ok (.aload_n 0, 1) := by decide +kernel
theorem dX2_init_23 : decode cX2_init 23 = .ok (.iconst 0, 1) := by decide +kernel
theorem dX2_init_24 : decode cX2_init 24 = .ok (.putfield 18, 3) := by decide +kernel
theorem dX2_init_27 : decode cX2_init 27 = .ok (.aload_n 0, 1) := by decide +kernel
theorem dX2_init_28 : decode cX2_init 28 = .ok (.iconst 0, 1) := by decide +kernel
theorem dX2_init_29 : decode cX2_init 29 = .ok (.putfield 22, 3) := by decide +kernel
theorem dX2_init_32 : decode cX2_init 32 = .ok (.aload_n 0, 1) := by decide +kernel
theorem dX2_init_33 : decode cX2_init 33 = .ok (.lconst 0, 1) := by decide +kernel
theorem dX2_init_34 : decode cX2_init 34 = .ok (.putfield 25, 3) := by decide +kernel
theorem dX2_init_37 : decode cX2_init 37 = .ok (.return_, 1) := by decide +kernel
theorem dX2_record_0 : decode cX2_record 0 = .ok (.iload_n 1, 1) := by decide +kernel
theorem dX2_record_1 : decode cX2_record 1 = .ok (.ifCond .lt 35, 3) := by decide +kernel
theorem dX2_record_4 : decode cX2_record 4 = .ok (.iload_n 1, 1) := by decide +kernel
theorem dX2_record_5 : decode cX2_record 5 = .ok (.aload_n 0, 1) := by decide +kernel
theorem dX2_record_6 : decode cX2_record 6 = .ok (.getfield 9, 3) := by decide +kernel
theorem dX2_record_9 : decode cX2_record 9 = .ok (.arraylength, 1) := by decide +kernel
theorem dX2_record_10 : decode cX2_record 10 = .ok (.if_icmp .ge 26, 3) := by decide +kernel
theorem dX2_record_13 : decode cX2_record 13 = .ok (.iload_n 1, 1) := by decide +kernel
theorem dX2_record_14 : decode cX2_record 14 = .ok (.aload_n 0, 1) := by decide +kernel
theorem dX2_record_15 : decode cX2_record 15 = .ok (.getfield 15, 3) := by decide +kernel
theorem dX2_record_18 : decode cX2_record 18 = .ok (.arraylength, 1) := by decide +kernel
theorem dX2_record_19 : decode cX2_record 19 = .ok (.if_icmp .ge 17, 3) := by decide +kernel
theorem dX2_record_22 : decode cX2_record 22 = .ok (.aload_n 0, 1) := by decide +kernel
theorem dX2_record_23 : decode cX2_record 23 = .ok (.getfield 9, 3) := by decide +kernel
theorem dX2_record_26 : decode cX2_record 26 = .ok (.iload_n 1, 1) := by decide +kernel
theorem dX2_record_27 : decode cX2_record 27 = .ok (.iload_n 2, 1) := by decide +kernel
theorem dX2_record_28 : decode cX2_record 28 = .ok (.iastore, 1) := by decide +kernel
theorem dX2_record_29 : decode cX2_record 29 = .ok (.aload_n 0, 1) := by decide +kernel
theorem dX2_record_30 : decode cX2_record 30 = .ok (.getfield 15, 3) := by decide +kernel
theorem dX2_record_33 : decode cX2_record 33 = .ok (.iload_n 1, 1) := by decide +kernel
theorem dX2_record_34 : decode cX2_record 34 = .ok (.iload_n 3, 1) := by decide +kernel
theorem dX2_record_35 : decode cX2_record 35 = .ok (.iastore, 1) := by decide +kernel
theorem dX2_record_36 : decode cX2_record 36 = .ok (.aload_n 0, 1) := by decide +kernel
theorem dX2_record_37 : decode cX2_record 37 = .ok (.iload_n 2, 1) := by decide +kernel
theorem dX2_record_38 : decode cX2_record 38 = .ok (.putfield 18, 3) := by decide +kernel
theorem dX2_record_41 : decode cX2_record 41 = .ok (.aload_n 0, 1) := by decide +kernel
theorem dX2_record_42 : decode cX2_record 42 = .ok (.aload_n 0, 1) := by decide +kernel
theorem dX2_record_43 : decode cX2_record 43 = .ok (.getfield 22, 3) := by decide +kernel
theorem dX2_record_46 : decode cX2_record 46 = .ok (.iload_n 2, 1) := by decide +kernel
theorem dX2_record_47 : decode cX2_record 47 = .ok (.invokestatic 29, 3) := by decide +kernel
theorem dX2_record_50 : decode cX2_record 50 = .ok (.putfield 22, 3) := by decide +kernel
theorem dX2_record_53 : decode cX2_record 53 = .ok (.aload_n 0, 1) := by decide +kernel
theorem dX2_record_54 : decode cX2_record 54 = .ok (.dup, 1) := by decide +kernel
theorem dX2_record_55 : decode cX2_record 55 = .ok (.getfield 25, 3) := by decide +kernel
theorem dX2_record_58 : decode cX2_record 58 = .ok (.iload_n 2, 1) := by decide +kernel
theorem dX2_record_59 : decode cX2_record 59 = .ok (.i2l, 1) := by decide +kernel
theorem dX2_record_60 : decode cX2_record 60 = .ok (.iload_n 3, 1) := by decide +kernel
theorem dX2_record_61 : decode cX2_record 61 = .ok (.i2l, 1) := by decide +kernel
theorem dX2_record_62 : decode cX2_record 62 = .ok (.lmul, 1) := by decide +kernel
theorem dX2_record_63 : decode cX2_record 63 = .ok (.ladd, 1) := by decide +kernel
theorem dX2_record_64 : decode cX2_record 64 = .ok (.putfield 25, 3) := by decide +kernel
theorem dX2_record_67 : decode cX2_record 67 = .ok (.return_, 1) := by decide +kernel
theorem dX2_recordedCosts_0 : decode cX2_recordedCosts 0 = .ok (.lconst 0, 1) := by decide +kernel
theorem dX2_recordedCosts_1 : decode cX2_recordedCosts 1 = .ok (.lstore_n 2, 1) := by decide +kernel
theorem dX2_recordedCosts_2 : decode cX2_recordedCosts 2 = .ok (.iconst 0, 1) := by decide +kernel
theorem dX2_recordedCosts_3 : decode cX2_recordedCosts 3 = .ok (.istore 4, 2) := by decide +kernel
theorem dX2_recordedCosts_5 : decode cX2_recordedCosts 5 = .ok (.iload 4, 2) := by decide +kernel
theorem dX2_recordedCosts_7 : decode cX2_recordedCosts 7 = .ok (.iload_n 1, 1) := by decide +kernel
theorem dX2_recordedCosts_8 : decode cX2_recordedCosts 8 = .ok (.if_icmp .ge 49, 3) := by decide +kernel
theorem dX2_recordedCosts_11 : decode cX2_recordedCosts 11 = .ok (.iload 4, 2) := by decide +kernel
theorem dX2_recordedCosts_13 : decode cX2_recordedCosts 13 = .ok (.aload_n 0, 1) := by decide +kernel
theorem dX2_recordedCosts_14 : decode cX2_recordedCosts 14 = .ok (.getfield 9, 3) := by decide +kernel
theorem dX2_recordedCosts_17 : decode cX2_recordedCosts 17 = .ok (.arraylength, 1) := by decide +kernel
theorem dX2_recordedCosts_18 : decode cX2_recordedCosts 18 = .ok (.if_icmp .ge 39, 3) := by decide +kernel
theorem dX2_recordedCosts_21 : decode cX2_recordedCosts 21 = .ok (.iload 4, 2) := by decide +kernel
theorem dX2_recordedCosts_23 : decode cX2_recordedCosts 23 = .ok (.aload_n 0, 1) := by decide +kernel
theorem dX2_recordedCosts_24 : decode cX2_recordedCosts 24 = .ok (.getfield 15, 3) := by decide +kernel
theorem dX2_recordedCosts_27 : decode cX2_recordedCosts 27 = .ok (.arraylength, 1) := by decide +kernel
theorem dX2_recordedCosts_28 : decode cX2_recordedCosts 28 = .ok (.if_icmp .ge 29, 3) := by decide +kernel
theorem dX2_recordedCosts_31 : decode cX2_recordedCosts 31 = .ok (.lload_n 2, 1) := by decide +kernel
theorem dX2_recordedCosts_32 : decode cX2_recordedCosts 32 = .ok (.aload_n 0, 1) := by decide +kernel
theorem dX2_recordedCosts_33 : decode cX2_recordedCosts 33 = .ok (.getfield 9, 3) := by decide +kernel
theorem dX2_recordedCosts_36 : decode cX2_recordedCosts 36 = .ok (.iload 4, 2) := by decide +kernel
theorem dX2_recordedCosts_38 : decode cX2_recordedCosts 38 = .ok (.iaload, 1) := by decide +kernel
theorem dX2_recordedCosts_39 : decode cX2_recordedCosts 39 = .ok (.i2l, 1) := by decide +kernel
theorem dX2_recordedCosts_40 : decode cX2_recordedCosts 40 = .ok (.aload_n 0, 1) := by decide +kernel
theorem dX2_recordedCosts_41 : decode cX2_recordedCosts 41 = .ok (.getfield 15, 3) := by decide +kernel
theorem dX2_recordedCosts_44 : decode cX2_recordedCosts 44 = .ok (.iload 4, 2) := by decide +kernel
theorem dX2_recordedCosts_46 : decode cX2_recordedCosts 46 = .ok (.iaload, 1) := by decide +kernel
theorem dX2_recordedCosts_47 : decode cX2_recordedCosts 47 = .ok (.i2l, 1) := by decide +kernel
theorem dX2_recordedCosts_48 : decode cX2_recordedCosts 48 = .ok (.lmul, 1) := by decide +kernel
theorem dX2_recordedCosts_49 : decode cX2_recordedCosts 49 = .ok (.ladd, 1) := by decide +kernel
theorem dX2_recordedCosts_50 : decode cX2_recordedCosts 50 = .ok (.lstore_n 2, 1) := by decide +kernel
theorem dX2_recordedCosts_51 : decode cX2_recordedCosts 51 = .ok (.iinc 4 1, 3) := by decide +kernel
theorem dX2_recordedCosts_54 : decode cX2_recordedCosts 54 = .ok (.goto (-49), 3) := by decide +kernel
theorem dX2_recordedCosts_57 : decode cX2_recordedCosts 57 = .ok (.lload_n 2, 1) := by decide +kernel
theorem dX2_recordedCosts_58 : decode cX2_recordedCosts 58 = .ok (.lreturn, 1) := by decide +kernel
theorem dX2_recordedGreatest_0 : decode cX2_recordedGreatest 0 = .ok (.iconst 0, 1) := by decide +kernel
theorem dX2_recordedGreatest_1 : decode cX2_recordedGreatest 1 = .ok (.istore_n 2, 1) := by decide +kernel
theorem dX2_recordedGreatest_2 : decode cX2_recordedGreatest 2 = .ok (.iconst 0, 1) := by decide +kernel
theorem dX2_recordedGreatest_3 : decode cX2_recordedGreatest 3 = .ok (.istore_n 3, 1) := by decide +kernel
theorem dX2_recordedGreatest_4 : decode cX2_recordedGreatest 4 = .ok (.iload_n 3, 1) := by decide +kernel
theorem dX2_recordedGreatest_5 : decode cX2_recordedGreatest 5 = .ok (.iload_n 1, 1) := by decide +kernel
theorem dX2_recordedGreatest_6 : decode cX2_recordedGreatest 6 = .ok (.if_icmp .ge 29, 3) := by decide +kernel
theorem dX2_recordedGreatest_9 : decode cX2_recordedGreatest 9 = .ok (.iload_n 3, 1) := by decide +kernel
theorem dX2_recordedGreatest_10 : decode cX2_recordedGreatest 10 = .ok (.aload_n 0, 1) := by decide +kernel
theorem dX2_recordedGreatest_11 : decode cX2_recordedGreatest 11 = .ok (.getfield 9, 3) := by decide +kernel
theorem dX2_recordedGreatest_14 : decode cX2_recordedGreatest 14 = .ok (.arraylength, 1) := by decide +kernel
theorem dX2_recordedGreatest_15 : decode cX2_recordedGreatest 15 = .ok (.if_icmp .ge 20, 3) := by decide +kernel
theorem dX2_recordedGreatest_18 : decode cX2_recordedGreatest 18 = .ok (.iload_n 2, 1) := by decide +kernel
theorem dX2_recordedGreatest_19 : decode cX2_recordedGreatest 19 = .ok (.aload_n 0, 1) := by decide +kernel
theorem dX2_recordedGreatest_20 : decode cX2_recordedGreatest 20 = .ok (.getfield 9, 3) := by decide +kernel
theorem dX2_recordedGreatest_23 : decode cX2_recordedGreatest 23 = .ok (.iload_n 3, 1) := by decide +kernel
theorem dX2_recordedGreatest_24 : decode cX2_recordedGreatest 24 = .ok (.iaload, 1) := by decide +kernel
theorem dX2_recordedGreatest_25 : decode cX2_recordedGreatest 25 = .ok (.invokestatic 29, 3) := by decide +kernel
theorem dX2_recordedGreatest_28 : decode cX2_recordedGreatest 28 = .ok (.istore_n 2, 1) := by decide +kernel
theorem dX2_recordedGreatest_29 : decode cX2_recordedGreatest 29 = .ok (.iinc 3 1, 3) := by decide +kernel
theorem dX2_recordedGreatest_32 : decode cX2_recordedGreatest 32 = .ok (.goto (-28), 3) := by decide +kernel
theorem dX2_recordedGreatest_35 : decode cX2_recordedGreatest 35 = .ok (.iload_n 2, 1) := by decide +kernel
theorem dX2_recordedGreatest_36 : decode cX2_recordedGreatest 36 = .ok (.ireturn, 1) := by decide +kernel
theorem dX3_init_0 : decode cX3_init 0 = .ok (.aload_n 0, 1) := by decide +kernel
theorem dX3_init_1 : decode cX3_init 1 = .ok (.invokespecial 3, 3) := by decide +kernel
theorem dX3_init_4 : decode cX3_init 4 = .ok (.aload_n 0, 1) := by decide +kernel
theorem dX3_init_5 : decode cX3_init 5 = .ok (.bipush 111, 2) := by decide +kernel
theorem dX3_init_7 : decode cX3_init 7 = .ok (.putfield 9, 3) := by decide +kernel
theorem dX3_init_10 : decode cX3_init 10 = .ok (.aload_n 0, 1) := by decide +kernel
theorem dX3_init_11 : decode cX3_init 11 = .ok (.iconst 0, 1) := by decide +kernel
theorem dX3_init_12 : decode cX3_init 12 = .ok (.putfield 15, 3) := by decide +kernel
theorem dX3_init_15 : decode cX3_init 15 = .ok (.aload_n 0, 1) := by decide +kernel
theorem dX3_init_16 : decode cX3_init 16 = .ok (.aload_n 1, 1) := by decide +kernel
theorem dX3_init_17 : decode cX3_init 17 = .ok (.putfield 19, 3) := by decide +kernel
theorem dX3_init_20 : decode cX3_init 20 = .ok (.aload_n 0, 1) := by decide +kernel
theorem dX3_init_21 : decode cX3_init 21 = .ok (.iload_n 2, 1) := by decide +kernel
theorem dX3_init_22 : decode cX3_init 22 = .ok (.putfield 23, 3) := by decide +kernel
theorem dX3_init_25 : decode cX3_init 25 = .ok (.aload_n 0, 1) := by decide +kernel
theorem dX3_init_26 : decode cX3_init 26 = .ok (.iload_n 3, 1) := by decide +kernel
theorem dX3_init_27 : decode cX3_init 27 = .ok (.putfield 26, 3) := by decide +kernel
theorem dX3_init_30 : decode cX3_init 30 = .ok (.aload_n 0, 1) := by decide +kernel
theorem dX3_init_31 : decode cX3_init 31 = .ok (.iload 4, 2) := by decide +kernel
theorem dX3_init_33 : decode cX3_init 33 = .ok (.putfield 29, 3) := by decide +kernel
theorem dX3_init_36 : decode cX3_init 36 = .ok (.return_, 1) := by decide +kernel
set_option maxRecDepth 20000 in
theorem ggX3_accepts_X4_isInRoom : GoodIn wsX3_accepts wsX4_isInRoom := goodIn_r _ [9, 10, 11, 12, 13, 14, 15, 16] (by decide +kernel) (by decide +kernel)
set_option maxRecDepth 20000 in
theorem gX3_accepts_X4_isInRoom : GoodIn wsX3_accepts (wsV RX3 32 RX4 yX4_isInRoom wsX4_isInRoom) := goodIn_app (goodIn_of _ (by decide +kernel)) ggX3_accepts_X4_isInRoom
theorem dX3_accepts_0 : decode cX3_accepts 0 = .ok (.aload_n 1, 1) := by decide +kernel
theorem dX3_accepts_1 : decode cX3_accepts 1 = .ok (.invokevirtual 32, 3) := by decide +kernel
theorem dX3_accepts_4 : decode cX3_accepts 4 = .ok (.ifCond .eq 29, 3) := by decide +kernel
theorem dX3_accepts_7 : decode cX3_accepts 7 = .ok (.aload_n 1, 1) := by decide +kernel
theorem dX3_accepts_8 : decode cX3_accepts 8 = .ok (.getfield 38, 3) := by decide +kernel
theorem dX3_accepts_11 : decode cX3_accepts 11 = .ok (.aload_n 0, 1) := by decide +kernel
theorem dX3_accepts_12 : decode cX3_accepts 12 = .ok (.getfield 19, 3) := by decide +kernel
theorem dX3_accepts_15 : decode cX3_accepts 15 = .ok (.if_acmp .ne 18, 3) := by decide +kernel
theorem dX3_accepts_18 : decode cX3_accepts 18 = .ok (.aload_n 1, 1) := by decide +kernel
theorem dX3_accepts_19 : decode cX3_accepts 19 = .ok (.getfield 39, 3) := by decide +kernel
theorem dX3_accepts_22 : decode cX3_accepts 22 = .ok (.aload_n 0, 1) := by decide +kernel
theorem dX3_accepts_23 : decode cX3_accepts 23 = .ok (.getfield 26, 3) := by decide +kernel
theorem dX3_accepts_26 : decode cX3_accepts 26 = .ok (.if_icmp .lt 7, 3) := by decide +kernel
theorem dX3_accepts_29 : decode cX3_accepts 29 = .ok (.iconst 1, 1) := by decide +kernel
theorem dX3_accepts_30 : decode cX3_accepts 30 = .ok (.goto 4, 3) := by decide +kernel
theorem dX3_accepts_33 : decode cX3_accepts 33 = .ok (.iconst 0, 1) := by decide +kernel
theorem dX3_accepts_34 : decode cX3_accepts 34 = .ok (.ireturn, 1) := by decide +kernel
set_option maxRecDepth 20000 in
theorem ggX4_init_X6_init : GoodIn wsX4_init wsX6_init := goodIn_r _ [16, 17, 2, 3, 18, 19, 20, 27, 28, 29] (by decide +kernel) (by decide +kernel)
set_option maxRecDepth 20000 in
theorem gX4_init_X6_init : GoodIn wsX4_init (wsX6_init) := ggX4_init_X6_init
theorem dX4_init_0 : decode cX4_init 0 = .ok (.aload_n 0, 1) := by decide +kernel
theorem dX4_init_1 : decode cX4_init 1 = .ok (.invokespecial 3, 3) := by decide +kernel
theorem dX4_init_4 : decode cX4_init 4 = .ok (.aload_n 0, 1) := by decide +kernel
theorem dX4_init_5 : decode cX4_init 5 = .ok (.bipush 114, 2) := by decide +kernel
theorem dX4_init_7 : decode cX4_init 7 = .ok (.putfield 9, 3) := by decide +kernel
theorem dX4_init_10 : decode cX4_init 10 = .ok (.aload_n 0, 1) := by decide +kernel
theorem dX4_init_11 : decode cX4_init 11 = .ok (.sipush 960, 3) := by decide +kernel
theorem dX4_init_14 : decode cX4_init 14 = .ok (.putfield 15, 3) := by decide +kernel
theorem dX4_init_17 : decode cX4_init 17 = .ok (.aload_n 0, 1) := by decide +kernel
theorem dX4_init_18 : decode cX4_init 18 = .ok (.iload_n 1, 1) := by decide +kernel
theorem dX4_init_19 : decode cX4_init 19 = .ok (.putfield 19, 3) := by decide +kernel
theorem dX4_init_22 : decode cX4_init 22 = .ok (.aload_n 0, 1) := by decide +kernel
theorem dX4_init_23 : decode cX4_init 23 = .ok (.aload_n 2, 1) := by decide +kernel
theorem dX4_init_24 : decode cX4_init 24 = .ok (.putfield 22, 3) := by decide +kernel
theorem dX4_init_27 : decode cX4_init 27 = .ok (.aload_n 0, 1) := by decide +kernel
theorem dX4_init_28 : decode cX4_init 28 = .ok (.new 26, 3) := by decide +kernel
theorem dX4_init_31 : decode cX4_init 31 = .ok (.dup, 1) := by decide +kernel
theorem dX4_init_32 : decode cX4_init 32 = .ok (.aload_n 3, 1) := by decide +kernel
theorem dX4_init_33 : decode cX4_init 33 = .ok (.iload 4, 2) := by decide +kernel
theorem dX4_init_35 : decode cX4_init 35 = .ok (.aconst_null, 1) := by decide +kernel
theorem dX4_init_36 : decode cX4_init 36 = .ok (.invokespecial 28, 3) := by decide +kernel
theorem dX4_init_39 : decode cX4_init 39 = .ok (.putfield 31, 3) := by decide +kernel
theorem dX4_init_42 : decode cX4_init 42 = .ok (.aload_n 0, 1) := by decide +kernel
theorem dX4_init_43 : decode cX4_init 43 = .ok (.aload_n 2, 1) := by decide +kernel
theorem dX4_init_44 : decode cX4_init 44 = .ok (.getfield 35, 3) := by decide +kernel
theorem dX4_init_47 : decode cX4_init 47 = .ok (.putfield 40, 3) := by decide +kernel
theorem dX4_init_50 : decode cX4_init 50 = .ok (.return_, 1) := by decide +kernel
theorem dX4_isInRoom_0 : decode cX4_isInRoom 0 = .ok (.aload_n 0, 1) := by decide +kernel
theorem dX4_isInRoom_1 : decode cX4_isInRoom 1 = .ok (.getfield 9, 3) := by decide +kernel
theorem dX4_isInRoom_4 : decode cX4_isInRoom 4 = .ok (.bipush 114, 2) := by decide +kernel
theorem dX4_isInRoom_6 : decode cX4_isInRoom 6 = .ok (.if_icmp .ne 7, 3) := by decide +kernel
theorem dX4_isInRoom_9 : decode cX4_isInRoom 9 = .ok (.iconst 1, 1) := by decide +kernel
theorem dX4_isInRoom_10 : decode cX4_isInRoom 10 = .ok (.goto 4, 3) := by decide +kernel
theorem dX4_isInRoom_13 : decode cX4_isInRoom 13 = .ok (.iconst 0, 1) := by decide +kernel
theorem dX4_isInRoom_14 : decode cX4_isInRoom 14 = .ok (.ireturn, 1) := by decide +kernel
theorem dX4_isAheadOf_0 : decode cX4_isAheadOf 0 = .ok (.aload_n 0, 1) := by decide +kernel
theorem dX4_isAheadOf_1 : decode cX4_isAheadOf 1 = .ok (.getfield 40, 3) := by decide +kernel
theorem dX4_isAheadOf_4 : decode cX4_isAheadOf 4 = .ok (.aload_n 1, 1) := by decide +kernel
theorem dX4_isAheadOf_5 : decode cX4_isAheadOf 5 = .ok (.getfield 40, 3) := by decide +kernel
theorem dX4_isAheadOf_8 : decode cX4_isAheadOf 8 = .ok (.if_icmp .lt 25, 3) := by decide +kernel
theorem dX4_isAheadOf_11 : decode cX4_isAheadOf 11 = .ok (.aload_n 0, 1) := by decide +kernel
theorem dX4_isAheadOf_12 : decode cX4_isAheadOf 12 = .ok (.getfield 40, 3) := by decide +kernel
theorem dX4_isAheadOf_15 : decode cX4_isAheadOf 15 = .ok (.aload_n 1, 1) := by decide +kernel
theorem dX4_isAheadOf_16 : decode cX4_isAheadOf 16 = .ok (.getfield 40, 3) := by decide +kernel
theorem dX4_isAheadOf_19 : decode cX4_isAheadOf 19 = .ok (.if_icmp .ne 18, 3) := by decide +kernel
theorem dX4_isAheadOf_22 : decode cX4_isAheadOf 22 = .ok (.aload_n 0, 1) := by decide +kernel
theorem dX4_isAheadOf_23 : decode cX4_isAheadOf 23 = .ok (.getfield 19, 3) := by decide +kernel
theorem dX4_isAheadOf_26 : decode cX4_isAheadOf 26 = .ok (.aload_n 1, 1) := by decide +kernel
theorem dX4_isAheadOf_27 : decode cX4_isAheadOf 27 = .ok (.getfield 19, 3) := by decide +kernel
theorem dX4_isAheadOf_30 : decode cX4_isAheadOf 30 = .ok (.if_icmp .ge 7, 3) := by decide +kernel
theorem dX4_isAheadOf_33 : decode cX4_isAheadOf 33 = .ok (.iconst 1, 1) := by decide +kernel
theorem dX4_isAheadOf_34 : decode cX4_isAheadOf 34 = .ok (.goto 4, 3) := by decide +kernel
theorem dX4_isAheadOf_37 : decode cX4_isAheadOf 37 = .ok (.iconst 0, 1) := by decide +kernel
theorem dX4_isAheadOf_38 : decode cX4_isAheadOf 38 = .ok (.ireturn, 1) := by decide +kernel
set_option maxRecDepth 20000 in
theorem ggX4_enter_X6_init : GoodIn wsX4_enter wsX6_init := goodIn_r _ [9, 10, 11, 12, 13, 14, 15, 22, 23, 24] (by decide +kernel) (by decide +kernel)
set_option maxRecDepth 20000 in
theorem gX4_enter_X6_init : GoodIn wsX4_enter (wsX6_init) := ggX4_enter_X6_init
theorem dX4_enter_0 : decode cX4_enter 0 = .ok (.aload_n 0, 1) := by decide +kernel
theorem dX4_enter_1 : decode cX4_enter 1 = .ok (.getfield 31, 3) := by decide +kernel
theorem dX4_enter_4 : decode cX4_enter 4 = .ok (.getfield 43, 3) := by decide +kernel
theorem dX4_enter_7 : decode cX4_enter 7 = .ok (.iload_n 2, 1) := by decide +kernel
theorem dX4_enter_8 : decode cX4_enter 8 = .ok (.if_icmp .ne 13, 3) := by decide +kernel
theorem dX4_enter_11 : decode cX4_enter 11 = .ok (.aload_n 0, 1) := by decide +kernel
theorem dX4_enter_12 : decode cX4_enter 12 = .ok (.getfield 31, 3) := by decide +kernel
theorem dX4_enter_15 : decode cX4_enter 15 = .ok (.getfield 46, 3) := by decide +kernel
theorem dX4_enter_18 : decode cX4_enter 18 = .ok (.goto 7, 3) := by decide +kernel
theorem dX4_enter_21 : decode cX4_enter 21 = .ok (.aload_n 0, 1) := by decide +kernel
theorem dX4_enter_22 : decode cX4_enter 22 = .ok (.getfield 31, 3) := by decide +kernel
theorem dX4_enter_25 : decode cX4_enter 25 = .ok (.astore_n 3, 1) := by decide +kernel
theorem dX4_enter_26 : decode cX4_enter 26 = .ok (.aload_n 0, 1) := by decide +kernel
theorem dX4_enter_27 : decode cX4_enter 27 = .ok (.new 26, 3) := by decide +kernel
theorem dX4_enter_30 : decode cX4_enter 30 = .ok (.dup, 1) := by decide +kernel
theorem dX4_enter_31 : decode cX4_enter 31 = .ok (.aload_n 1, 1) := by decide +kernel
theorem dX4_enter_32 : decode cX4_enter 32 = .ok (.iload_n 2, 1) := by decide +kernel
theorem dX4_enter_33 : decode cX4_enter 33 = .ok (.aload_n 3, 1) := by decide +kernel
theorem dX4_enter_34 : decode cX4_enter 34 = .ok (.invokespecial 28, 3) := by decide +kernel
theorem dX4_enter_37 : decode cX4_enter 37 = .ok (.putfield 31, 3) := by decide +kernel
theorem dX4_enter_40 : decode cX4_enter 40 = .ok (.return_, 1) := by decide +kernel
theorem dX4_leave_0 : decode cX4_leave 0 = .ok (.aload_n 0, 1) := by decide +kernel
theorem dX4_leave_1 : decode cX4_leave 1 = .ok (.iload_n 1, 1) := by decide +kernel
theorem dX4_leave_2 : decode cX4_leave 2 = .ok (.putfield 9, 3) := by decide +kernel
theorem dX4_leave_5 : decode cX4_leave 5 = .ok (.aload_n 0, 1) := by decide +kernel
theorem dX4_leave_6 : decode cX4_leave 6 = .ok (.iload_n 2, 1) := by decide +kernel
theorem dX4_leave_7 : decode cX4_leave 7 = .ok (.putfield 15, 3) := by decide +kernel
theorem dX4_leave_10 : decode cX4_leave 10 = .ok (.return_, 1) := by decide +kernel
set_option maxRecDepth 20000 in
theorem ggX4_loseLife_X4_isInRoom : GoodIn wsX4_loseLife wsX4_isInRoom := goodIn_r _ [14, 15, 23, 24, 25, 26, 27, 28] (by decide +kernel) (by decide +kernel)
set_option maxRecDepth 20000 in
theorem gX4_loseLife_X4_isInRoom : GoodIn wsX4_loseLife (wsV RX4 49 RX4 yX4_isInRoom wsX4_isInRoom) := goodIn_app (goodIn_of _ (by decide +kernel)) ggX4_loseLife_X4_isInRoom
set_option maxRecDepth 20000 in
theorem ggX4_loseLife_X1_lossAt : GoodIn wsX4_loseLife wsX1_lossAt := goodIn_r _ [20, 21, 22, 49, 50, 51] (by decide +kernel) (by decide +kernel)
set_option maxRecDepth 20000 in
theorem gX4_loseLife_X1_lossAt : GoodIn wsX4_loseLife (wsV RX4 62 RX1 yX1_lossAt wsX1_lossAt) := goodIn_app (goodIn_of _ (by decide +kernel)) ggX4_loseLife_X1_lossAt
theorem dX4_loseLife_0 : decode cX4_loseLife 0 = .ok (.aload_n 0, 1) := by decide +kernel
theorem dX4_loseLife_1 : decode cX4_loseLife 1 = .ok (.invokevirtual 49, 3) := by decide +kernel
theorem dX4_loseLife_4 : decode cX4_loseLife 4 = .ok (.ifCond .eq 33, 3) := by decide +kernel
theorem dX4_loseLife_7 : decode cX4_loseLife 7 = .ok (.aload_n 0, 1) := by decide +kernel
theorem dX4_loseLife_8 : decode cX4_loseLife 8 = .ok (.iconst 0, 1) := by decide +kernel
theorem dX4_loseLife_9 : decode cX4_loseLife 9 = .ok (.aload_n 0, 1) := by decide +kernel
theorem dX4_loseLife_10 : decode cX4_loseLife 10 = .ok (.getfield 40, 3) := by decide +kernel
theorem dX4_loseLife_13 : decode cX4_loseLife 13 = .ok (.aload_n 0, 1) := by decide +kernel
theorem dX4_loseLife_14 : decode cX4_loseLife 14 = .ok (.getfield 22, 3) := by decide +kernel
theorem dX4_loseLife_17 : decode cX4_loseLife 17 = .ok (.aload_n 0, 1) := by decide +kernel
theorem dX4_loseLife_18 : decode cX4_loseLife 18 = .ok (.getfield 31, 3) := by decide +kernel
theorem dX4_loseLife_21 : decode cX4_loseLife 21 = .ok (.getfield 53, 3) := by decide +kernel
theorem dX4_loseLife_24 : decode cX4_loseLife 24 = .ok (.getfield 57, 3) := by decide +kernel
theorem dX4_loseLife_27 : decode cX4_loseLife 27 = .ok (.invokevirtual 62, 3) := by decide +kernel
theorem dX4_loseLife_30 : decode cX4_loseLife 30 = .ok (.isub, 1) := by decide +kernel
theorem dX4_loseLife_31 : decode cX4_loseLife 31 = .ok (.invokestatic 66, 3) := by decide +kernel
theorem dX4_loseLife_34 : decode cX4_loseLife 34 = .ok (.putfield 40, 3) := by decide +kernel
theorem dX4_loseLife_37 : decode cX4_loseLife 37 = .ok (.return_, 1) := by decide +kernel
set_option maxRecDepth 20000 in
theorem ggX4_recordedLife_X4_isInRoom : GoodIn wsX4_recordedLife wsX4_isInRoom := goodIn_r _ [16, 17, 32, 33, 34, 35, 36, 37] (by decide +kernel) (by decide +kernel)
set_option maxRecDepth 20000 in
theorem gX4_recordedLife_X4_isInRoom : GoodIn wsX4_recordedLife (wsV RX4 49 RX4 yX4_isInRoom wsX4_isInRoom) := goodIn_app (goodIn_of _ (by decide +kernel)) ggX4_recordedLife_X4_isInRoom
set_option maxRecDepth 20000 in
theorem ggX4_recordedLife_X5_recordedAt : GoodIn wsX4_recordedLife wsX5_recordedAt := goodIn_ca (goodIn_r _ [22, 23, 24, 44, 45, 46, 47, 48, 49, 50, 51, 52, 53, 54, 55, 56, 57, 58, 59, 60] (by decide +kernel) (by decide +kernel)) (goodIn_sub (fun _ h => List.mem_cons_of_mem _ (List.mem_append_right _ h)) (by decide +kernel))
set_option maxRecDepth 20000 in
theorem gX4_recordedLife_X5_recordedAt : GoodIn wsX4_recordedLife (wsV RX4 72 RX5 yX5_recordedAt wsX5_recordedAt) := goodIn_app (goodIn_of _ (by decide +kernel)) ggX4_recordedLife_X5_recordedAt
set_option maxRecDepth 20000 in
theorem ggX4_recordedLife_X1_lossAt : GoodIn wsX4_recordedLife wsX1_lossAt := goodIn_r _ [29, 30, 31, 41, 42, 43] (by decide +kernel) (by decide +kernel)
set_option maxRecDepth 20000 in
theorem gX4_recordedLife_X1_lossAt : GoodIn wsX4_recordedLife (wsV RX4 62 RX1 yX1_lossAt wsX1_lossAt) := goodIn_app (goodIn_of _ (by decide +kernel)) ggX4_recordedLife_X1_lossAt
theorem dX4_recordedLife_0 : decode cX4_recordedLife 0 = .ok (.iconst 0, 1) := by decide +kernel
theorem dX4_recordedLife_1 : decode cX4_recordedLife 1 = .ok (.istore_n 2, 1) := by decide +kernel
theorem dX4_recordedLife_2 : decode cX4_recordedLife 2 = .ok (.aload_n 0, 1) := by decide +kernel
theorem dX4_recordedLife_3 : decode cX4_recordedLife 3 = .ok (.invokevirtual 49, 3) := by decide +kernel
theorem dX4_recordedLife_6 : decode cX4_recordedLife 6 = .ok (.ifCond .eq 7, 3) := by decide +kernel
theorem dX4_recordedLife_9 : decode cX4_recordedLife 9 = .ok (.iload_n 1, 1) := by decide +kernel
theorem dX4_recordedLife_10 : decode cX4_recordedLife 10 = .ok (.goto 7, 3) := by decide +kernel
theorem dX4_recordedLife_13 : decode cX4_recordedLife 13 = .ok (.aload_n 0, 1) := by decide +kernel
theorem dX4_recordedLife_14 : decode cX4_recordedLife 14 = .ok (.getfield 15, 3) := by decide +kernel
theorem dX4_recordedLife_17 : decode cX4_recordedLife 17 = .ok (.istore_n 3, 1) := by decide +kernel
theorem dX4_recordedLife_18 : decode cX4_recordedLife 18 = .ok (.aload_n 0, 1) := by decide +kernel
theorem dX4_recordedLife_19 : decode cX4_recordedLife 19 = .ok (.getfield 31, 3) := by decide +kernel
theorem dX4_recordedLife_22 : decode cX4_recordedLife 22 = .ok (.astore 4, 2) := by decide +kernel
theorem dX4_recordedLife_24 : decode cX4_recordedLife 24 = .ok (.aload 4, 2) := by decide +kernel
theorem dX4_recordedLife_26 : decode cX4_recordedLife 26 = .ok (.ifnull 58, 3) := by decide +kernel
theorem dX4_recordedLife_29 : decode cX4_recordedLife 29 = .ok (.aload 4, 2) := by decide +kernel
theorem dX4_recordedLife_31 : decode cX4_recordedLife 31 = .ok (.getfield 43, 3) := by decide +kernel
theorem dX4_recordedLife_34 : decode cX4_recordedLife 34 = .ok (.istore 5, 2) := by decide +kernel
theorem dX4_recordedLife_36 : decode cX4_recordedLife 36 = .ok (.iload 5, 2) := by decide +kernel
theorem dX4_recordedLife_38 : decode cX4_recordedLife 38 = .ok (.iload_n 3, 1) := by decide +kernel
theorem dX4_recordedLife_39 : decode cX4_recordedLife 39 = .ok (.if_icmp .ge 29, 3) := by decide +kernel
theorem dX4_recordedLife_42 : decode cX4_recordedLife 42 = .ok (.iload_n 2, 1) := by decide +kernel
theorem dX4_recordedLife_43 : decode cX4_recordedLife 43 = .ok (.aload_n 0, 1) := by decide +kernel
theorem dX4_recordedLife_44 : decode cX4_recordedLife 44 = .ok (.getfield 22, 3) := by decide +kernel
theorem dX4_recordedLife_47 : decode cX4_recordedLife 47 = .ok (.aload 4, 2) := by decide +kernel
theorem dX4_recordedLife_49 : decode cX4_recordedLife 49 = .ok (.getfield 53, 3) := by decide +kernel
theorem dX4_recordedLife_52 : decode cX4_recordedLife 52 = .ok (.iload 5, 2) := by decide +kernel
theorem dX4_recordedLife_54 : decode cX4_recordedLife 54 = .ok (.invokevirtual 72, 3) := by decide +kernel
theorem dX4_recordedLife_57 : decode cX4_recordedLife 57 = .ok (.invokevirtual 62, 3) := by decide +kernel
theorem dX4_recordedLife_60 : decode cX4_recordedLife 60 = .ok (.iadd, 1) := by decide +kernel
theorem dX4_recordedLife_61 : decode cX4_recordedLife 61 = .ok (.istore_n 2, 1) := by decide +kernel
theorem dX4_recordedLife_62 : decode cX4_recordedLife 62 = .ok (.iinc 5 1, 3) := by decide +kernel
theorem dX4_recordedLife_65 : decode cX4_recordedLife 65 = .ok (.goto (-29), 3) := by decide +kernel
theorem dX4_recordedLife_68 : decode cX4_recordedLife 68 = .ok (.aload 4, 2) := by decide +kernel
theorem dX4_recordedLife_70 : decode cX4_recordedLife 70 = .ok (.getfield 43, 3) := by decide +kernel
theorem dX4_recordedLife_73 : decode cX4_recordedLife 73 = .ok (.istore_n 3, 1) := by decide +kernel
theorem dX4_recordedLife_74 : decode cX4_recordedLife 74 = .ok (.aload 4, 2) := by decide +kernel
theorem dX4_recordedLife_76 : decode cX4_recordedLife 76 = .ok (.getfield 46, 3) := by decide +kernel
theorem dX4_recordedLife_79 : decode cX4_recordedLife 79 = .ok (.astore 4, 2) := by decide +kernel
theorem dX4_recordedLife_81 : decode cX4_recordedLife 81 = .ok (.goto (-57), 3) := by decide +kernel
theorem dX4_recordedLife_84 : decode cX4_recordedLife 84 = .ok (.iconst 0, 1) := by decide +kernel
theorem dX4_recordedLife_85 : decode cX4_recordedLife 85 = .ok (.aload_n 0, 1) := by decide +kernel
theorem dX4_recordedLife_86 : decode cX4_recordedLife 86 = .ok (.getfield 22, 3) := by decide +kernel
theorem dX4_recordedLife_89 : decode cX4_recordedLife 89 = .ok (.getfield 35, 3) := by decide +kernel
theorem dX4_recordedLife_92 : decode cX4_recordedLife 92 = .ok (.iload_n 2, 1) := by decide +kernel
theorem dX4_recordedLife_93 : decode cX4_recordedLife 93 = .ok (.isub, 1) := by decide +kernel
theorem dX4_recordedLife_94 : decode cX4_recordedLife 94 = .ok (.invokestatic 66, 3) := by decide +kernel
theorem dX4_recordedLife_97 : decode cX4_recordedLife 97 = .ok (.ireturn, 1) := by decide +kernel
theorem dX5_init_0 : decode cX5_init 0 = .ok (.aload_n 0, 1) := by decide +kernel
theorem dX5_init_1 : decode cX5_init 1 = .ok (.invokespecial 3, 3) := by decide +kernel
theorem dX5_init_4 : decode cX5_init 4 = .ok (.aload_n 0, 1) := by decide +kernel
theorem dX5_init_5 : decode cX5_init 5 = .ok (.sipush 960, 3) := by decide +kernel
theorem dX5_init_8 : decode cX5_init 8 = .ok (.newarray .int, 2) := by decide +kernel
theorem dX5_init_10 : decode cX5_init 10 = .ok (.putfield 9, 3) := by decide +kernel
theorem dX5_init_13 : decode cX5_init 13 = .ok (.aload_n 0, 1) := by decide +kernel
theorem dX5_init_14 : decode cX5_init 14 = .ok (.bipush 20, 2) := by decide +kernel
theorem dX5_init_16 : decode cX5_init 16 = .ok (.putfield 15, 3) := by decide +kernel
theorem dX5_init_19 : decode cX5_init 19 = .ok (.aload_n 0, 1) := by decide +kernel
theorem dX5_init_20 : decode cX5_init 20 = .ok (.bipush 50, 2) := by decide +kernel
theorem dX5_init_22 : decode cX5_init 22 = .ok (.putfield 19, 3) := by decide +kernel
theorem dX5_init_25 : decode cX5_init 25 = .ok (.aload_n 0, 1) := by decide +kernel
theorem dX5_init_26 : decode cX5_init 26 = .ok (.bipush 97, 2) := by decide +kernel
theorem dX5_init_28 : decode cX5_init 28 = .ok (.putfield 22, 3) := by decide +kernel
theorem dX5_init_31 : decode cX5_init 31 = .ok (.aload_n 0, 1) := by decide +kernel
theorem dX5_init_32 : decode cX5_init 32 = .ok (.iconst 0, 1) := by decide +kernel
theorem dX5_init_33 : decode cX5_init 33 = .ok (.putfield 26, 3) := by decide +kernel
theorem dX5_init_36 : decode cX5_init 36 = .ok (.aload_n 0, 1) := by decide +kernel
theorem dX5_init_37 : decode cX5_init 37 = .ok (.iconst 0, 1) := by decide +kernel
theorem dX5_init_38 : decode cX5_init 38 = .ok (.putfield 29, 3) := by decide +kernel
theorem dX5_init_41 : decode cX5_init 41 = .ok (.aload_n 0, 1) := by decide +kernel
theorem dX5_init_42 : decode cX5_init 42 = .ok (.iconst 0, 1) := by decide +kernel
theorem dX5_init_43 : decode cX5_init 43 = .ok (.putfield 32, 3) := by decide +kernel
theorem dX5_init_46 : decode cX5_init 46 = .ok (.aload_n 0, 1) := by decide +kernel
theorem dX5_init_47 : decode cX5_init 47 = .ok (.iconst 0, 1) := by decide +kernel
theorem dX5_init_48 : decode cX5_init 48 = .ok (.putfield 36, 3) := by decide +kernel
theorem dX5_init_51 : decode cX5_init 51 = .ok (.aload_n 0, 1) := by decide +kernel
theorem dX5_init_52 : decode cX5_init 52 = .ok (.iconst 0, 1) := by decide +kernel
theorem dX5_init_53 : decode cX5_init 53 = .ok (.putfield 39, 3) := by decide +kernel
theorem dX5_init_56 : decode cX5_init 56 = .ok (.aload_n 0, 1) := by decide +kernel
theorem dX5_init_57 : decode cX5_init 57 = .ok (.iconst 0, 1) := by decide +kernel
theorem dX5_init_58 : decode cX5_init 58 = .ok (.putfield 42, 3) := by decide +kernel
theorem dX5_init_61 : decode cX5_init 61 = .ok (.aload_n 0, 1) := by decide +kernel
theorem dX5_init_62 : decode cX5_init 62 = .ok (.iconst 0, 1) := by decide +kernel
theorem dX5_init_63 : decode cX5_init 63 = .ok (.putfield 45, 3) := by decide +kernel
theorem dX5_init_66 : decode cX5_init 66 = .ok (.aload_n 0, 1) := by decide +kernel
theorem dX5_init_67 : decode cX5_init 67 = .ok (.sipush (-400), 3) := by decide +kernel
theorem dX5_init_70 : decode cX5_init 70 = .ok (.putfield 48, 3) := by decide +kernel
theorem dX5_init_73 : decode cX5_init 73 = .ok (.aload_n 0, 1) := by decide +kernel
theorem dX5_init_74 : decode cX5_init 74 = .ok (.iload_n 1, 1) := by decide +kernel
theorem dX5_init_75 : decode cX5_init 75 = .ok (.putfield 51, 3) := by decide +kernel
theorem dX5_init_78 : decode cX5_init 78 = .ok (.aload_n 0, 1) := by decide +kernel
theorem dX5_init_79 : decode cX5_init 79 = .ok (.iload_n 2, 1) := by decide +kernel
theorem dX5_init_80 : decode cX5_init 80 = .ok (.putfield 54, 3) := by decide +kernel
theorem dX5_init_83 : decode cX5_init 83 = .ok (.aload_n 0, 1) := by decide +kernel
theorem dX5_init_84 : decode cX5_init 84 = .ok (.iload_n 3, 1) := by decide +kernel
theorem dX5_init_85 : decode cX5_init 85 = .ok (.putfield 57, 3) := by decide +kernel
theorem dX5_init_88 : decode cX5_init 88 = .ok (.aload_n 0, 1) := by decide +kernel
theorem dX5_init_89 : decode cX5_init 89 = .ok (.iload 4, 2) := by decide +kernel
theorem dX5_init_91 : decode cX5_init 91 = .ok (.putfield 60, 3) := by decide +kernel
theorem dX5_init_94 : decode cX5_init 94 = .ok (.aload_n 0, 1) := by decide +kernel
theorem dX5_init_95 : decode cX5_init 95 = .ok (.iload 5, 2) := by decide +kernel
theorem dX5_init_97 : decode cX5_init 97 = .ok (.putfield 63, 3) := by decide +kernel
theorem dX5_init_100 : decode cX5_init 100 = .ok (.return_, 1) := by decide +kernel
set_option maxRecDepth 20000 in
theorem ggX5_decide_X5_shiftIn : GoodIn wsX5_decide wsX5_shiftIn := goodIn_r _ [10, 11, 12, 13, 14, 15, 16, 17, 18, 19, 20, 21, 22, 23, 24, 25, 26, 27, 28, 29, 30, 31, 32, 33, 34, 35, 36, 37, 38, 39, 40, 41, 42, 43, 44, 45, 46] (by decide +kernel) (by decide +kernel)
set_option maxRecDepth 20000 in
theorem gX5_decide_X5_shiftIn : GoodIn wsX5_decide (wsV RX5 66 RX5 yX5_shiftIn wsX5_shiftIn) := goodIn_app (goodIn_of _ (by decide +kernel)) ggX5_decide_X5_shiftIn
theorem dX5_decide_0 : decode cX5_decide 0 = .ok (.aload_n 0, 1) := by decide +kernel
theorem dX5_decide_1 : decode cX5_decide 1 = .ok (.getfield 22, 3) := by decide +kernel
theorem dX5_decide_4 : decode cX5_decide 4 = .ok (.bipush 111, 2) := by decide +kernel
theorem dX5_decide_6 : decode cX5_decide 6 = .ok (.if_icmp .ne 11, 3) := by decide +kernel
theorem dX5_decide_9 : decode cX5_decide 9 = .ok (.aload_n 0, 1) := by decide +kernel
theorem dX5_decide_10 : decode cX5_decide 10 = .ok (.iconst 1, 1) := by decide +kernel
theorem dX5_decide_11 : decode cX5_decide 11 = .ok (.putfield 32, 3) := by decide +kernel
theorem dX5_decide_14 : decode cX5_decide 14 = .ok (.goto 66, 3) := by decide +kernel
theorem dX5_decide_17 : decode cX5_decide 17 = .ok (.aload_n 0, 1) := by decide +kernel
theorem dX5_decide_18 : decode cX5_decide 18 = .ok (.getfield 22, 3) := by decide +kernel
theorem dX5_decide_21 : decode cX5_decide 21 = .ok (.bipush 110, 2) := by decide +kernel
theorem dX5_decide_23 : decode cX5_decide 23 = .ok (.if_icmp .ne 11, 3) := by decide +kernel
theorem dX5_decide_26 : decode cX5_decide 26 = .ok (.aload_n 0, 1) := by decide +kernel
theorem dX5_decide_27 : decode cX5_decide 27 = .ok (.iconst 0, 1) := by decide +kernel
theorem dX5_decide_28 : decode cX5_decide 28 = .ok (.putfield 32, 3) := by decide +kernel
theorem dX5_decide_31 : decode cX5_decide 31 = .ok (.goto 49, 3) := by decide +kernel
theorem dX5_decide_34 : decode cX5_decide 34 = .ok (.aload_n 0, 1) := by decide +kernel
theorem dX5_decide_35 : decode cX5_decide 35 = .ok (.aload_n 1, 1) := by decide +kernel
theorem dX5_decide_36 : decode cX5_decide 36 = .ok (.iload_n 2, 1) := by decide +kernel
theorem dX5_decide_37 : decode cX5_decide 37 = .ok (.invokevirtual 66, 3) := by decide +kernel
theorem dX5_decide_40 : decode cX5_decide 40 = .ok (.istore_n 3, 1) := by decide +kernel
theorem dX5_decide_41 : decode cX5_decide 41 = .ok (.aload_n 0, 1) := by decide +kernel
theorem dX5_decide_42 : decode cX5_decide 42 = .ok (.getfield 63, 3) := by decide +kernel
theorem dX5_decide_45 : decode cX5_decide 45 = .ok (.aload_n 0, 1) := by decide +kernel
theorem dX5_decide_46 : decode cX5_decide 46 = .ok (.getfield 19, 3) := by decide +kernel
theorem dX5_decide_49 : decode cX5_decide 49 = .ok (.iload_n 3, 1) := by decide +kernel
theorem dX5_decide_50 : decode cX5_decide 50 = .ok (.iadd, 1) := by decide +kernel
theorem dX5_decide_51 : decode cX5_decide 51 = .ok (.if_icmp .le 11, 3) := by decide +kernel
theorem dX5_decide_54 : decode cX5_decide 54 = .ok (.aload_n 0, 1) := by decide +kernel
theorem dX5_decide_55 : decode cX5_decide 55 = .ok (.iconst 1, 1) := by decide +kernel
theorem dX5_decide_56 : decode cX5_decide 56 = .ok (.putfield 32, 3) := by decide +kernel
theorem dX5_decide_59 : decode cX5_decide 59 = .ok (.goto 21, 3) := by decide +kernel
theorem dX5_decide_62 : decode cX5_decide 62 = .ok (.aload_n 0, 1) := by decide +kernel
theorem dX5_decide_63 : decode cX5_decide 63 = .ok (.getfield 63, 3) := by decide +kernel
theorem dX5_decide_66 : decode cX5_decide 66 = .ok (.aload_n 0, 1) := by decide +kernel
theorem dX5_decide_67 : decode cX5_decide 67 = .ok (.getfield 15, 3) := by decide +kernel
theorem dX5_decide_70 : decode cX5_decide 70 = .ok (.iload_n 3, 1) := by decide +kernel
theorem dX5_decide_71 : decode cX5_decide 71 = .ok (.iadd, 1) := by decide +kernel
theorem dX5_decide_72 : decode cX5_decide 72 = .ok (.if_icmp .gt 8, 3) := by decide +kernel
theorem dX5_decide_75 : decode cX5_decide 75 = .ok (.aload_n 0, 1) := by decide +kernel
theorem dX5_decide_76 : decode cX5_decide 76 = .ok (.iconst 0, 1) := by decide +kernel
theorem dX5_decide_77 : decode cX5_decide 77 = .ok (.putfield 32, 3) := by decide +kernel
theorem dX5_decide_80 : decode cX5_decide 80 = .ok (.return_, 1) := by decide +kernel
set_option maxRecDepth 20000 in
theorem ggX5_shiftIn_X0_isPeak : GoodIn wsX5_shiftIn wsX0_isPeak := goodIn_r _ [7, 8, 9, 31, 32, 33, 34, 35, 36] (by decide +kernel) (by decide +kernel)
set_option maxRecDepth 20000 in
theorem gX5_shiftIn_X0_isPeak : GoodIn wsX5_shiftIn (wsV RX5 70 RX0 yX0_isPeak wsX0_isPeak) := goodIn_app (goodIn_of _ (by decide +kernel)) ggX5_shiftIn_X0_isPeak
set_option maxRecDepth 20000 in
theorem ggX5_shiftIn_X0_isAheadOfPeak : GoodIn wsX5_shiftIn wsX0_isAheadOfPeak := goodIn_r _ [13, 8, 31, 32, 33, 34, 35, 36] (by decide +kernel) (by decide +kernel)
set_option maxRecDepth 20000 in
theorem gX5_shiftIn_X0_isAheadOfPeak : GoodIn wsX5_shiftIn (wsV RX5 76 RX0 yX0_isAheadOfPeak wsX0_isAheadOfPeak) := goodIn_app (goodIn_of _ (by decide +kernel)) ggX5_shiftIn_X0_isAheadOfPeak
theorem dX5_shiftIn_0 : decode cX5_shiftIn 0 = .ok (.aload_n 1, 1) := by decide +kernel
theorem dX5_shiftIn_1 : decode cX5_shiftIn 1 = .ok (.iload_n 2, 1) := by decide +kernel
theorem dX5_shiftIn_2 : decode cX5_shiftIn 2 = .ok (.invokevirtual 70, 3) := by decide +kernel
theorem dX5_shiftIn_5 : decode cX5_shiftIn 5 = .ok (.ifCond .eq 8, 3) := by decide +kernel
theorem dX5_shiftIn_8 : decode cX5_shiftIn 8 = .ok (.aload_n 0, 1) := by decide +kernel
theorem dX5_shiftIn_9 : decode cX5_shiftIn 9 = .ok (.getfield 29, 3) := by decide +kernel
theorem dX5_shiftIn_12 : decode cX5_shiftIn 12 = .ok (.ireturn, 1) := by decide +kernel
theorem dX5_shiftIn_13 : decode cX5_shiftIn 13 = .ok (.aload_n 1, 1) := by decide +kernel
theorem dX5_shiftIn_14 : decode cX5_shiftIn 14 = .ok (.iload_n 2, 1) := by decide +kernel
theorem dX5_shiftIn_15 : decode cX5_shiftIn 15 = .ok (.aload_n 0, 1) := by decide +kernel
theorem dX5_shiftIn_16 : decode cX5_shiftIn 16 = .ok (.getfield 26, 3) := by decide +kernel
theorem dX5_shiftIn_19 : decode cX5_shiftIn 19 = .ok (.invokevirtual 76, 3) := by decide +kernel
theorem dX5_shiftIn_22 : decode cX5_shiftIn 22 = .ok (.ifCond .eq 11, 3) := by decide +kernel
theorem dX5_shiftIn_25 : decode cX5_shiftIn 25 = .ok (.aload_n 0, 1) := by decide +kernel
theorem dX5_shiftIn_26 : decode cX5_shiftIn 26 = .ok (.getfield 29, 3) := by decide +kernel
theorem dX5_shiftIn_29 : decode cX5_shiftIn 29 = .ok (.ineg, 1) := by decide +kernel
theorem dX5_shiftIn_30 : decode cX5_shiftIn 30 = .ok (.goto 4, 3) := by decide +kernel
theorem dX5_shiftIn_33 : decode cX5_shiftIn 33 = .ok (.iconst 0, 1) := by decide +kernel
theorem dX5_shiftIn_34 : decode cX5_shiftIn 34 = .ok (.ireturn, 1) := by decide +kernel
theorem dX5_excess_0 : decode cX5_excess 0 = .ok (.aload_n 0, 1) := by decide +kernel
theorem dX5_excess_1 : decode cX5_excess 1 = .ok (.getfield 63, 3) := by decide +kernel
theorem dX5_excess_4 : decode cX5_excess 4 = .ok (.aload_n 0, 1) := by decide +kernel
theorem dX5_excess_5 : decode cX5_excess 5 = .ok (.getfield 19, 3) := by decide +kernel
theorem dX5_excess_8 : decode cX5_excess 8 = .ok (.isub, 1) := by decide +kernel
theorem dX5_excess_9 : decode cX5_excess 9 = .ok (.ireturn, 1) := by decide +kernel
theorem dX5_changeTemperature_0 : decode cX5_changeTemperature 0 = .ok (.aload_n 0, 1) := by decide +kernel
theorem dX5_changeTemperature_1 : decode cX5_changeTemperature 1 = .ok (.getfield 63, 3) := by decide +kernel
theorem dX5_changeTemperature_4 : decode cX5_changeTemperature 4 = .ok (.iload_n 1, 1) := by decide +kernel
theorem dX5_changeTemperature_5 : decode cX5_changeTemperature 5 = .ok (.aload_n 0, 1) := by decide +kernel
theorem dX5_changeTemperature_6 : decode cX5_changeTemperature 6 = .ok (.getfield 63, 3) := by decide +kernel
theorem dX5_changeTemperature_9 : decode cX5_changeTemperature 9 = .ok (.isub, 1) := by decide +kernel
theorem dX5_changeTemperature_10 : decode cX5_changeTemperature 10 = .ok (.aload_n 0, 1) := by decide +kernel
theorem dX5_changeTemperature_11 : decode cX5_changeTemperature 11 = .ok (.getfield 54, 3) := by decide +kernel
theorem dX5_changeTemperature_14 : decode cX5_changeTemperature 14 = .ok (.imul, 1) := by decide +kernel
theorem dX5_changeTemperature_15 : decode cX5_changeTemperature 15 = .ok (.bipush 100, 2) := by decide +kernel
theorem dX5_changeTemperature_17 : decode cX5_changeTemperature 17 = .ok (.idiv, 1) := by decide +kernel
theorem dX5_changeTemperature_18 : decode cX5_changeTemperature 18 = .ok (.iadd, 1) := by decide +kernel
theorem dX5_changeTemperature_19 : decode cX5_changeTemperature 19 = .ok (.istore_n 3, 1) := by decide +kernel
theorem dX5_changeTemperature_20 : decode cX5_changeTemperature 20 = .ok (.aload_n 0, 1) := by decide +kernel
theorem dX5_changeTemperature_21 : decode cX5_changeTemperature 21 = .ok (.getfield 39, 3) := by decide +kernel
theorem dX5_changeTemperature_24 : decode cX5_changeTemperature 24 = .ok (.ifCond .eq 10, 3) := by decide +kernel
theorem dX5_changeTemperature_27 : decode cX5_changeTemperature 27 = .ok (.iload_n 3, 1) := by decide +kernel
theorem dX5_changeTemperature_28 : decode cX5_changeTemperature 28 = .ok (.aload_n 0, 1) := by decide +kernel
theorem dX5_changeTemperature_29 : decode cX5_changeTemperature 29 = .ok (.getfield 57, 3) := by decide +kernel
theorem dX5_changeTemperature_32 : decode cX5_changeTemperature 32 = .ok (.isub, 1) := by decide +kernel
theorem dX5_changeTemperature_33 : decode cX5_changeTemperature 33 = .ok (.istore_n 3, 1) := by decide +kernel
theorem dX5_changeTemperature_34 : decode cX5_changeTemperature 34 = .ok (.aload_n 0, 1) := by decide +kernel
theorem dX5_changeTemperature_35 : decode cX5_changeTemperature 35 = .ok (.sipush (-400), 3) := by decide +kernel
theorem dX5_changeTemperature_38 : decode cX5_changeTemperature 38 = .ok (.iload_n 3, 1) := by decide +kernel
theorem dX5_changeTemperature_39 : decode cX5_changeTemperature 39 = .ok (.invokestatic 80, 3) := by decide +kernel
theorem dX5_changeTemperature_42 : decode cX5_changeTemperature 42 = .ok (.putfield 63, 3) := by decide +kernel
theorem dX5_changeTemperature_45 : decode cX5_changeTemperature 45 = .ok (.iload_n 2, 1) := by decide +kernel
theorem dX5_changeTemperature_46 : decode cX5_changeTemperature 46 = .ok (.ifCond .lt 22, 3) := by decide +kernel
theorem dX5_changeTemperature_49 : decode cX5_changeTemperature 49 = .ok (.iload_n 2, 1) := by decide +kernel
theorem dX5_changeTemperature_50 : decode cX5_changeTemperature 50 = .ok (.aload_n 0, 1) := by decide +kernel
theorem dX5_changeTemperature_51 : decode cX5_changeTemperature 51 = .ok (.getfield 9, 3) := by decide +kernel
theorem dX5_changeTemperature_54 : decode cX5_changeTemperature 54 = .ok (.arraylength, 1) := by decide +kernel
theorem dX5_changeTemperature_55 : decode cX5_changeTemperature 55 = .ok (.if_icmp .ge 13, 3) := by decide +kernel
theorem dX5_changeTemperature_58 : decode cX5_changeTemperature 58 = .ok (.aload_n 0, 1) := by decide +kernel
theorem dX5_changeTemperature_59 : decode cX5_changeTemperature 59 = .ok (.getfield 9, 3) := by decide +kernel
theorem dX5_changeTemperature_62 : decode cX5_changeTemperature 62 = .ok (.iload_n 2, 1) := by decide +kernel
theorem dX5_changeTemperature_63 : decode cX5_changeTemperature 63 = .ok (.aload_n 0, 1) := by decide +kernel
theorem dX5_changeTemperature_64 : decode cX5_changeTemperature 64 = .ok (.getfield 63, 3) := by decide +kernel
theorem dX5_changeTemperature_67 : decode cX5_changeTemperature 67 = .ok (.iastore, 1) := by decide +kernel
theorem dX5_changeTemperature_68 : decode cX5_changeTemperature 68 = .ok (.aload_n 0, 1) := by decide +kernel
theorem dX5_changeTemperature_69 : decode cX5_changeTemperature 69 = .ok (.dup, 1) := by decide +kernel
theorem dX5_changeTemperature_70 : decode cX5_changeTemperature 70 = .ok (.getfield 42, 3) := by decide +kernel
theorem dX5_changeTemperature_73 : decode cX5_changeTemperature 73 = .ok (.iconst 1, 1) := by decide +kernel
theorem dX5_changeTemperature_74 : decode cX5_changeTemperature 74 = .ok (.iadd, 1) := by decide +kernel
theorem dX5_changeTemperature_75 : decode cX5_changeTemperature 75 = .ok (.putfield 42, 3) := by decide +kernel
theorem dX5_changeTemperature_78 : decode cX5_changeTemperature 78 = .ok (.aload_n 0, 1) := by decide +kernel
theorem dX5_changeTemperature_79 : decode cX5_changeTemperature 79 = .ok (.dup, 1) := by decide +kernel
theorem dX5_changeTemperature_80 : decode cX5_changeTemperature 80 = .ok (.getfield 45, 3) := by decide +kernel
theorem dX5_changeTemperature_83 : decode cX5_changeTemperature 83 = .ok (.aload_n 0, 1) := by decide +kernel
theorem dX5_changeTemperature_84 : decode cX5_changeTemperature 84 = .ok (.getfield 63, 3) := by decide +kernel
theorem dX5_changeTemperature_87 : decode cX5_changeTemperature 87 = .ok (.iadd, 1) := by decide +kernel
theorem dX5_changeTemperature_88 : decode cX5_changeTemperature 88 = .ok (.putfield 45, 3) := by decide +kernel
theorem dX5_changeTemperature_91 : decode cX5_changeTemperature 91 = .ok (.aload_n 0, 1) := by decide +kernel
theorem dX5_changeTemperature_92 : decode cX5_changeTemperature 92 = .ok (.aload_n 0, 1) := by decide +kernel
theorem dX5_changeTemperature_93 : decode cX5_changeTemperature 93 = .ok (.getfield 48, 3) := by decide +kernel
theorem dX5_changeTemperature_96 : decode cX5_changeTemperature 96 = .ok (.aload_n 0, 1) := by decide +kernel
theorem dX5_changeTemperature_97 : decode cX5_changeTemperature 97 = .ok (.getfield 63, 3) := by decide +kernel
theorem dX5_changeTemperature_100 : decode cX5_changeTemperature 100 = .ok (.invokestatic 80, 3) := by decide +kernel
theorem dX5_changeTemperature_103 : decode cX5_changeTemperature 103 = .ok (.putfield 48, 3) := by decide +kernel
theorem dX5_changeTemperature_106 : decode cX5_changeTemperature 106 = .ok (.return_, 1) := by decide +kernel
theorem dX5_recordedAt_0 : decode cX5_recordedAt 0 = .ok (.iload_n 1, 1) := by decide +kernel
theorem dX5_recordedAt_1 : decode cX5_recordedAt 1 = .ok (.ifCond .lt 21, 3) := by decide +kernel
theorem dX5_recordedAt_4 : decode cX5_recordedAt 4 = .ok (.iload_n 1, 1) := by decide +kernel
theorem dX5_recordedAt_5 : decode cX5_recordedAt 5 = .ok (.aload_n 0, 1) := by decide +kernel
theorem dX5_recordedAt_6 : decode cX5_recordedAt 6 = .ok (.getfield 9, 3) := by decide +kernel
theorem dX5_recordedAt_9 : decode cX5_recordedAt 9 = .ok (.arraylength, 1) := by decide +kernel
theorem dX5_recordedAt_10 : decode cX5_recordedAt 10 = .ok (.if_icmp .ge 12, 3) := by decide +kernel
theorem dX5_recordedAt_13 : decode cX5_recordedAt 13 = .ok (.aload_n 0, 1) := by decide +kernel
theorem dX5_recordedAt_14 : decode cX5_recordedAt 14 = .ok (.getfield 9, 3) := by decide +kernel
theorem dX5_recordedAt_17 : decode cX5_recordedAt 17 = .ok (.iload_n 1, 1) := by decide +kernel
theorem dX5_recordedAt_18 : decode cX5_recordedAt 18 = .ok (.iaload, 1) := by decide +kernel
theorem dX5_recordedAt_19 : decode cX5_recordedAt 19 = .ok (.goto 7, 3) := by decide +kernel
theorem dX5_recordedAt_22 : decode cX5_recordedAt 22 = .ok (.aload_n 0, 1) := by decide +kernel
theorem dX5_recordedAt_23 : decode cX5_recordedAt 23 = .ok (.getfield 63, 3) := by decide +kernel
theorem dX5_recordedAt_26 : decode cX5_recordedAt 26 = .ok (.ireturn, 1) := by decide +kernel
theorem dX6_init_0 : decode cX6_init 0 = .ok (.aload_n 0, 1) := by decide +kernel
theorem dX6_init_1 : decode cX6_init 1 = .ok (.invokespecial 1, 3) := by decide +kernel
theorem dX6_init_4 : decode cX6_init 4 = .ok (.aload_n 0, 1) := by decide +kernel
theorem dX6_init_5 : decode cX6_init 5 = .ok (.aload_n 1, 1) := by decide +kernel
theorem dX6_init_6 : decode cX6_init 6 = .ok (.putfield 7, 3) := by decide +kernel
theorem dX6_init_9 : decode cX6_init 9 = .ok (.aload_n 0, 1) := by decide +kernel
theorem dX6_init_10 : decode cX6_init 10 = .ok (.iload_n 2, 1) := by decide +kernel
theorem dX6_init_11 : decode cX6_init 11 = .ok (.putfield 13, 3) := by decide +kernel
theorem dX6_init_14 : decode cX6_init 14 = .ok (.aload_n 0, 1) := by decide +kernel
theorem dX6_init_15 : decode cX6_init 15 = .ok (.aload_n 3, 1) := by decide +kernel
theorem dX6_init_16 : decode cX6_init 16 = .ok (.putfield 17, 3) := by decide +kernel
theorem dX6_init_19 : decode cX6_init 19 = .ok (.return_, 1) := by decide +kernel
set_option maxRecDepth 20000 in
theorem ggX7_init_Jx4a65c_init_da8c8 : GoodIn wsX7_init wsJx4a65c_init_da8c8 := goodIn_r _ [23, 24, 25, 26, 27, 28, 29, 30, 31, 32, 33, 34, 35, 2, 3, 54, 55, 56] (by decide +kernel) (by decide +kernel)
set_option maxRecDepth 20000 in
theorem gX7_init_Jx4a65c_init_da8c8 : GoodIn wsX7_init (wsJx4a65c_init_da8c8) := ggX7_init_Jx4a65c_init_da8c8
set_option maxRecDepth 20000 in
theorem ggX7_init_X0_init : GoodIn wsX7_init wsX0_init := goodIn_r _ [37, 38, 2, 3, 39, 40, 41, 42, 43, 44, 65, 66, 67, 68, 69, 70] (by decide +kernel) (by decide +kernel)
set_option maxRecDepth 20000 in
theorem gX7_init_X0_init_n27 : GoodIn wsX7_init (wsX0_init) := ggX7_init_X0_init
set_option maxRecDepth 20000 in
theorem ggX7_init_X2_init : GoodIn wsX7_init wsX2_init := goodIn_r _ [46, 47, 2, 3, 48, 49, 50, 51, 52, 53, 71, 72, 73, 74, 75] (by decide +kernel) (by decide +kernel)
set_option maxRecDepth 20000 in
theorem gX7_init_X2_init_n34 : GoodIn wsX7_init (wsX2_init) := ggX7_init_X2_init
theorem dX7_init_0 : decode cX7_init 0 = .ok (.aload_n 0, 1) := by decide +kernel
theorem dX7_init_1 : decode cX7_init 1 = .ok (.invokespecial 1, 3) := by decide +kernel
theorem dX7_init_4 : decode cX7_init 4 = .ok (.aload_n 0, 1) := by decide +kernel
theorem dX7_init_5 : decode cX7_init 5 = .ok (.new 7, 3) := by decide +kernel
theorem dX7_init_8 : decode cX7_init 8 = .ok (.dup, 1) := by decide +kernel
theorem dX7_init_9 : decode cX7_init 9 = .ok (.invokespecial 9, 3) := by decide +kernel
theorem dX7_init_12 : decode cX7_init 12 = .ok (.putfield 10, 3) := by decide +kernel
theorem dX7_init_15 : decode cX7_init 15 = .ok (.aload_n 0, 1) := by decide +kernel
theorem dX7_init_16 : decode cX7_init 16 = .ok (.new 7, 3) := by decide +kernel
theorem dX7_init_19 : decode cX7_init 19 = .ok (.dup, 1) := by decide +kernel
theorem dX7_init_20 : decode cX7_init 20 = .ok (.invokespecial 9, 3) := by decide +kernel
theorem dX7_init_23 : decode cX7_init 23 = .ok (.putfield 16, 3) := by decide +kernel
theorem dX7_init_26 : decode cX7_init 26 = .ok (.aload_n 0, 1) := by decide +kernel
theorem dX7_init_27 : decode cX7_init 27 = .ok (.new 7, 3) := by decide +kernel
theorem dX7_init_30 : decode cX7_init 30 = .ok (.dup, 1) := by decide +kernel
theorem dX7_init_31 : decode cX7_init 31 = .ok (.invokespecial 9, 3) := by decide +kernel
theorem dX7_init_34 : decode cX7_init 34 = .ok (.putfield 19, 3) := by decide +kernel
theorem dX7_init_37 : decode cX7_init 37 = .ok (.aload_n 0, 1) := by decide +kernel
theorem dX7_init_38 : decode cX7_init 38 = .ok (.new 7, 3) := by decide +kernel
theorem dX7_init_41 : decode cX7_init 41 = .ok (.dup, 1) := by decide +kernel
theorem dX7_init_42 : decode cX7_init 42 = .ok (.invokespecial 9, 3) := by decide +kernel
theorem dX7_init_45 : decode cX7_init 45 = .ok (.putfield 22, 3) := by decide +kernel
theorem dX7_init_48 : decode cX7_init 48 = .ok (.aload_n 0, 1) := by decide +kernel
theorem dX7_init_49 : decode cX7_init 49 = .ok (.new 25, 3) := by decide +kernel
theorem dX7_init_52 : decode cX7_init 52 = .ok (.dup, 1) := by decide +kernel
theorem dX7_init_53 : decode cX7_init 53 = .ok (.invokespecial 27, 3) := by decide +kernel
theorem dX7_init_56 : decode cX7_init 56 = .ok (.putfield 28, 3) := by decide +kernel
theorem dX7_init_59 : decode cX7_init 59 = .ok (.aload_n 0, 1) := by decide +kernel
theorem dX7_init_60 : decode cX7_init 60 = .ok (.new 32, 3) := by decide +kernel
theorem dX7_init_63 : decode cX7_init 63 = .ok (.dup, 1) := by decide +kernel
theorem dX7_init_64 : decode cX7_init 64 = .ok (.invokespecial 34, 3) := by decide +kernel
theorem dX7_init_67 : decode cX7_init 67 = .ok (.putfield 35, 3) := by decide +kernel
theorem dX7_init_70 : decode cX7_init 70 = .ok (.aload_n 0, 1) := by decide +kernel
theorem dX7_init_71 : decode cX7_init 71 = .ok (.iconst 0, 1) := by decide +kernel
theorem dX7_init_72 : decode cX7_init 72 = .ok (.putfield 39, 3) := by decide +kernel
theorem dX7_init_75 : decode cX7_init 75 = .ok (.aload_n 0, 1) := by decide +kernel
theorem dX7_init_76 : decode cX7_init 76 = .ok (.sipush 250, 3) := by decide +kernel
theorem dX7_init_79 : decode cX7_init 79 = .ok (.putfield 43, 3) := by decide +kernel
theorem dX7_init_82 : decode cX7_init 82 = .ok (.return_, 1) := by decide +kernel
theorem dX7_now_0 : decode cX7_now 0 = .ok (.aload_n 0, 1) := by decide +kernel
theorem dX7_now_1 : decode cX7_now 1 = .ok (.getfield 39, 3) := by decide +kernel
theorem dX7_now_4 : decode cX7_now 4 = .ok (.ireturn, 1) := by decide +kernel
set_option maxRecDepth 20000 in
theorem ggX7_pass_X7_requireRange : GoodIn wsX7_pass wsX7_requireRange := goodIn_ca (goodIn_r _ [7, 8, 9] (by decide +kernel) (by decide +kernel)) (goodIn_sub (fun _ h => List.mem_cons_of_mem _ (List.mem_append_left _ (List.mem_append_right _ h))) (by decide +kernel))
set_option maxRecDepth 20000 in
theorem gX7_pass_X7_requireRange : GoodIn wsX7_pass (va_wsS RX7 46 yX7_requireRange wsX7_requireRange) := goodIn_app (goodIn_of _ (by decide +kernel)) ggX7_pass_X7_requireRange
set_option maxRecDepth 20000 in
theorem ggX7_pass_X7_passOneTick : GoodIn wsX7_pass wsX7_passOneTick := goodIn_ca (goodIn_r _ [13, 3, 14, 15, 16, 17, 18, 19, 20, 21, 22, 23, 24, 25, 26, 27, 28, 29, 30, 31, 32, 33, 34, 35, 36, 37, 38, 39, 40, 41, 42, 43, 44, 45, 46, 47, 48, 49, 50, 51, 52, 53, 54, 55, 56, 57, 58, 59, 60, 61, 62, 63, 64, 65, 66, 67, 68, 69, 70, 71, 72, 73, 6, 74, 75, 76, 77, 78, 79, 80, 81, 82, 83, 84, 85, 86, 87, 88, 89, 90, 91, 92, 93, 94, 95, 96, 97, 98, 99, 100, 101, 102, 103, 104, 105, 106, 107, 108, 109, 110, 111, 112, 113, 114, 115, 116, 117, 118, 119, 120, 121, 122, 123, 124, 125, 126, 127, 128, 129, 130, 131, 132, 133, 134, 135, 136, 137, 138, 139, 140, 141, 142, 143, 144, 145, 146, 147, 148, 149, 150, 151, 152, 153, 154, 155, 156, 157, 158, 159, 160, 161, 162, 163, 164, 165, 166, 167, 168, 169, 170, 171, 172, 173, 174, 175, 176, 177, 178, 179, 180, 181, 182, 183, 184, 185, 186, 187, 188, 189, 190, 191, 192, 193, 194, 195, 196, 197, 198, 199, 200, 201, 202, 203, 204, 205, 206, 207, 208, 209, 210, 211, 212, 213, 214, 215, 216, 217, 218, 219, 220, 221, 222, 223, 224, 225, 226, 227, 228, 229, 230, 231, 232, 233, 234, 235, 236, 237, 238, 239, 240, 241, 242, 243, 244, 245, 246, 247] (by decide +kernel) (by decide +kernel)) (goodIn_sub (fun _ h => List.mem_cons_of_mem _ (List.mem_append_right _ h)) (by decide +kernel))
set_option maxRecDepth 20000 in
theorem gX7_pass_X7_passOneTick : GoodIn wsX7_pass (wsV RX7 57 RX7 yX7_passOneTick wsX7_passOneTick) := goodIn_app (goodIn_of _ (by decide +kernel)) ggX7_pass_X7_passOneTick
theorem dX7_pass_0 : decode cX7_pass 0 = .ok (.iload_n 1, 1) := by decide +kernel
theorem dX7_pass_1 : decode cX7_pass 1 = .ok (.iconst 1, 1) := by decide +kernel
theorem dX7_pass_2 : decode cX7_pass 2 = .ok (.bipush 96, 2) := by decide +kernel
theorem dX7_pass_4 : decode cX7_pass 4 = .ok (.invokestatic 46, 3) := by decide +kernel
theorem dX7_pass_7 : decode cX7_pass 7 = .ok (.iload_n 1, 1) := by decide +kernel
theorem dX7_pass_8 : decode cX7_pass 8 = .ok (.sipush 960, 3) := by decide +kernel
theorem dX7_pass_11 : decode cX7_pass 11 = .ok (.aload_n 0, 1) := by decide +kernel
theorem dX7_pass_12 : decode cX7_pass 12 = .ok (.getfield 39, 3) := by decide +kernel
theorem dX7_pass_15 : decode cX7_pass 15 = .ok (.isub, 1) := by decide +kernel
theorem dX7_pass_16 : decode cX7_pass 16 = .ok (.if_icmp .le 13, 3) := by decide +kernel
theorem dX7_pass_19 : decode cX7_pass 19 = .ok (.new 50, 3) := by decide +kernel
theorem dX7_pass_22 : decode cX7_pass 22 = .ok (.dup, 1) := by decide +kernel
theorem dX7_pass_23 : decode cX7_pass 23 = .ok (.ldc 52, 2) := by decide +kernel
theorem dX7_pass_25 : decode cX7_pass 25 = .ok (.invokespecial 54, 3) := by decide +kernel
theorem dX7_pass_28 : decode cX7_pass 28 = .ok (.athrow, 1) := by decide +kernel
theorem dX7_pass_29 : decode cX7_pass 29 = .ok (.iconst 0, 1) := by decide +kernel
theorem dX7_pass_30 : decode cX7_pass 30 = .ok (.istore_n 2, 1) := by decide +kernel
theorem dX7_pass_31 : decode cX7_pass 31 = .ok (.iconst 0, 1) := by decide +kernel
theorem dX7_pass_32 : decode cX7_pass 32 = .ok (.istore_n 3, 1) := by decide +kernel
theorem dX7_pass_33 : decode cX7_pass 33 = .ok (.iload_n 3, 1) := by decide +kernel
theorem dX7_pass_34 : decode cX7_pass 34 = .ok (.iload_n 1, 1) := by decide +kernel
theorem dX7_pass_35 : decode cX7_pass 35 = .ok (.if_icmp .ge 16, 3) := by decide +kernel
theorem dX7_pass_38 : decode cX7_pass 38 = .ok (.iload_n 2, 1) := by decide +kernel
theorem dX7_pass_39 : decode cX7_pass 39 = .ok (.aload_n 0, 1) := by decide +kernel
theorem dX7_pass_40 : decode cX7_pass 40 = .ok (.invokevirtual 57, 3) := by decide +kernel
theorem dX7_pass_43 : decode cX7_pass 43 = .ok (.iadd, 1) := by decide +kernel
theorem dX7_pass_44 : decode cX7_pass 44 = .ok (.istore_n 2, 1) := by decide +kernel
theorem dX7_pass_45 : decode cX7_pass 45 = .ok (.iinc 3 1, 3) := by decide +kernel
theorem dX7_pass_48 : decode cX7_pass 48 = .ok (.goto (-15), 3) := by decide +kernel
theorem dX7_pass_51 : decode cX7_pass 51 = .ok (.iload_n 2, 1) := by decide +kernel
theorem dX7_pass_52 : decode cX7_pass 52 = .ok (.ireturn, 1) := by decide +kernel
set_option maxRecDepth 20000 in
theorem ggX7_setOutside_X7_requireRange : GoodIn wsX7_setOutside wsX7_requireRange := goodIn_ca (goodIn_r _ [5, 6, 7] (by decide +kernel) (by decide +kernel)) (goodIn_sub (fun _ h => List.mem_cons_of_mem _ (List.mem_append_right _ h)) (by decide +kernel))
set_option maxRecDepth 20000 in
theorem gX7_setOutside_X7_requireRange : GoodIn wsX7_setOutside (va_wsS RX7 46 yX7_requireRange wsX7_requireRange) := goodIn_app (goodIn_of _ (by decide +kernel)) ggX7_setOutside_X7_requireRange
theorem dX7_setOutside_0 : decode cX7_setOutside 0 = .ok (.iload_n 1, 1) := by decide +kernel
theorem dX7_setOutside_1 : decode cX7_setOutside 1 = .ok (.sipush (-300), 3) := by decide +kernel
theorem dX7_setOutside_4 : decode cX7_setOutside 4 = .ok (.sipush 450, 3) := by decide +kernel
theorem dX7_setOutside_7 : decode cX7_setOutside 7 = .ok (.invokestatic 46, 3) := by decide +kernel
theorem dX7_setOutside_10 : decode cX7_setOutside 10 = .ok (.aload_n 0, 1) := by decide +kernel
theorem dX7_setOutside_11 : decode cX7_setOutside 11 = .ok (.getfield 43, 3) := by decide +kernel
theorem dX7_setOutside_14 : decode cX7_setOutside 14 = .ok (.istore_n 2, 1) := by decide +kernel
theorem dX7_setOutside_15 : decode cX7_setOutside 15 = .ok (.aload_n 0, 1) := by decide +kernel
theorem dX7_setOutside_16 : decode cX7_setOutside 16 = .ok (.iload_n 1, 1) := by decide +kernel
theorem dX7_setOutside_17 : decode cX7_setOutside 17 = .ok (.putfield 43, 3) := by decide +kernel
theorem dX7_setOutside_20 : decode cX7_setOutside 20 = .ok (.iload_n 2, 1) := by decide +kernel
theorem dX7_setOutside_21 : decode cX7_setOutside 21 = .ok (.ireturn, 1) := by decide +kernel
set_option maxRecDepth 20000 in
theorem ggX7_addRoom_X7_requireRange : GoodIn wsX7_addRoom wsX7_requireRange := goodIn_ca (goodIn_r _ [11, 12, 13] (by decide +kernel) (by decide +kernel)) (goodIn_sub (fun _ h => List.mem_cons_of_mem _ (List.mem_append_right _ h)) (by decide +kernel))
set_option maxRecDepth 20000 in
theorem gX7_addRoom_X7_requireRange : GoodIn wsX7_addRoom (va_wsS RX7 46 yX7_requireRange wsX7_requireRange) := goodIn_app (goodIn_of _ (by decide +kernel)) ggX7_addRoom_X7_requireRange
set_option maxRecDepth 20000 in
theorem ggX7_addRoom_Jx4a65c_size_8abf5 : GoodIn wsX7_addRoom wsJx4a65c_size_8abf5 := goodIn_r _ [18, 19, 123, 124, 125] (by decide +kernel) (by decide +kernel)
set_option maxRecDepth 20000 in
theorem gX7_addRoom_Jx4a65c_size_8abf5 : GoodIn wsX7_addRoom (wsV RX7 61 RJx4a65c yJx4a65c_size_8abf5 wsJx4a65c_size_8abf5) := goodIn_app (goodIn_of _ (by decide +kernel)) ggX7_addRoom_Jx4a65c_size_8abf5
set_option maxRecDepth 20000 in
theorem ggX7_addRoom_X5_init : GoodIn wsX7_addRoom wsX5_init := goodIn_r _ [22, 23, 24, 25, 26, 27, 28, 29, 30, 31, 32, 33, 34, 35, 36, 37, 38, 39, 40, 41, 42, 43, 106, 107, 108, 109, 110, 111, 112, 113, 114, 115, 116, 117, 118, 119, 120, 121, 122] (by decide +kernel) (by decide +kernel)
set_option maxRecDepth 20000 in
theorem gX7_addRoom_X5_init : GoodIn wsX7_addRoom (wsX5_init) := ggX7_addRoom_X5_init
set_option maxRecDepth 20000 in
theorem ggX7_addRoom_Jx4a65c_add_9ea2d : GoodIn wsX7_addRoom wsJx4a65c_add_9ea2d := goodIn_r _ [47, 48, 49, 50, 19, 51, 52, 53, 17, 54, 55, 56, 57, 58, 59, 60, 61, 62, 63, 64, 65, 66, 67, 68, 69, 70, 71, 72, 73, 74, 75, 76, 77, 78, 79, 80, 81, 82, 83, 84, 85, 86, 87, 88, 89, 90, 91, 92, 93, 94, 95, 96, 97, 123, 124, 125] (by decide +kernel) (by decide +kernel)
set_option maxRecDepth 20000 in
theorem gX7_addRoom_Jx4a65c_add_9ea2d : GoodIn wsX7_addRoom (wsV RX7 71 RJx4a65c yJx4a65c_add_9ea2d wsJx4a65c_add_9ea2d) := goodIn_app (goodIn_of _ (by decide +kernel)) ggX7_addRoom_Jx4a65c_add_9ea2d
theorem dX7_addRoom_0 : decode cX7_addRoom 0 = .ok (.iload_n 1, 1) := by decide +kernel
theorem dX7_addRoom_1 : decode cX7_addRoom 1 = .ok (.iconst 1, 1) := by decide +kernel
theorem dX7_addRoom_2 : decode cX7_addRoom 2 = .ok (.bipush 50, 2) := by decide +kernel
theorem dX7_addRoom_4 : decode cX7_addRoom 4 = .ok (.invokestatic 46, 3) := by decide +kernel
theorem dX7_addRoom_7 : decode cX7_addRoom 7 = .ok (.iload_n 2, 1) := by decide +kernel
theorem dX7_addRoom_8 : decode cX7_addRoom 8 = .ok (.iconst 1, 1) := by decide +kernel
theorem dX7_addRoom_9 : decode cX7_addRoom 9 = .ok (.bipush 100, 2) := by decide +kernel
theorem dX7_addRoom_11 : decode cX7_addRoom 11 = .ok (.invokestatic 46, 3) := by decide +kernel
theorem dX7_addRoom_14 : decode cX7_addRoom 14 = .ok (.iload_n 3, 1) := by decide +kernel
theorem dX7_addRoom_15 : decode cX7_addRoom 15 = .ok (.iconst 1, 1) := by decide +kernel
theorem dX7_addRoom_16 : decode cX7_addRoom 16 = .ok (.bipush 100, 2) := by decide +kernel
theorem dX7_addRoom_18 : decode cX7_addRoom 18 = .ok (.invokestatic 46, 3) := by decide +kernel
theorem dX7_addRoom_21 : decode cX7_addRoom 21 = .ok (.aload_n 0, 1) := by decide +kernel
theorem dX7_addRoom_22 : decode cX7_addRoom 22 = .ok (.getfield 10, 3) := by decide +kernel
theorem dX7_addRoom_25 : decode cX7_addRoom 25 = .ok (.invokevirtual 61, 3) := by decide +kernel
theorem dX7_addRoom_28 : decode cX7_addRoom 28 = .ok (.iconst 4, 1) := by decide +kernel
theorem dX7_addRoom_29 : decode cX7_addRoom 29 = .ok (.if_icmp .lt 13, 3) := by decide +kernel
theorem dX7_addRoom_32 : decode cX7_addRoom 32 = .ok (.new 50, 3) := by decide +kernel
theorem dX7_addRoom_35 : decode cX7_addRoom 35 = .ok (.dup, 1) := by decide +kernel
theorem dX7_addRoom_36 : decode cX7_addRoom 36 = .ok (.ldc 64, 2) := by decide +kernel
theorem dX7_addRoom_38 : decode cX7_addRoom 38 = .ok (.invokespecial 54, 3) := by decide +kernel
theorem dX7_addRoom_41 : decode cX7_addRoom 41 = .ok (.athrow, 1) := by decide +kernel
theorem dX7_addRoom_42 : decode cX7_addRoom 42 = .ok (.aload_n 0, 1) := by decide +kernel
theorem dX7_addRoom_43 : decode cX7_addRoom 43 = .ok (.getfield 10, 3) := by decide +kernel
theorem dX7_addRoom_46 : decode cX7_addRoom 46 = .ok (.invokevirtual 61, 3) := by decide +kernel
theorem dX7_addRoom_49 : decode cX7_addRoom 49 = .ok (.istore 4, 2) := by decide +kernel
theorem dX7_addRoom_51 : decode cX7_addRoom 51 = .ok (.aload_n 0, 1) := by decide +kernel
theorem dX7_addRoom_52 : decode cX7_addRoom 52 = .ok (.getfield 10, 3) := by decide +kernel
theorem dX7_addRoom_55 : decode cX7_addRoom 55 = .ok (.new 66, 3) := by decide +kernel
theorem dX7_addRoom_58 : decode cX7_addRoom 58 = .ok (.dup, 1) := by decide +kernel
theorem dX7_addRoom_59 : decode cX7_addRoom 59 = .ok (.iload 4, 2) := by decide +kernel
theorem dX7_addRoom_61 : decode cX7_addRoom 61 = .ok (.iload_n 1, 1) := by decide +kernel
theorem dX7_addRoom_62 : decode cX7_addRoom 62 = .ok (.iload_n 2, 1) := by decide +kernel
theorem dX7_addRoom_63 : decode cX7_addRoom 63 = .ok (.iload_n 3, 1) := by decide +kernel
theorem dX7_addRoom_64 : decode cX7_addRoom 64 = .ok (.aload_n 0, 1) := by decide +kernel
theorem dX7_addRoom_65 : decode cX7_addRoom 65 = .ok (.getfield 43, 3) := by decide +kernel
theorem dX7_addRoom_68 : decode cX7_addRoom 68 = .ok (.invokespecial 68, 3) := by decide +kernel
theorem dX7_addRoom_71 : decode cX7_addRoom 71 = .ok (.invokevirtual 71, 3) := by decide +kernel
theorem dX7_addRoom_74 : decode cX7_addRoom 74 = .ok (.pop, 1) := by decide +kernel
theorem dX7_addRoom_75 : decode cX7_addRoom 75 = .ok (.iload 4, 2) := by decide +kernel
theorem dX7_addRoom_77 : decode cX7_addRoom 77 = .ok (.ireturn, 1) := by decide +kernel
set_option maxRecDepth 20000 in
theorem ggX7_setLimits_X7_findRoom : GoodIn wsX7_setLimits wsX7_findRoom := goodIn_ca (goodIn_r _ [7, 8, 9, 10, 11, 12, 13, 14, 15, 16, 17, 18, 19, 20, 21, 22, 23, 24, 25, 26, 27, 28, 29, 30, 31, 32, 33, 34, 57, 58, 59, 60, 61, 62, 63, 64, 65, 66, 67] (by decide +kernel) (by decide +kernel)) (goodIn_sub (fun _ h => List.mem_cons_of_mem _ (List.mem_append_left _ (List.mem_append_right _ h))) (by decide +kernel))
set_option maxRecDepth 20000 in
theorem gX7_setLimits_X7_findRoom : GoodIn wsX7_setLimits (wsV RX7 75 RX7 yX7_findRoom wsX7_findRoom) := goodIn_app (goodIn_of _ (by decide +kernel)) ggX7_setLimits_X7_findRoom
set_option maxRecDepth 20000 in
theorem ggX7_setLimits_X7_requireRange : GoodIn wsX7_setLimits wsX7_requireRange := goodIn_ca (goodIn_r _ [37, 38, 39] (by decide +kernel) (by decide +kernel)) (goodIn_sub (fun _ h => List.mem_cons_of_mem _ (List.mem_append_right _ h)) (by decide +kernel))
set_option maxRecDepth 20000 in
theorem gX7_setLimits_X7_requireRange : GoodIn wsX7_setLimits (va_wsS RX7 46 yX7_requireRange wsX7_requireRange) := goodIn_app (goodIn_of _ (by decide +kernel)) ggX7_setLimits_X7_requireRange
theorem dX7_setLimits_0 : decode cX7_setLimits 0 = .ok (.aload_n 0, 1) := by decide +kernel
theorem dX7_setLimits_1 : decode cX7_setLimits 1 = .ok (.iload_n 1, 1) := by decide +kernel
theorem dX7_setLimits_2 : decode cX7_setLimits 2 = .ok (.invokevirtual 75, 3) := by decide +kernel
theorem dX7_setLimits_5 : decode cX7_setLimits 5 = .ok (.astore 4, 2) := by decide +kernel
theorem dX7_setLimits_7 : decode cX7_setLimits 7 = .ok (.iload_n 2, 1) := by decide +kernel
theorem dX7_setLimits_8 : decode cX7_setLimits 8 = .ok (.sipush (-300), 3) := by decide +kernel
theorem dX7_setLimits_11 : decode cX7_setLimits 11 = .ok (.sipush 300, 3) := by decide +kernel
theorem dX7_setLimits_14 : decode cX7_setLimits 14 = .ok (.invokestatic 46, 3) := by decide +kernel
theorem dX7_setLimits_17 : decode cX7_setLimits 17 = .ok (.iload_n 3, 1) := by decide +kernel
theorem dX7_setLimits_18 : decode cX7_setLimits 18 = .ok (.iload_n 2, 1) := by decide +kernel
theorem dX7_setLimits_19 : decode cX7_setLimits 19 = .ok (.sipush 300, 3) := by decide +kernel
theorem dX7_setLimits_22 : decode cX7_setLimits 22 = .ok (.invokestatic 46, 3) := by decide +kernel
theorem dX7_setLimits_25 : decode cX7_setLimits 25 = .ok (.aload 4, 2) := by decide +kernel
theorem dX7_setLimits_27 : decode cX7_setLimits 27 = .ok (.getfield 79, 3) := by decide +kernel
theorem dX7_setLimits_30 : decode cX7_setLimits 30 = .ok (.istore 5, 2) := by decide +kernel
theorem dX7_setLimits_32 : decode cX7_setLimits 32 = .ok (.aload 4, 2) := by decide +kernel
theorem dX7_setLimits_34 : decode cX7_setLimits 34 = .ok (.iload_n 2, 1) := by decide +kernel
theorem dX7_setLimits_35 : decode cX7_setLimits 35 = .ok (.putfield 79, 3) := by decide +kernel
theorem dX7_setLimits_38 : decode cX7_setLimits 38 = .ok (.aload 4, 2) := by decide +kernel
theorem dX7_setLimits_40 : decode cX7_setLimits 40 = .ok (.iload_n 3, 1) := by decide +kernel
theorem dX7_setLimits_41 : decode cX7_setLimits 41 = .ok (.putfield 82, 3) := by decide +kernel
theorem dX7_setLimits_44 : decode cX7_setLimits 44 = .ok (.iload 5, 2) := by decide +kernel
theorem dX7_setLimits_46 : decode cX7_setLimits 46 = .ok (.ireturn, 1) := by decide +kernel
set_option maxRecDepth 20000 in
theorem ggX7_setMode_X7_findRoom : GoodIn wsX7_setMode wsX7_findRoom := goodIn_ca (goodIn_r _ [8, 9, 10, 11, 12, 13, 14, 15, 16, 17, 18, 19, 20, 21, 22, 23, 24, 25, 26, 27, 28, 29, 30, 31, 32, 33, 34, 35, 53, 54, 55, 56, 57, 58, 59, 60, 61, 62, 63] (by decide +kernel) (by decide +kernel)) (goodIn_sub (fun _ h => List.mem_cons_of_mem _ (List.mem_append_right _ h)) (by decide +kernel))
set_option maxRecDepth 20000 in
theorem gX7_setMode_X7_findRoom : GoodIn wsX7_setMode (wsV RX7 75 RX7 yX7_findRoom wsX7_findRoom) := goodIn_app (goodIn_of _ (by decide +kernel)) ggX7_setMode_X7_findRoom
theorem dX7_setMode_0 : decode cX7_setMode 0 = .ok (.aload_n 0, 1) := by decide +kernel
theorem dX7_setMode_1 : decode cX7_setMode 1 = .ok (.iload_n 1, 1) := by decide +kernel
theorem dX7_setMode_2 : decode cX7_setMode 2 = .ok (.invokevirtual 75, 3) := by decide +kernel
theorem dX7_setMode_5 : decode cX7_setMode 5 = .ok (.astore_n 3, 1) := by decide +kernel
theorem dX7_setMode_6 : decode cX7_setMode 6 = .ok (.iload_n 2, 1) := by decide +kernel
theorem dX7_setMode_7 : decode cX7_setMode 7 = .ok (.bipush 97, 2) := by decide +kernel
theorem dX7_setMode_9 : decode cX7_setMode 9 = .ok (.if_icmp .eq 25, 3) := by decide +kernel
theorem dX7_setMode_12 : decode cX7_setMode 12 = .ok (.iload_n 2, 1) := by decide +kernel
theorem dX7_setMode_13 : decode cX7_setMode 13 = .ok (.bipush 111, 2) := by decide +kernel
theorem dX7_setMode_15 : decode cX7_setMode 15 = .ok (.if_icmp .eq 19, 3) := by decide +kernel
theorem dX7_setMode_18 : decode cX7_setMode 18 = .ok (.iload_n 2, 1) := by decide +kernel
theorem dX7_setMode_19 : decode cX7_setMode 19 = .ok (.bipush 110, 2) := by decide +kernel
theorem dX7_setMode_21 : decode cX7_setMode 21 = .ok (.if_icmp .eq 13, 3) := by decide +kernel
theorem dX7_setMode_24 : decode cX7_setMode 24 = .ok (.new 85, 3) := by decide +kernel
theorem dX7_setMode_27 : decode cX7_setMode 27 = .ok (.dup, 1) := by decide +kernel
theorem dX7_setMode_28 : decode cX7_setMode 28 = .ok (.ldc 87, 2) := by decide +kernel
theorem dX7_setMode_30 : decode cX7_setMode 30 = .ok (.invokespecial 89, 3) := by decide +kernel
theorem dX7_setMode_33 : decode cX7_setMode 33 = .ok (.athrow, 1) := by decide +kernel
theorem dX7_setMode_34 : decode cX7_setMode 34 = .ok (.aload_n 3, 1) := by decide +kernel
theorem dX7_setMode_35 : decode cX7_setMode 35 = .ok (.getfield 90, 3) := by decide +kernel
theorem dX7_setMode_38 : decode cX7_setMode 38 = .ok (.istore 4, 2) := by decide +kernel
theorem dX7_setMode_40 : decode cX7_setMode 40 = .ok (.aload_n 3, 1) := by decide +kernel
theorem dX7_setMode_41 : decode cX7_setMode 41 = .ok (.iload_n 2, 1) := by decide +kernel
theorem dX7_setMode_42 : decode cX7_setMode 42 = .ok (.putfield 90, 3) := by decide +kernel
theorem dX7_setMode_45 : decode cX7_setMode 45 = .ok (.iload 4, 2) := by decide +kernel
theorem dX7_setMode_47 : decode cX7_setMode 47 = .ok (.ireturn, 1) := by decide +kernel
set_option maxRecDepth 20000 in
theorem ggX7_setLead_X7_findRoom : GoodIn wsX7_setLead wsX7_findRoom := goodIn_ca (goodIn_r _ [7, 8, 9, 10, 11, 12, 13, 14, 15, 16, 17, 18, 19, 20, 21, 22, 23, 24, 25, 26, 27, 28, 29, 30, 31, 32, 33, 34, 57, 58, 59, 60, 61, 62, 63, 64, 65, 66, 67] (by decide +kernel) (by decide +kernel)) (goodIn_sub (fun _ h => List.mem_cons_of_mem _ (List.mem_append_left _ (List.mem_append_right _ h))) (by decide +kernel))
set_option maxRecDepth 20000 in
theorem gX7_setLead_X7_findRoom : GoodIn wsX7_setLead (wsV RX7 75 RX7 yX7_findRoom wsX7_findRoom) := goodIn_app (goodIn_of _ (by decide +kernel)) ggX7_setLead_X7_findRoom
set_option maxRecDepth 20000 in
theorem ggX7_setLead_X7_requireRange : GoodIn wsX7_setLead wsX7_requireRange := goodIn_ca (goodIn_r _ [37, 38, 39] (by decide +kernel) (by decide +kernel)) (goodIn_sub (fun _ h => List.mem_cons_of_mem _ (List.mem_append_right _ h)) (by decide +kernel))
set_option maxRecDepth 20000 in
theorem gX7_setLead_X7_requireRange : GoodIn wsX7_setLead (va_wsS RX7 46 yX7_requireRange wsX7_requireRange) := goodIn_app (goodIn_of _ (by decide +kernel)) ggX7_setLead_X7_requireRange
theorem dX7_setLead_0 : decode cX7_setLead 0 = .ok (.aload_n 0, 1) := by decide +kernel
theorem dX7_setLead_1 : decode cX7_setLead 1 = .ok (.iload_n 1, 1) := by decide +kernel
theorem dX7_setLead_2 : decode cX7_setLead 2 = .ok (.invokevirtual 75, 3) := by decide +kernel
theorem dX7_setLead_5 : decode cX7_setLead 5 = .ok (.astore 4, 2) := by decide +kernel
theorem dX7_setLead_7 : decode cX7_setLead 7 = .ok (.iload_n 2, 1) := by decide +kernel
theorem dX7_setLead_8 : decode cX7_setLead 8 = .ok (.iconst 0, 1) := by decide +kernel
theorem dX7_setLead_9 : decode cX7_setLead 9 = .ok (.bipush 16, 2) := by decide +kernel
theorem dX7_setLead_11 : decode cX7_setLead 11 = .ok (.invokestatic 46, 3) := by decide +kernel
theorem dX7_setLead_14 : decode cX7_setLead 14 = .ok (.iload_n 3, 1) := by decide +kernel
theorem dX7_setLead_15 : decode cX7_setLead 15 = .ok (.iconst 0, 1) := by decide +kernel
theorem dX7_setLead_16 : decode cX7_setLead 16 = .ok (.bipush 100, 2) := by decide +kernel
theorem dX7_setLead_18 : decode cX7_setLead 18 = .ok (.invokestatic 46, 3) := by decide +kernel
theorem dX7_setLead_21 : decode cX7_setLead 21 = .ok (.aload 4, 2) := by decide +kernel
theorem dX7_setLead_23 : decode cX7_setLead 23 = .ok (.getfield 94, 3) := by decide +kernel
theorem dX7_setLead_26 : decode cX7_setLead 26 = .ok (.istore 5, 2) := by decide +kernel
theorem dX7_setLead_28 : decode cX7_setLead 28 = .ok (.aload 4, 2) := by decide +kernel
theorem dX7_setLead_30 : decode cX7_setLead 30 = .ok (.iload_n 2, 1) := by decide +kernel
theorem dX7_setLead_31 : decode cX7_setLead 31 = .ok (.putfield 94, 3) := by decide +kernel
theorem dX7_setLead_34 : decode cX7_setLead 34 = .ok (.aload 4, 2) := by decide +kernel
theorem dX7_setLead_36 : decode cX7_setLead 36 = .ok (.iload_n 3, 1) := by decide +kernel
theorem dX7_setLead_37 : decode cX7_setLead 37 = .ok (.putfield 97, 3) := by decide +kernel
theorem dX7_setLead_40 : decode cX7_setLead 40 = .ok (.iload 5, 2) := by decide +kernel
theorem dX7_setLead_42 : decode cX7_setLead 42 = .ok (.ireturn, 1) := by decide +kernel
set_option maxRecDepth 20000 in
theorem ggX7_temperature_X7_findRoom : GoodIn wsX7_temperature wsX7_findRoom := goodIn_ca (goodIn_r _ [6, 7, 8, 9, 10, 11, 12, 13, 14, 15, 16, 17, 18, 19, 20, 21, 22, 23, 24, 25, 26, 27, 28, 29, 30, 31, 32, 33, 51, 52, 53, 54, 55, 56, 57, 58, 59, 60, 61] (by decide +kernel) (by decide +kernel)) (goodIn_sub (fun _ h => List.mem_cons_of_mem _ (List.mem_append_right _ h)) (by decide +kernel))
set_option maxRecDepth 20000 in
theorem gX7_temperature_X7_findRoom : GoodIn wsX7_temperature (wsV RX7 75 RX7 yX7_findRoom wsX7_findRoom) := goodIn_app (goodIn_of _ (by decide +kernel)) ggX7_temperature_X7_findRoom
theorem dX7_temperature_0 : decode cX7_temperature 0 = .ok (.aload_n 0, 1) := by decide +kernel
theorem dX7_temperature_1 : decode cX7_temperature 1 = .ok (.iload_n 1, 1) := by decide +kernel
theorem dX7_temperature_2 : decode cX7_temperature 2 = .ok (.invokevirtual 75, 3) := by decide +kernel
theorem dX7_temperature_5 : decode cX7_temperature 5 = .ok (.getfield 100, 3) := by decide +kernel
theorem dX7_temperature_8 : decode cX7_temperature 8 = .ok (.ireturn, 1) := by decide +kernel
set_option maxRecDepth 20000 in
theorem ggX7_isCooled_X7_findRoom : GoodIn wsX7_isCooled wsX7_findRoom := goodIn_ca (goodIn_r _ [6, 7, 8, 9, 10, 11, 12, 13, 14, 15, 16, 17, 18, 19, 20, 21, 22, 23, 24, 25, 26, 27, 28, 29, 30, 31, 32, 33, 51, 52, 53, 54, 55, 56, 57, 58, 59, 60, 61] (by decide +kernel) (by decide +kernel)) (goodIn_sub (fun _ h => List.mem_cons_of_mem _ (List.mem_append_right _ h)) (by decide +kernel))
set_option maxRecDepth 20000 in
theorem gX7_isCooled_X7_findRoom : GoodIn wsX7_isCooled (wsV RX7 75 RX7 yX7_findRoom wsX7_findRoom) := goodIn_app (goodIn_of _ (by decide +kernel)) ggX7_isCooled_X7_findRoom
theorem dX7_isCooled_0 : decode cX7_isCooled 0 = .ok (.aload_n 0, 1) := by decide +kernel
theorem dX7_isCooled_1 : decode cX7_isCooled 1 = .ok (.iload_n 1, 1) := by decide +kernel
theorem dX7_isCooled_2 : decode cX7_isCooled 2 = .ok (.invokevirtual 75, 3) := by decide +kernel
theorem dX7_isCooled_5 : decode cX7_isCooled 5 = .ok (.getfield 103, 3) := by decide +kernel
theorem dX7_isCooled_8 : decode cX7_isCooled 8 = .ok (.ireturn, 1) := by decide +kernel
set_option maxRecDepth 20000 in
theorem ggX7_warmest_X7_findRoom : GoodIn wsX7_warmest wsX7_findRoom := goodIn_ca (goodIn_r _ [9, 10, 11, 12, 13, 14, 15, 16, 17, 18, 19, 20, 21, 22, 23, 24, 25, 26, 27, 28, 29, 30, 31, 32, 33, 34, 35, 36, 54, 55, 56, 57, 58, 59, 60, 61, 62, 63, 64] (by decide +kernel) (by decide +kernel)) (goodIn_sub (fun _ h => List.mem_cons_of_mem _ (List.mem_append_right _ h)) (by decide +kernel))
set_option maxRecDepth 20000 in
theorem gX7_warmest_X7_findRoom : GoodIn wsX7_warmest (wsV RX7 75 RX7 yX7_findRoom wsX7_findRoom) := goodIn_app (goodIn_of _ (by decide +kernel)) ggX7_warmest_X7_findRoom
theorem dX7_warmest_0 : decode cX7_warmest 0 = .ok (.aload_n 0, 1) := by decide +kernel
theorem dX7_warmest_1 : decode cX7_warmest 1 = .ok (.iload_n 1, 1) := by decide +kernel
theorem dX7_warmest_2 : decode cX7_warmest 2 = .ok (.invokevirtual 75, 3) := by decide +kernel
theorem dX7_warmest_5 : decode cX7_warmest 5 = .ok (.astore_n 2, 1) := by decide +kernel
theorem dX7_warmest_6 : decode cX7_warmest 6 = .ok (.aload_n 2, 1) := by decide +kernel
theorem dX7_warmest_7 : decode cX7_warmest 7 = .ok (.getfield 107, 3) := by decide +kernel
theorem dX7_warmest_10 : decode cX7_warmest 10 = .ok (.ifCond .ne 13, 3) := by decide +kernel
theorem dX7_warmest_13 : decode cX7_warmest 13 = .ok (.new 110, 3) := by decide +kernel
theorem dX7_warmest_16 : decode cX7_warmest 16 = .ok (.dup, 1) := by decide +kernel
theorem dX7_warmest_17 : decode cX7_warmest 17 = .ok (.ldc 112, 2) := by decide +kernel
theorem dX7_warmest_19 : decode cX7_warmest 19 = .ok (.invokespecial 114, 3) := by decide +kernel
theorem dX7_warmest_22 : decode cX7_warmest 22 = .ok (.athrow, 1) := by decide +kernel
theorem dX7_warmest_23 : decode cX7_warmest 23 = .ok (.aload_n 2, 1) := by decide +kernel
theorem dX7_warmest_24 : decode cX7_warmest 24 = .ok (.getfield 115, 3) := by decide +kernel
theorem dX7_warmest_27 : decode cX7_warmest 27 = .ok (.ireturn, 1) := by decide +kernel
set_option maxRecDepth 20000 in
theorem ggX7_meanTemperature_X7_findRoom : GoodIn wsX7_meanTemperature wsX7_findRoom := goodIn_ca (goodIn_r _ [9, 10, 11, 12, 13, 14, 15, 16, 17, 18, 19, 20, 21, 22, 23, 24, 25, 26, 27, 28, 29, 30, 31, 32, 33, 34, 35, 36, 54, 55, 56, 57, 58, 59, 60, 61, 62, 63, 64] (by decide +kernel) (by decide +kernel)) (goodIn_sub (fun _ h => List.mem_cons_of_mem _ (List.mem_append_right _ h)) (by decide +kernel))
set_option maxRecDepth 20000 in
theorem gX7_meanTemperature_X7_findRoom : GoodIn wsX7_meanTemperature (wsV RX7 75 RX7 yX7_findRoom wsX7_findRoom) := goodIn_app (goodIn_of _ (by decide +kernel)) ggX7_meanTemperature_X7_findRoom
theorem dX7_meanTemperature_0 : decode cX7_meanTemperature 0 = .ok (.aload_n 0, 1) := by decide +kernel
theorem dX7_meanTemperature_1 : decode cX7_meanTemperature 1 = .ok (.iload_n 1, 1) := by decide +kernel
theorem dX7_meanTemperature_2 : decode cX7_meanTemperature 2 = .ok (.invokevirtual 75, 3) := by decide +kernel
theorem dX7_meanTemperature_5 : decode cX7_meanTemperature 5 = .ok (.astore_n 2, 1) := by decide +kernel
theorem dX7_meanTemperature_6 : decode cX7_meanTemperature 6 = .ok (.aload_n 2, 1) := by decide +kernel
theorem dX7_meanTemperature_7 : decode cX7_meanTemperature 7 = .ok (.getfield 107, 3) := by decide +kernel
theorem dX7_meanTemperature_10 : decode cX7_meanTemperature 10 = .ok (.ifCond .ne 13, 3) := by decide +kernel
theorem dX7_meanTemperature_13 : decode cX7_meanTemperature 13 = .ok (.new 118, 3) := by decide +kernel
theorem dX7_meanTemperature_16 : decode cX7_meanTemperature 16 = .ok (.dup, 1) := by decide +kernel
theorem dX7_meanTemperature_17 : decode cX7_meanTemperature 17 = .ok (.ldc 112, 2) := by decide +kernel
theorem dX7_meanTemperature_19 : decode cX7_meanTemperature 19 = .ok (.invokespecial 120, 3) := by decide +kernel
theorem dX7_meanTemperature_22 : decode cX7_meanTemperature 22 = .ok (.athrow, 1) := by decide +kernel
theorem dX7_meanTemperature_23 : decode cX7_meanTemperature 23 = .ok (.aload_n 2, 1) := by decide +kernel
theorem dX7_meanTemperature_24 : decode cX7_meanTemperature 24 = .ok (.getfield 121, 3) := by decide +kernel
theorem dX7_meanTemperature_27 : decode cX7_meanTemperature 27 = .ok (.i2d, 1) := by decide +kernel
theorem dX7_meanTemperature_28 : decode cX7_meanTemperature 28 = .ok (.aload_n 2, 1) := by decide +kernel
theorem dX7_meanTemperature_29 : decode cX7_meanTemperature 29 = .ok (.getfield 107, 3) := by decide +kernel
theorem dX7_meanTemperature_32 : decode cX7_meanTemperature 32 = .ok (.i2d, 1) := by decide +kernel
theorem dX7_meanTemperature_33 : decode cX7_meanTemperature 33 = .ok (.ddiv, 1) := by decide +kernel
theorem dX7_meanTemperature_34 : decode cX7_meanTemperature 34 = .ok (.dreturn, 1) := by decide +kernel
set_option maxRecDepth 20000 in
theorem ggX7_freeSpace_X7_findRoom : GoodIn wsX7_freeSpace wsX7_findRoom := goodIn_ca (goodIn_r _ [5, 6, 7, 8, 9, 10, 11, 12, 13, 14, 15, 16, 17, 18, 19, 20, 21, 22, 23, 24, 25, 26, 27, 28, 29, 30, 31, 32, 47, 48, 49, 50, 51, 52, 53, 54, 55, 56, 57] (by decide +kernel) (by decide +kernel)) (goodIn_sub (fun _ h => List.mem_cons_of_mem _ (List.mem_append_right _ h)) (by decide +kernel))
set_option maxRecDepth 20000 in
theorem gX7_freeSpace_X7_findRoom : GoodIn wsX7_freeSpace (wsV RX7 75 RX7 yX7_findRoom wsX7_findRoom) := goodIn_app (goodIn_of _ (by decide +kernel)) ggX7_freeSpace_X7_findRoom
set_option maxRecDepth 20000 in
theorem ggX7_freeSpace_X7_spaceIn : GoodIn wsX7_freeSpace wsX7_spaceIn := goodIn_r _ [36, 37, 38, 39, 40, 10, 11, 12, 13, 14, 15, 16, 17, 18, 19, 20, 21, 22, 23, 24, 25, 26, 27, 28, 29, 30, 31, 32, 41, 42, 43, 44, 45, 46, 47, 48, 49, 50, 51, 52, 53, 54, 58, 59, 60, 61, 62, 63, 64, 65, 66, 55, 56, 57] (by decide +kernel) (by decide +kernel)
set_option maxRecDepth 20000 in
theorem gX7_freeSpace_X7_spaceIn : GoodIn wsX7_freeSpace (wsV RX7 124 RX7 yX7_spaceIn wsX7_spaceIn) := goodIn_app (goodIn_of _ (by decide +kernel)) ggX7_freeSpace_X7_spaceIn
theorem dX7_freeSpace_0 : decode cX7_freeSpace 0 = .ok (.aload_n 0, 1) := by decide +kernel
theorem dX7_freeSpace_1 : decode cX7_freeSpace 1 = .ok (.aload_n 0, 1) := by decide +kernel
theorem dX7_freeSpace_2 : decode cX7_freeSpace 2 = .ok (.iload_n 1, 1) := by decide +kernel
theorem dX7_freeSpace_3 : decode cX7_freeSpace 3 = .ok (.invokevirtual 75, 3) := by decide +kernel
theorem dX7_freeSpace_6 : decode cX7_freeSpace 6 = .ok (.invokevirtual 124, 3) := by decide +kernel
theorem dX7_freeSpace_9 : decode cX7_freeSpace 9 = .ok (.ireturn, 1) := by decide +kernel
set_option maxRecDepth 20000 in
theorem ggX7_setPrices_X7_requireRange : GoodIn wsX7_setPrices wsX7_requireRange := goodIn_ca (goodIn_r _ [9, 10, 11] (by decide +kernel) (by decide +kernel)) (goodIn_sub (fun _ h => List.mem_cons_of_mem _ (List.mem_append_right _ h)) (by decide +kernel))
set_option maxRecDepth 20000 in
theorem gX7_setPrices_X7_requireRange : GoodIn wsX7_setPrices (va_wsS RX7 46 yX7_requireRange wsX7_requireRange) := goodIn_app (goodIn_of _ (by decide +kernel)) ggX7_setPrices_X7_requireRange
theorem dX7_setPrices_0 : decode cX7_setPrices 0 = .ok (.iload_n 1, 1) := by decide +kernel
theorem dX7_setPrices_1 : decode cX7_setPrices 1 = .ok (.iconst 0, 1) := by decide +kernel
theorem dX7_setPrices_2 : decode cX7_setPrices 2 = .ok (.sipush 1000, 3) := by decide +kernel
theorem dX7_setPrices_5 : decode cX7_setPrices 5 = .ok (.invokestatic 46, 3) := by decide +kernel
theorem dX7_setPrices_8 : decode cX7_setPrices 8 = .ok (.iload_n 2, 1) := by decide +kernel
theorem dX7_setPrices_9 : decode cX7_setPrices 9 = .ok (.iconst 0, 1) := by decide +kernel
theorem dX7_setPrices_10 : decode cX7_setPrices 10 = .ok (.sipush 1000, 3) := by decide +kernel
theorem dX7_setPrices_13 : decode cX7_setPrices 13 = .ok (.invokestatic 46, 3) := by decide +kernel
theorem dX7_setPrices_16 : decode cX7_setPrices 16 = .ok (.iload_n 3, 1) := by decide +kernel
theorem dX7_setPrices_17 : decode cX7_setPrices 17 = .ok (.iconst 0, 1) := by decide +kernel
theorem dX7_setPrices_18 : decode cX7_setPrices 18 = .ok (.bipush 95, 2) := by decide +kernel
theorem dX7_setPrices_20 : decode cX7_setPrices 20 = .ok (.invokestatic 46, 3) := by decide +kernel
theorem dX7_setPrices_23 : decode cX7_setPrices 23 = .ok (.iload 4, 2) := by decide +kernel
theorem dX7_setPrices_25 : decode cX7_setPrices 25 = .ok (.iload_n 3, 1) := by decide +kernel
theorem dX7_setPrices_26 : decode cX7_setPrices 26 = .ok (.bipush 95, 2) := by decide +kernel
theorem dX7_setPrices_28 : decode cX7_setPrices 28 = .ok (.invokestatic 46, 3) := by decide +kernel
theorem dX7_setPrices_31 : decode cX7_setPrices 31 = .ok (.aload_n 0, 1) := by decide +kernel
theorem dX7_setPrices_32 : decode cX7_setPrices 32 = .ok (.getfield 28, 3) := by decide +kernel
theorem dX7_setPrices_35 : decode cX7_setPrices 35 = .ok (.getfield 128, 3) := by decide +kernel
theorem dX7_setPrices_38 : decode cX7_setPrices 38 = .ok (.istore 5, 2) := by decide +kernel
theorem dX7_setPrices_40 : decode cX7_setPrices 40 = .ok (.aload_n 0, 1) := by decide +kernel
theorem dX7_setPrices_41 : decode cX7_setPrices 41 = .ok (.getfield 28, 3) := by decide +kernel
theorem dX7_setPrices_44 : decode cX7_setPrices 44 = .ok (.iload_n 1, 1) := by decide +kernel
theorem dX7_setPrices_45 : decode cX7_setPrices 45 = .ok (.putfield 128, 3) := by decide +kernel
theorem dX7_setPrices_48 : decode cX7_setPrices 48 = .ok (.aload_n 0, 1) := by decide +kernel
theorem dX7_setPrices_49 : decode cX7_setPrices 49 = .ok (.getfield 28, 3) := by decide +kernel
theorem dX7_setPrices_52 : decode cX7_setPrices 52 = .ok (.iload_n 2, 1) := by decide +kernel
theorem dX7_setPrices_53 : decode cX7_setPrices 53 = .ok (.putfield 131, 3) := by decide +kernel
theorem dX7_setPrices_56 : decode cX7_setPrices 56 = .ok (.aload_n 0, 1) := by decide +kernel
theorem dX7_setPrices_57 : decode cX7_setPrices 57 = .ok (.getfield 28, 3) := by decide +kernel
theorem dX7_setPrices_60 : decode cX7_setPrices 60 = .ok (.iload_n 3, 1) := by decide +kernel
theorem dX7_setPrices_61 : decode cX7_setPrices 61 = .ok (.putfield 134, 3) := by decide +kernel
theorem dX7_setPrices_64 : decode cX7_setPrices 64 = .ok (.aload_n 0, 1) := by decide +kernel
theorem dX7_setPrices_65 : decode cX7_setPrices 65 = .ok (.getfield 28, 3) := by decide +kernel
theorem dX7_setPrices_68 : decode cX7_setPrices 68 = .ok (.iload 4, 2) := by decide +kernel
theorem dX7_setPrices_70 : decode cX7_setPrices 70 = .ok (.putfield 137, 3) := by decide +kernel
theorem dX7_setPrices_73 : decode cX7_setPrices 73 = .ok (.iload 5, 2) := by decide +kernel
theorem dX7_setPrices_75 : decode cX7_setPrices 75 = .ok (.ireturn, 1) := by decide +kernel
set_option maxRecDepth 20000 in
theorem ggX7_setCharge_X7_requireRange : GoodIn wsX7_setCharge wsX7_requireRange := goodIn_ca (goodIn_r _ [6, 7, 8] (by decide +kernel) (by decide +kernel)) (goodIn_sub (fun _ h => List.mem_cons_of_mem _ (List.mem_append_right _ h)) (by decide +kernel))
set_option maxRecDepth 20000 in
theorem gX7_setCharge_X7_requireRange : GoodIn wsX7_setCharge (va_wsS RX7 46 yX7_requireRange wsX7_requireRange) := goodIn_app (goodIn_of _ (by decide +kernel)) ggX7_setCharge_X7_requireRange
theorem dX7_setCharge_0 : decode cX7_setCharge 0 = .ok (.iload_n 1, 1) := by decide +kernel
theorem dX7_setCharge_1 : decode cX7_setCharge 1 = .ok (.iconst 0, 1) := by decide +kernel
theorem dX7_setCharge_2 : decode cX7_setCharge 2 = .ok (.sipush 1000, 3) := by decide +kernel
theorem dX7_setCharge_5 : decode cX7_setCharge 5 = .ok (.invokestatic 46, 3) := by decide +kernel
theorem dX7_setCharge_8 : decode cX7_setCharge 8 = .ok (.aload_n 0, 1) := by decide +kernel
theorem dX7_setCharge_9 : decode cX7_setCharge 9 = .ok (.getfield 28, 3) := by decide +kernel
theorem dX7_setCharge_12 : decode cX7_setCharge 12 = .ok (.getfield 140, 3) := by decide +kernel
theorem dX7_setCharge_15 : decode cX7_setCharge 15 = .ok (.istore_n 2, 1) := by decide +kernel
theorem dX7_setCharge_16 : decode cX7_setCharge 16 = .ok (.aload_n 0, 1) := by decide +kernel
theorem dX7_setCharge_17 : decode cX7_setCharge 17 = .ok (.getfield 28, 3) := by decide +kernel
theorem dX7_setCharge_20 : decode cX7_setCharge 20 = .ok (.iload_n 1, 1) := by decide +kernel
theorem dX7_setCharge_21 : decode cX7_setCharge 21 = .ok (.putfield 140, 3) := by decide +kernel
theorem dX7_setCharge_24 : decode cX7_setCharge 24 = .ok (.iload_n 2, 1) := by decide +kernel
theorem dX7_setCharge_25 : decode cX7_setCharge 25 = .ok (.ireturn, 1) := by decide +kernel
set_option maxRecDepth 20000 in
theorem ggX7_setPowerLimit_X7_requireRange : GoodIn wsX7_setPowerLimit wsX7_requireRange := goodIn_ca (goodIn_r _ [6, 7, 8] (by decide +kernel) (by decide +kernel)) (goodIn_sub (fun _ h => List.mem_cons_of_mem _ (List.mem_append_right _ h)) (by decide +kernel))
set_option maxRecDepth 20000 in
theorem gX7_setPowerLimit_X7_requireRange : GoodIn wsX7_setPowerLimit (va_wsS RX7 46 yX7_requireRange wsX7_requireRange) := goodIn_app (goodIn_of _ (by decide +kernel)) ggX7_setPowerLimit_X7_requireRange
theorem dX7_setPowerLimit_0 : decode cX7_setPowerLimit 0 = .ok (.iload_n 1, 1) := by decide +kernel
theorem dX7_setPowerLimit_1 : decode cX7_setPowerLimit 1 = .ok (.iconst 0, 1) := by decide +kernel
theorem dX7_setPowerLimit_2 : decode cX7_setPowerLimit 2 = .ok (.sipush 400, 3) := by decide +kernel
theorem dX7_setPowerLimit_5 : decode cX7_setPowerLimit 5 = .ok (.invokestatic 46, 3) := by decide +kernel
theorem dX7_setPowerLimit_8 : decode cX7_setPowerLimit 8 = .ok (.aload_n 0, 1) := by decide +kernel
theorem dX7_setPowerLimit_9 : decode cX7_setPowerLimit 9 = .ok (.getfield 28, 3) := by decide +kernel
theorem dX7_setPowerLimit_12 : decode cX7_setPowerLimit 12 = .ok (.getfield 143, 3) := by decide +kernel
theorem dX7_setPowerLimit_15 : decode cX7_setPowerLimit 15 = .ok (.istore_n 2, 1) := by decide +kernel
theorem dX7_setPowerLimit_16 : decode cX7_setPowerLimit 16 = .ok (.aload_n 0, 1) := by decide +kernel
theorem dX7_setPowerLimit_17 : decode cX7_setPowerLimit 17 = .ok (.getfield 28, 3) := by decide +kernel
theorem dX7_setPowerLimit_20 : decode cX7_setPowerLimit 20 = .ok (.iload_n 1, 1) := by decide +kernel
theorem dX7_setPowerLimit_21 : decode cX7_setPowerLimit 21 = .ok (.putfield 143, 3) := by decide +kernel
theorem dX7_setPowerLimit_24 : decode cX7_setPowerLimit 24 = .ok (.iload_n 2, 1) := by decide +kernel
theorem dX7_setPowerLimit_25 : decode cX7_setPowerLimit 25 = .ok (.ireturn, 1) := by decide +kernel
theorem dX7_power_0 : decode cX7_power 0 = .ok (.aload_n 0, 1) := by decide +kernel
theorem dX7_power_1 : decode cX7_power 1 = .ok (.getfield 35, 3) := by decide +kernel
theorem dX7_power_4 : decode cX7_power 4 = .ok (.getfield 146, 3) := by decide +kernel
theorem dX7_power_7 : decode cX7_power 7 = .ok (.ireturn, 1) := by decide +kernel
theorem dX7_greatestPower_0 : decode cX7_greatestPower 0 = .ok (.aload_n 0, 1) := by decide +kernel
theorem dX7_greatestPower_1 : decode cX7_greatestPower 1 = .ok (.getfield 35, 3) := by decide +kernel
theorem dX7_greatestPower_4 : decode cX7_greatestPower 4 = .ok (.getfield 149, 3) := by decide +kernel
theorem dX7_greatestPower_7 : decode cX7_greatestPower 7 = .ok (.ireturn, 1) := by decide +kernel
theorem dX7_bill_0 : decode cX7_bill 0 = .ok (.aload_n 0, 1) := by decide +kernel
theorem dX7_bill_1 : decode cX7_bill 1 = .ok (.getfield 35, 3) := by decide +kernel
theorem dX7_bill_4 : decode cX7_bill 4 = .ok (.getfield 150, 3) := by decide +kernel
theorem dX7_bill_7 : decode cX7_bill 7 = .ok (.aload_n 0, 1) := by decide +kernel
theorem dX7_bill_8 : decode cX7_bill 8 = .ok (.getfield 35, 3) := by decide +kernel
theorem dX7_bill_11 : decode cX7_bill 11 = .ok (.getfield 149, 3) := by decide +kernel
theorem dX7_bill_14 : decode cX7_bill 14 = .ok (.i2l, 1) := by decide +kernel
theorem dX7_bill_15 : decode cX7_bill 15 = .ok (.aload_n 0, 1) := by decide +kernel
theorem dX7_bill_16 : decode cX7_bill 16 = .ok (.getfield 28, 3) := by decide +kernel
theorem dX7_bill_19 : decode cX7_bill 19 = .ok (.getfield 140, 3) := by decide +kernel
theorem dX7_bill_22 : decode cX7_bill 22 = .ok (.i2l, 1) := by decide +kernel
theorem dX7_bill_23 : decode cX7_bill 23 = .ok (.lmul, 1) := by decide +kernel
theorem dX7_bill_24 : decode cX7_bill 24 = .ok (.ladd, 1) := by decide +kernel
theorem dX7_bill_25 : decode cX7_bill 25 = .ok (.lreturn, 1) := by decide +kernel
set_option maxRecDepth 20000 in
theorem ggX7_billByRecords_X2_recordedCosts : GoodIn wsX7_billByRecords wsX2_recordedCosts := goodIn_ca (goodIn_r _ [9, 10, 11, 34, 35, 36, 37, 38] (by decide +kernel) (by decide +kernel)) (goodIn_sub (fun _ h => List.mem_cons_of_mem _ (List.mem_append_right _ h)) (by decide +kernel))
set_option maxRecDepth 20000 in
theorem gX7_billByRecords_X2_recordedCosts : GoodIn wsX7_billByRecords (wsV RX7 154 RX2 yX2_recordedCosts wsX2_recordedCosts) := goodIn_app (goodIn_of _ (by decide +kernel)) ggX7_billByRecords_X2_recordedCosts
set_option maxRecDepth 20000 in
theorem ggX7_billByRecords_X2_recordedGreatest : GoodIn wsX7_billByRecords wsX2_recordedGreatest := goodIn_ca (goodIn_r _ [15, 10, 16, 17, 18, 19, 34, 35, 36, 37, 38] (by decide +kernel) (by decide +kernel)) (goodIn_sub (fun _ h => List.mem_cons_of_mem _ (List.mem_append_right _ h)) (by decide +kernel))
set_option maxRecDepth 20000 in
theorem gX7_billByRecords_X2_recordedGreatest : GoodIn wsX7_billByRecords (wsV RX7 158 RX2 yX2_recordedGreatest wsX2_recordedGreatest) := goodIn_app (goodIn_of _ (by decide +kernel)) ggX7_billByRecords_X2_recordedGreatest
theorem dX7_billByRecords_0 : decode cX7_billByRecords 0 = .ok (.aload_n 0, 1) := by decide +kernel
theorem dX7_billByRecords_1 : decode cX7_billByRecords 1 = .ok (.getfield 35, 3) := by decide +kernel
theorem dX7_billByRecords_4 : decode cX7_billByRecords 4 = .ok (.aload_n 0, 1) := by decide +kernel
theorem dX7_billByRecords_5 : decode cX7_billByRecords 5 = .ok (.getfield 39, 3) := by decide +kernel
theorem dX7_billByRecords_8 : decode cX7_billByRecords 8 = .ok (.invokevirtual 154, 3) := by decide +kernel
theorem dX7_billByRecords_11 : decode cX7_billByRecords 11 = .ok (.aload_n 0, 1) := by decide +kernel
theorem dX7_billByRecords_12 : decode cX7_billByRecords 12 = .ok (.getfield 35, 3) := by decide +kernel
theorem dX7_billByRecords_15 : decode cX7_billByRecords 15 = .ok (.aload_n 0, 1) := by decide +kernel
theorem dX7_billByRecords_16 : decode cX7_billByRecords 16 = .ok (.getfield 39, 3) := by decide +kernel
theorem dX7_billByRecords_19 : decode cX7_billByRecords 19 = .ok (.invokevirtual 158, 3) := by decide +kernel
theorem dX7_billByRecords_22 : decode cX7_billByRecords 22 = .ok (.i2l, 1) := by decide +kernel
theorem dX7_billByRecords_23 : decode cX7_billByRecords 23 = .ok (.aload_n 0, 1) := by decide +kernel
theorem dX7_billByRecords_24 : decode cX7_billByRecords 24 = .ok (.getfield 28, 3) := by decide +kernel
theorem dX7_billByRecords_27 : decode cX7_billByRecords 27 = .ok (.getfield 140, 3) := by decide +kernel
theorem dX7_billByRecords_30 : decode cX7_billByRecords 30 = .ok (.i2l, 1) := by decide +kernel
theorem dX7_billByRecords_31 : decode cX7_billByRecords 31 = .ok (.lmul, 1) := by decide +kernel
theorem dX7_billByRecords_32 : decode cX7_billByRecords 32 = .ok (.ladd, 1) := by decide +kernel
theorem dX7_billByRecords_33 : decode cX7_billByRecords 33 = .ok (.lreturn, 1) := by decide +kernel
set_option maxRecDepth 20000 in
theorem ggX7_addKind_X7_requireRange : GoodIn wsX7_addKind wsX7_requireRange := goodIn_ca (goodIn_r _ [10, 11, 12] (by decide +kernel) (by decide +kernel)) (goodIn_sub (fun _ h => List.mem_cons_of_mem _ (List.mem_append_right _ h)) (by decide +kernel))
set_option maxRecDepth 20000 in
theorem gX7_addKind_X7_requireRange : GoodIn wsX7_addKind (va_wsS RX7 46 yX7_requireRange wsX7_requireRange) := goodIn_app (goodIn_of _ (by decide +kernel)) ggX7_addKind_X7_requireRange
set_option maxRecDepth 20000 in
theorem ggX7_addKind_Jx4a65c_size_8abf5 : GoodIn wsX7_addKind wsJx4a65c_size_8abf5 := goodIn_r _ [17, 18, 93, 94, 95] (by decide +kernel) (by decide +kernel)
set_option maxRecDepth 20000 in
theorem gX7_addKind_Jx4a65c_size_8abf5 : GoodIn wsX7_addKind (wsV RX7 61 RJx4a65c yJx4a65c_size_8abf5 wsJx4a65c_size_8abf5) := goodIn_app (goodIn_of _ (by decide +kernel)) ggX7_addKind_Jx4a65c_size_8abf5
set_option maxRecDepth 20000 in
theorem ggX7_addKind_X1_init : GoodIn wsX7_addKind wsX1_init := goodIn_r _ [21, 22, 23, 24, 25, 26, 27, 90, 91, 92] (by decide +kernel) (by decide +kernel)
set_option maxRecDepth 20000 in
theorem gX7_addKind_X1_init : GoodIn wsX7_addKind (wsX1_init) := ggX7_addKind_X1_init
set_option maxRecDepth 20000 in
theorem ggX7_addKind_Jx4a65c_add_9ea2d : GoodIn wsX7_addKind wsJx4a65c_add_9ea2d := goodIn_r _ [31, 32, 33, 34, 18, 35, 36, 37, 16, 38, 39, 40, 41, 42, 43, 44, 45, 46, 47, 48, 49, 50, 51, 52, 53, 54, 55, 56, 57, 58, 59, 60, 61, 62, 63, 64, 65, 66, 67, 68, 69, 70, 71, 72, 73, 74, 75, 76, 77, 78, 79, 80, 81, 93, 94, 95] (by decide +kernel) (by decide +kernel)
set_option maxRecDepth 20000 in
theorem gX7_addKind_Jx4a65c_add_9ea2d : GoodIn wsX7_addKind (wsV RX7 71 RJx4a65c yJx4a65c_add_9ea2d wsJx4a65c_add_9ea2d) := goodIn_app (goodIn_of _ (by decide +kernel)) ggX7_addKind_Jx4a65c_add_9ea2d
theorem dX7_addKind_0 : decode cX7_addKind 0 = .ok (.iload_n 1, 1) := by decide +kernel
theorem dX7_addKind_1 : decode cX7_addKind 1 = .ok (.iconst 1, 1) := by decide +kernel
theorem dX7_addKind_2 : decode cX7_addKind 2 = .ok (.sipush 9999, 3) := by decide +kernel
theorem dX7_addKind_5 : decode cX7_addKind 5 = .ok (.invokestatic 46, 3) := by decide +kernel
theorem dX7_addKind_8 : decode cX7_addKind 8 = .ok (.iload_n 2, 1) := by decide +kernel
theorem dX7_addKind_9 : decode cX7_addKind 9 = .ok (.sipush (-300), 3) := by decide +kernel
theorem dX7_addKind_12 : decode cX7_addKind 12 = .ok (.sipush 300, 3) := by decide +kernel
theorem dX7_addKind_15 : decode cX7_addKind 15 = .ok (.invokestatic 46, 3) := by decide +kernel
theorem dX7_addKind_18 : decode cX7_addKind 18 = .ok (.iload_n 3, 1) := by decide +kernel
theorem dX7_addKind_19 : decode cX7_addKind 19 = .ok (.sipush (-400), 3) := by decide +kernel
theorem dX7_addKind_22 : decode cX7_addKind 22 = .ok (.iload_n 2, 1) := by decide +kernel
theorem dX7_addKind_23 : decode cX7_addKind 23 = .ok (.iconst 1, 1) := by decide +kernel
theorem dX7_addKind_24 : decode cX7_addKind 24 = .ok (.isub, 1) := by decide +kernel
theorem dX7_addKind_25 : decode cX7_addKind 25 = .ok (.invokestatic 46, 3) := by decide +kernel
theorem dX7_addKind_28 : decode cX7_addKind 28 = .ok (.aload_n 0, 1) := by decide +kernel
theorem dX7_addKind_29 : decode cX7_addKind 29 = .ok (.getfield 16, 3) := by decide +kernel
theorem dX7_addKind_32 : decode cX7_addKind 32 = .ok (.invokevirtual 61, 3) := by decide +kernel
theorem dX7_addKind_35 : decode cX7_addKind 35 = .ok (.iconst 5, 1) := by decide +kernel
theorem dX7_addKind_36 : decode cX7_addKind 36 = .ok (.if_icmp .lt 13, 3) := by decide +kernel
theorem dX7_addKind_39 : decode cX7_addKind 39 = .ok (.new 50, 3) := by decide +kernel
theorem dX7_addKind_42 : decode cX7_addKind 42 = .ok (.dup, 1) := by decide +kernel
theorem dX7_addKind_43 : decode cX7_addKind 43 = .ok (.ldc 162, 2) := by decide +kernel
theorem dX7_addKind_45 : decode cX7_addKind 45 = .ok (.invokespecial 54, 3) := by decide +kernel
theorem dX7_addKind_48 : decode cX7_addKind 48 = .ok (.athrow, 1) := by decide +kernel
theorem dX7_addKind_49 : decode cX7_addKind 49 = .ok (.aload_n 0, 1) := by decide +kernel
theorem dX7_addKind_50 : decode cX7_addKind 50 = .ok (.getfield 16, 3) := by decide +kernel
theorem dX7_addKind_53 : decode cX7_addKind 53 = .ok (.new 164, 3) := by decide +kernel
theorem dX7_addKind_56 : decode cX7_addKind 56 = .ok (.dup, 1) := by decide +kernel
theorem dX7_addKind_57 : decode cX7_addKind 57 = .ok (.iload_n 1, 1) := by decide +kernel
theorem dX7_addKind_58 : decode cX7_addKind 58 = .ok (.iload_n 2, 1) := by decide +kernel
theorem dX7_addKind_59 : decode cX7_addKind 59 = .ok (.iload_n 3, 1) := by decide +kernel
theorem dX7_addKind_60 : decode cX7_addKind 60 = .ok (.invokespecial 166, 3) := by decide +kernel
theorem dX7_addKind_63 : decode cX7_addKind 63 = .ok (.invokevirtual 71, 3) := by decide +kernel
theorem dX7_addKind_66 : decode cX7_addKind 66 = .ok (.pop, 1) := by decide +kernel
theorem dX7_addKind_67 : decode cX7_addKind 67 = .ok (.aload_n 0, 1) := by decide +kernel
theorem dX7_addKind_68 : decode cX7_addKind 68 = .ok (.getfield 16, 3) := by decide +kernel
theorem dX7_addKind_71 : decode cX7_addKind 71 = .ok (.invokevirtual 61, 3) := by decide +kernel
theorem dX7_addKind_74 : decode cX7_addKind 74 = .ok (.iconst 1, 1) := by decide +kernel
theorem dX7_addKind_75 : decode cX7_addKind 75 = .ok (.isub, 1) := by decide +kernel
theorem dX7_addKind_76 : decode cX7_addKind 76 = .ok (.ireturn, 1) := by decide +kernel
set_option maxRecDepth 20000 in
theorem ggX7_addPallet_X7_findKind : GoodIn wsX7_addPallet wsX7_findKind := goodIn_ca (goodIn_r _ [12, 13, 14, 15, 16, 17, 18, 19, 20, 21, 22, 23, 24, 25, 26, 27, 28, 29, 30, 31, 32, 33, 34, 35, 36, 37, 38, 39, 137, 138, 139, 140, 141, 142, 143, 144, 151, 152, 153] (by decide +kernel) (by decide +kernel)) (goodIn_sub (fun _ h => List.mem_cons_of_mem _ (List.mem_append_right _ h)) (by decide +kernel))
set_option maxRecDepth 20000 in
theorem gX7_addPallet_X7_findKind : GoodIn wsX7_addPallet (wsV RX7 168 RX7 yX7_findKind wsX7_findKind) := goodIn_app (goodIn_of _ (by decide +kernel)) ggX7_addPallet_X7_findKind
set_option maxRecDepth 20000 in
theorem ggX7_addPallet_X7_findRoom : GoodIn wsX7_addPallet wsX7_findRoom := goodIn_ca (goodIn_r _ [43, 13, 14, 44, 45, 17, 18, 19, 20, 21, 22, 23, 24, 25, 26, 27, 28, 29, 30, 31, 32, 33, 34, 35, 36, 37, 38, 39, 137, 138, 139, 140, 141, 142, 143, 144, 151, 152, 153] (by decide +kernel) (by decide +kernel)) (goodIn_sub (fun _ h => List.mem_cons_of_mem _ (List.mem_append_right _ h)) (by decide +kernel))
set_option maxRecDepth 20000 in
theorem gX7_addPallet_X7_findRoom : GoodIn wsX7_addPallet (wsV RX7 75 RX7 yX7_findRoom wsX7_findRoom) := goodIn_app (goodIn_of _ (by decide +kernel)) ggX7_addPallet_X7_findRoom
set_option maxRecDepth 20000 in
theorem ggX7_addPallet_Jx4a65c_size_8abf5 : GoodIn wsX7_addPallet wsJx4a65c_size_8abf5 := goodIn_r _ [21, 22, 151, 152, 153] (by decide +kernel) (by decide +kernel)
set_option maxRecDepth 20000 in
theorem gX7_addPallet_Jx4a65c_size_8abf5 : GoodIn wsX7_addPallet (wsV RX7 61 RJx4a65c yJx4a65c_size_8abf5 wsJx4a65c_size_8abf5) := goodIn_app (goodIn_of _ (by decide +kernel)) ggX7_addPallet_Jx4a65c_size_8abf5
set_option maxRecDepth 20000 in
theorem ggX7_addPallet_X7_requireSpace : GoodIn wsX7_addPallet wsX7_requireSpace := goodIn_ca (goodIn_r _ [49, 1, 2, 50, 51, 52, 11, 53, 3, 54, 55, 56, 17, 18, 19, 20, 21, 22, 23, 24, 25, 26, 27, 28, 29, 30, 31, 32, 33, 34, 35, 36, 37, 38, 39, 57, 58, 59, 6, 60, 61, 137, 138, 139, 140, 141, 142, 143, 144, 145, 146, 147, 148, 149, 150, 154, 155, 156, 151, 152, 153] (by decide +kernel) (by decide +kernel)) (goodIn_sub (fun _ h => List.mem_cons_of_mem _ (List.mem_append_left _ (List.mem_append_right _ h))) (by decide +kernel))
set_option maxRecDepth 20000 in
theorem gX7_addPallet_X7_requireSpace : GoodIn wsX7_addPallet (wsV RX7 174 RX7 yX7_requireSpace wsX7_requireSpace) := goodIn_app (goodIn_of _ (by decide +kernel)) ggX7_addPallet_X7_requireSpace
set_option maxRecDepth 20000 in
theorem ggX7_addPallet_X4_init : GoodIn wsX7_addPallet wsX4_init := goodIn_r _ [64, 65, 66, 67, 61, 68, 69, 70, 71, 72, 73, 74, 75, 76, 77, 78, 79, 80, 81, 82, 83, 145, 146, 147, 148, 149, 150, 154, 155, 156, 157, 158, 159] (by decide +kernel) (by decide +kernel)
set_option maxRecDepth 20000 in
theorem gX7_addPallet_X4_init : GoodIn wsX7_addPallet (wsX4_init) := ggX7_addPallet_X4_init
set_option maxRecDepth 20000 in
theorem ggX7_addPallet_Jx4a65c_add_9ea2d : GoodIn wsX7_addPallet wsJx4a65c_add_9ea2d := goodIn_r _ [87, 88, 89, 39, 22, 90, 91, 92, 20, 93, 94, 95, 96, 97, 98, 99, 100, 101, 102, 103, 104, 105, 106, 107, 108, 109, 110, 111, 112, 113, 114, 115, 116, 117, 118, 119, 120, 121, 122, 123, 124, 125, 126, 127, 128, 129, 130, 131, 132, 133, 134, 135, 136, 151, 152, 153] (by decide +kernel) (by decide +kernel)
set_option maxRecDepth 20000 in
theorem gX7_addPallet_Jx4a65c_add_9ea2d : GoodIn wsX7_addPallet (wsV RX7 71 RJx4a65c yJx4a65c_add_9ea2d wsJx4a65c_add_9ea2d) := goodIn_app (goodIn_of _ (by decide +kernel)) ggX7_addPallet_Jx4a65c_add_9ea2d
theorem dX7_addPallet_0 : decode cX7_addPallet 0 = .ok (.aload_n 0, 1) := by decide +kernel
theorem dX7_addPallet_1 : decode cX7_addPallet 1 = .ok (.iload_n 1, 1) := by decide +kernel
theorem dX7_addPallet_2 : decode cX7_addPallet 2 = .ok (.invokevirtual 168, 3) := by decide +kernel
theorem dX7_addPallet_5 : decode cX7_addPallet 5 = .ok (.astore_n 3, 1) := by decide +kernel
theorem dX7_addPallet_6 : decode cX7_addPallet 6 = .ok (.aload_n 0, 1) := by decide +kernel
theorem dX7_addPallet_7 : decode cX7_addPallet 7 = .ok (.iload_n 2, 1) := by decide +kernel
theorem dX7_addPallet_8 : decode cX7_addPallet 8 = .ok (.invokevirtual 75, 3) := by decide +kernel
theorem dX7_addPallet_11 : decode cX7_addPallet 11 = .ok (.astore 4, 2) := by decide +kernel
theorem dX7_addPallet_13 : decode cX7_addPallet 13 = .ok (.aload_n 0, 1) := by decide +kernel
theorem dX7_addPallet_14 : decode cX7_addPallet 14 = .ok (.getfield 19, 3) := by decide +kernel
theorem dX7_addPallet_17 : decode cX7_addPallet 17 = .ok (.invokevirtual 61, 3) := by decide +kernel
theorem dX7_addPallet_20 : decode cX7_addPallet 20 = .ok (.bipush 24, 2) := by decide +kernel
theorem dX7_addPallet_22 : decode cX7_addPallet 22 = .ok (.if_icmp .lt 13, 3) := by decide +kernel
theorem dX7_addPallet_25 : decode cX7_addPallet 25 = .ok (.new 50, 3) := by decide +kernel
theorem dX7_addPallet_28 : decode cX7_addPallet 28 = .ok (.dup, 1) := by decide +kernel
theorem dX7_addPallet_29 : decode cX7_addPallet 29 = .ok (.ldc 172, 2) := by decide +kernel
theorem dX7_addPallet_31 : decode cX7_addPallet 31 = .ok (.invokespecial 54, 3) := by decide +kernel
theorem dX7_addPallet_34 : decode cX7_addPallet 34 = .ok (.athrow, 1) := by decide +kernel
theorem dX7_addPallet_35 : decode cX7_addPallet 35 = .ok (.aload_n 0, 1) := by decide +kernel
theorem dX7_addPallet_36 : decode cX7_addPallet 36 = .ok (.aload 4, 2) := by decide +kernel
theorem dX7_addPallet_38 : decode cX7_addPallet 38 = .ok (.invokevirtual 174, 3) := by decide +kernel
theorem dX7_addPallet_41 : decode cX7_addPallet 41 = .ok (.aload_n 0, 1) := by decide +kernel
theorem dX7_addPallet_42 : decode cX7_addPallet 42 = .ok (.getfield 19, 3) := by decide +kernel
theorem dX7_addPallet_45 : decode cX7_addPallet 45 = .ok (.invokevirtual 61, 3) := by decide +kernel
theorem dX7_addPallet_48 : decode cX7_addPallet 48 = .ok (.istore 5, 2) := by decide +kernel
theorem dX7_addPallet_50 : decode cX7_addPallet 50 = .ok (.aload_n 0, 1) := by decide +kernel
theorem dX7_addPallet_51 : decode cX7_addPallet 51 = .ok (.getfield 19, 3) := by decide +kernel
theorem dX7_addPallet_54 : decode cX7_addPallet 54 = .ok (.new 178, 3) := by decide +kernel
theorem dX7_addPallet_57 : decode cX7_addPallet 57 = .ok (.dup, 1) := by decide +kernel
theorem dX7_addPallet_58 : decode cX7_addPallet 58 = .ok (.iload 5, 2) := by decide +kernel
theorem dX7_addPallet_60 : decode cX7_addPallet 60 = .ok (.aload_n 3, 1) := by decide +kernel
theorem dX7_addPallet_61 : decode cX7_addPallet 61 = .ok (.aload 4, 2) := by decide +kernel
theorem dX7_addPallet_63 : decode cX7_addPallet 63 = .ok (.aload_n 0, 1) := by decide +kernel
theorem dX7_addPallet_64 : decode cX7_addPallet 64 = .ok (.getfield 39, 3) := by decide +kernel
theorem dX7_addPallet_67 : decode cX7_addPallet 67 = .ok (.invokespecial 180, 3) := by decide +kernel
theorem dX7_addPallet_70 : decode cX7_addPallet 70 = .ok (.invokevirtual 71, 3) := by decide +kernel
theorem dX7_addPallet_73 : decode cX7_addPallet 73 = .ok (.pop, 1) := by decide +kernel
theorem dX7_addPallet_74 : decode cX7_addPallet 74 = .ok (.iload 5, 2) := by decide +kernel
theorem dX7_addPallet_76 : decode cX7_addPallet 76 = .ok (.ireturn, 1) := by decide +kernel
set_option maxRecDepth 20000 in
theorem ggX7_movePallet_X7_findPallet : GoodIn wsX7_movePallet wsX7_findPallet := goodIn_ca (goodIn_r _ [9, 10, 11, 12, 13, 14, 15, 16, 17, 18, 19, 20, 21, 22, 23, 24, 25, 26, 27, 28, 29, 30, 31, 32, 33, 34, 35, 36, 92, 93, 94, 95, 96, 97, 98, 99, 117, 118, 119] (by decide +kernel) (by decide +kernel)) (goodIn_sub (fun _ h => List.mem_cons_of_mem _ (List.mem_append_left _ (List.mem_append_left _ (List.mem_append_right _ h)))) (by decide +kernel))
set_option maxRecDepth 20000 in
theorem gX7_movePallet_X7_findPallet : GoodIn wsX7_movePallet (wsV RX7 183 RX7 yX7_findPallet wsX7_findPallet) := goodIn_app (goodIn_of _ (by decide +kernel)) ggX7_movePallet_X7_findPallet
set_option maxRecDepth 20000 in
theorem ggX7_movePallet_X7_findRoom : GoodIn wsX7_movePallet wsX7_findRoom := goodIn_ca (goodIn_r _ [40, 10, 11, 41, 42, 14, 15, 16, 17, 18, 19, 20, 21, 22, 23, 24, 25, 26, 27, 28, 29, 30, 31, 32, 33, 34, 35, 36, 92, 93, 94, 95, 96, 97, 98, 99, 117, 118, 119] (by decide +kernel) (by decide +kernel)) (goodIn_sub (fun _ h => List.mem_cons_of_mem _ (List.mem_append_left _ (List.mem_append_left _ (List.mem_append_right _ h)))) (by decide +kernel))
set_option maxRecDepth 20000 in
theorem gX7_movePallet_X7_findRoom : GoodIn wsX7_movePallet (wsV RX7 75 RX7 yX7_findRoom wsX7_findRoom) := goodIn_app (goodIn_of _ (by decide +kernel)) ggX7_movePallet_X7_findRoom
set_option maxRecDepth 20000 in
theorem ggX7_movePallet_X7_requireInRoom : GoodIn wsX7_movePallet wsX7_requireInRoom := goodIn_ca (goodIn_r _ [45, 46, 47, 48, 49, 50, 51, 52, 53, 83, 84, 85, 86, 87, 88] (by decide +kernel) (by decide +kernel)) (goodIn_sub (fun _ h => List.mem_cons_of_mem _ (List.mem_append_left _ (List.mem_append_right _ h))) (by decide +kernel))
set_option maxRecDepth 20000 in
theorem gX7_movePallet_X7_requireInRoom : GoodIn wsX7_movePallet (va_wsS RX7 187 yX7_requireInRoom wsX7_requireInRoom) := goodIn_app (goodIn_of _ (by decide +kernel)) ggX7_movePallet_X7_requireInRoom
set_option maxRecDepth 20000 in
theorem ggX7_movePallet_X7_requireSpace : GoodIn wsX7_movePallet wsX7_requireSpace := goodIn_ca (goodIn_r _ [57, 58, 59, 60, 61, 62, 8, 63, 12, 13, 1, 2, 14, 15, 16, 17, 18, 19, 20, 21, 22, 23, 24, 25, 26, 27, 28, 29, 30, 31, 32, 33, 34, 35, 36, 48, 49, 50, 51, 52, 53, 92, 93, 94, 95, 96, 97, 98, 99, 83, 84, 85, 86, 87, 88, 89, 90, 91, 117, 118, 119] (by decide +kernel) (by decide +kernel)) (goodIn_sub (fun _ h => List.mem_cons_of_mem _ (List.mem_append_right _ h)) (by decide +kernel))
set_option maxRecDepth 20000 in
theorem gX7_movePallet_X7_requireSpace : GoodIn wsX7_movePallet (wsV RX7 174 RX7 yX7_requireSpace wsX7_requireSpace) := goodIn_app (goodIn_of _ (by decide +kernel)) ggX7_movePallet_X7_requireSpace
set_option maxRecDepth 20000 in
theorem ggX7_movePallet_X4_enter : GoodIn wsX7_movePallet wsX4_enter := goodIn_r _ [67, 68, 69, 70, 71, 72, 73, 74, 75, 76, 77, 78, 79, 80, 81, 82, 83, 84, 85, 86, 87, 88, 89, 90, 91] (by decide +kernel) (by decide +kernel)
set_option maxRecDepth 20000 in
theorem gX7_movePallet_X4_enter : GoodIn wsX7_movePallet (wsV RX7 201 RX4 yX4_enter wsX4_enter) := goodIn_app (goodIn_of _ (by decide +kernel)) ggX7_movePallet_X4_enter
theorem dX7_movePallet_0 : decode cX7_movePallet 0 = .ok (.aload_n 0, 1) := by decide +kernel
theorem dX7_movePallet_1 : decode cX7_movePallet 1 = .ok (.iload_n 1, 1) := by decide +kernel
theorem dX7_movePallet_2 : decode cX7_movePallet 2 = .ok (.invokevirtual 183, 3) := by decide +kernel
theorem dX7_movePallet_5 : decode cX7_movePallet 5 = .ok (.astore_n 3, 1) := by decide +kernel
theorem dX7_movePallet_6 : decode cX7_movePallet 6 = .ok (.aload_n 0, 1) := by decide +kernel
theorem dX7_movePallet_7 : decode cX7_movePallet 7 = .ok (.iload_n 2, 1) := by decide +kernel
theorem dX7_movePallet_8 : decode cX7_movePallet 8 = .ok (.invokevirtual 75, 3) := by decide +kernel
theorem dX7_movePallet_11 : decode cX7_movePallet 11 = .ok (.astore 4, 2) := by decide +kernel
theorem dX7_movePallet_13 : decode cX7_movePallet 13 = .ok (.aload_n 3, 1) := by decide +kernel
theorem dX7_movePallet_14 : decode cX7_movePallet 14 = .ok (.invokestatic 187, 3) := by decide +kernel
theorem dX7_movePallet_17 : decode cX7_movePallet 17 = .ok (.aload_n 3, 1) := by decide +kernel
theorem dX7_movePallet_18 : decode cX7_movePallet 18 = .ok (.getfield 191, 3) := by decide +kernel
theorem dX7_movePallet_21 : decode cX7_movePallet 21 = .ok (.getfield 195, 3) := by decide +kernel
theorem dX7_movePallet_24 : decode cX7_movePallet 24 = .ok (.astore 5, 2) := by decide +kernel
theorem dX7_movePallet_26 : decode cX7_movePallet 26 = .ok (.aload 4, 2) := by decide +kernel
theorem dX7_movePallet_28 : decode cX7_movePallet 28 = .ok (.aload 5, 2) := by decide +kernel
theorem dX7_movePallet_30 : decode cX7_movePallet 30 = .ok (.if_acmp .eq 19, 3) := by decide +kernel
theorem dX7_movePallet_33 : decode cX7_movePallet 33 = .ok (.aload_n 0, 1) := by decide +kernel
theorem dX7_movePallet_34 : decode cX7_movePallet 34 = .ok (.aload 4, 2) := by decide +kernel
theorem dX7_movePallet_36 : decode cX7_movePallet 36 = .ok (.invokevirtual 174, 3) := by decide +kernel
theorem dX7_movePallet_39 : decode cX7_movePallet 39 = .ok (.aload_n 3, 1) := by decide +kernel
theorem dX7_movePallet_40 : decode cX7_movePallet 40 = .ok (.aload 4, 2) := by decide +kernel
theorem dX7_movePallet_42 : decode cX7_movePallet 42 = .ok (.aload_n 0, 1) := by decide +kernel
theorem dX7_movePallet_43 : decode cX7_movePallet 43 = .ok (.getfield 39, 3) := by decide +kernel
theorem dX7_movePallet_46 : decode cX7_movePallet 46 = .ok (.invokevirtual 201, 3) := by decide +kernel
theorem dX7_movePallet_49 : decode cX7_movePallet 49 = .ok (.aload 5, 2) := by decide +kernel
theorem dX7_movePallet_51 : decode cX7_movePallet 51 = .ok (.getfield 205, 3) := by decide +kernel
theorem dX7_movePallet_54 : decode cX7_movePallet 54 = .ok (.ireturn, 1) := by decide +kernel
set_option maxRecDepth 20000 in
theorem ggX7_scrap_X7_findPallet : GoodIn wsX7_scrap wsX7_findPallet := goodIn_ca (goodIn_r _ [7, 8, 9, 10, 11, 12, 13, 14, 15, 16, 17, 18, 19, 20, 21, 22, 23, 24, 25, 26, 27, 28, 29, 30, 31, 32, 33, 34, 51, 52, 53, 54, 55, 56, 57, 58, 65, 66, 67] (by decide +kernel) (by decide +kernel)) (goodIn_sub (fun _ h => List.mem_cons_of_mem _ (List.mem_append_left _ (List.mem_append_right _ h))) (by decide +kernel))
set_option maxRecDepth 20000 in
theorem gX7_scrap_X7_findPallet : GoodIn wsX7_scrap (wsV RX7 183 RX7 yX7_findPallet wsX7_findPallet) := goodIn_app (goodIn_of _ (by decide +kernel)) ggX7_scrap_X7_findPallet
set_option maxRecDepth 20000 in
theorem ggX7_scrap_X7_requireInRoom : GoodIn wsX7_scrap wsX7_requireInRoom := goodIn_ca (goodIn_r _ [37, 38, 39, 40, 41, 42, 43, 44, 45, 59, 60, 61, 62, 63, 64] (by decide +kernel) (by decide +kernel)) (goodIn_sub (fun _ h => List.mem_cons_of_mem _ (List.mem_append_right _ h)) (by decide +kernel))
set_option maxRecDepth 20000 in
theorem gX7_scrap_X7_requireInRoom : GoodIn wsX7_scrap (va_wsS RX7 187 yX7_requireInRoom wsX7_requireInRoom) := goodIn_app (goodIn_of _ (by decide +kernel)) ggX7_scrap_X7_requireInRoom
set_option maxRecDepth 20000 in
theorem ggX7_scrap_X4_leave : GoodIn wsX7_scrap wsX4_leave := goodIn_r _ [49, 45, 50, 59, 60, 61, 62, 63, 64] (by decide +kernel) (by decide +kernel)
set_option maxRecDepth 20000 in
theorem gX7_scrap_X4_leave : GoodIn wsX7_scrap (wsV RX7 208 RX4 yX4_leave wsX4_leave) := goodIn_app (goodIn_of _ (by decide +kernel)) ggX7_scrap_X4_leave
theorem dX7_scrap_0 : decode cX7_scrap 0 = .ok (.aload_n 0, 1) := by decide +kernel
theorem dX7_scrap_1 : decode cX7_scrap 1 = .ok (.iload_n 1, 1) := by decide +kernel
theorem dX7_scrap_2 : decode cX7_scrap 2 = .ok (.invokevirtual 183, 3) := by decide +kernel
theorem dX7_scrap_5 : decode cX7_scrap 5 = .ok (.astore_n 2, 1) := by decide +kernel
theorem dX7_scrap_6 : decode cX7_scrap 6 = .ok (.aload_n 2, 1) := by decide +kernel
theorem dX7_scrap_7 : decode cX7_scrap 7 = .ok (.invokestatic 187, 3) := by decide +kernel
theorem dX7_scrap_10 : decode cX7_scrap 10 = .ok (.aload_n 2, 1) := by decide +kernel
theorem dX7_scrap_11 : decode cX7_scrap 11 = .ok (.bipush 120, 2) := by decide +kernel
theorem dX7_scrap_13 : decode cX7_scrap 13 = .ok (.aload_n 0, 1) := by decide +kernel
theorem dX7_scrap_14 : decode cX7_scrap 14 = .ok (.getfield 39, 3) := by decide +kernel
theorem dX7_scrap_17 : decode cX7_scrap 17 = .ok (.invokevirtual 208, 3) := by decide +kernel
theorem dX7_scrap_20 : decode cX7_scrap 20 = .ok (.aload_n 2, 1) := by decide +kernel
theorem dX7_scrap_21 : decode cX7_scrap 21 = .ok (.getfield 212, 3) := by decide +kernel
theorem dX7_scrap_24 : decode cX7_scrap 24 = .ok (.ireturn, 1) := by decide +kernel
set_option maxRecDepth 20000 in
theorem ggX7_pallets_Jx4a65c_size_8abf5 : GoodIn wsX7_pallets wsJx4a65c_size_8abf5 := goodIn_r _ [6, 7, 16, 17, 18] (by decide +kernel) (by decide +kernel)
set_option maxRecDepth 20000 in
theorem gX7_pallets_Jx4a65c_size_8abf5 : GoodIn wsX7_pallets (wsV RX7 61 RJx4a65c yJx4a65c_size_8abf5 wsJx4a65c_size_8abf5) := goodIn_app (goodIn_of _ (by decide +kernel)) ggX7_pallets_Jx4a65c_size_8abf5
theorem dX7_pallets_0 : decode cX7_pallets 0 = .ok (.aload_n 0, 1) := by decide +kernel
theorem dX7_pallets_1 : decode cX7_pallets 1 = .ok (.getfield 19, 3) := by decide +kernel
theorem dX7_pallets_4 : decode cX7_pallets 4 = .ok (.invokevirtual 61, 3) := by decide +kernel
theorem dX7_pallets_7 : decode cX7_pallets 7 = .ok (.ireturn, 1) := by decide +kernel
set_option maxRecDepth 20000 in
theorem ggX7_state_X7_findPallet : GoodIn wsX7_state wsX7_findPallet := goodIn_ca (goodIn_r _ [6, 7, 8, 9, 10, 11, 12, 13, 14, 15, 16, 17, 18, 19, 20, 21, 22, 23, 24, 25, 26, 27, 28, 29, 30, 31, 32, 33, 40, 41, 42, 43, 44, 45, 46, 47, 48, 49, 50] (by decide +kernel) (by decide +kernel)) (goodIn_sub (fun _ h => List.mem_cons_of_mem _ (List.mem_append_right _ h)) (by decide +kernel))
set_option maxRecDepth 20000 in
theorem gX7_state_X7_findPallet : GoodIn wsX7_state (wsV RX7 183 RX7 yX7_findPallet wsX7_findPallet) := goodIn_app (goodIn_of _ (by decide +kernel)) ggX7_state_X7_findPallet
theorem dX7_state_0 : decode cX7_state 0 = .ok (.aload_n 0, 1) := by decide +kernel
theorem dX7_state_1 : decode cX7_state 1 = .ok (.iload_n 1, 1) := by decide +kernel
theorem dX7_state_2 : decode cX7_state 2 = .ok (.invokevirtual 183, 3) := by decide +kernel
theorem dX7_state_5 : decode cX7_state 5 = .ok (.getfield 215, 3) := by decide +kernel
theorem dX7_state_8 : decode cX7_state 8 = .ok (.ireturn, 1) := by decide +kernel
set_option maxRecDepth 20000 in
theorem ggX7_roomOf_X7_findPallet : GoodIn wsX7_roomOf wsX7_findPallet := goodIn_ca (goodIn_r _ [8, 9, 10, 11, 12, 13, 14, 15, 16, 17, 18, 19, 20, 21, 22, 23, 24, 25, 26, 27, 28, 29, 30, 31, 32, 33, 34, 35, 73, 74, 75, 76, 77, 78, 79, 80, 81, 82, 83] (by decide +kernel) (by decide +kernel)) (goodIn_sub (fun _ h => List.mem_cons_of_mem _ (List.mem_append_left _ (List.mem_append_right _ h))) (by decide +kernel))
set_option maxRecDepth 20000 in
theorem gX7_roomOf_X7_findPallet : GoodIn wsX7_roomOf (wsV RX7 183 RX7 yX7_findPallet wsX7_findPallet) := goodIn_app (goodIn_of _ (by decide +kernel)) ggX7_roomOf_X7_findPallet
set_option maxRecDepth 20000 in
theorem ggX7_roomOf_X7_requireInRoom : GoodIn wsX7_roomOf wsX7_requireInRoom := goodIn_ca (goodIn_r _ [38, 39, 40, 41, 42, 43, 44, 45, 46, 47, 48, 49, 50, 51, 52] (by decide +kernel) (by decide +kernel)) (goodIn_sub (fun _ h => List.mem_cons_of_mem _ (List.mem_append_right _ h)) (by decide +kernel))
set_option maxRecDepth 20000 in
theorem gX7_roomOf_X7_requireInRoom : GoodIn wsX7_roomOf (va_wsS RX7 187 yX7_requireInRoom wsX7_requireInRoom) := goodIn_app (goodIn_of _ (by decide +kernel)) ggX7_roomOf_X7_requireInRoom
theorem dX7_roomOf_0 : decode cX7_roomOf 0 = .ok (.aload_n 0, 1) := by decide +kernel
theorem dX7_roomOf_1 : decode cX7_roomOf 1 = .ok (.iload_n 1, 1) := by decide +kernel
theorem dX7_roomOf_2 : decode cX7_roomOf 2 = .ok (.invokevirtual 183, 3) := by decide +kernel
theorem dX7_roomOf_5 : decode cX7_roomOf 5 = .ok (.astore_n 2, 1) := by decide +kernel
theorem dX7_roomOf_6 : decode cX7_roomOf 6 = .ok (.aload_n 2, 1) := by decide +kernel
theorem dX7_roomOf_7 : decode cX7_roomOf 7 = .ok (.invokestatic 187, 3) := by decide +kernel
theorem dX7_roomOf_10 : decode cX7_roomOf 10 = .ok (.aload_n 2, 1) := by decide +kernel
theorem dX7_roomOf_11 : decode cX7_roomOf 11 = .ok (.getfield 191, 3) := by decide +kernel
theorem dX7_roomOf_14 : decode cX7_roomOf 14 = .ok (.getfield 195, 3) := by decide +kernel
theorem dX7_roomOf_17 : decode cX7_roomOf 17 = .ok (.getfield 205, 3) := by decide +kernel
theorem dX7_roomOf_20 : decode cX7_roomOf 20 = .ok (.ireturn, 1) := by decide +kernel
set_option maxRecDepth 20000 in
theorem ggX7_life_X7_findPallet : GoodIn wsX7_life wsX7_findPallet := goodIn_ca (goodIn_r _ [6, 7, 8, 9, 10, 11, 12, 13, 14, 15, 16, 17, 18, 19, 20, 21, 22, 23, 24, 25, 26, 27, 28, 29, 30, 31, 32, 33, 40, 41, 42, 43, 44, 45, 46, 47, 48, 49, 50] (by decide +kernel) (by decide +kernel)) (goodIn_sub (fun _ h => List.mem_cons_of_mem _ (List.mem_append_right _ h)) (by decide +kernel))
set_option maxRecDepth 20000 in
theorem gX7_life_X7_findPallet : GoodIn wsX7_life (wsV RX7 183 RX7 yX7_findPallet wsX7_findPallet) := goodIn_app (goodIn_of _ (by decide +kernel)) ggX7_life_X7_findPallet
theorem dX7_life_0 : decode cX7_life 0 = .ok (.aload_n 0, 1) := by decide +kernel
theorem dX7_life_1 : decode cX7_life 1 = .ok (.iload_n 1, 1) := by decide +kernel
theorem dX7_life_2 : decode cX7_life 2 = .ok (.invokevirtual 183, 3) := by decide +kernel
theorem dX7_life_5 : decode cX7_life 5 = .ok (.getfield 212, 3) := by decide +kernel
theorem dX7_life_8 : decode cX7_life 8 = .ok (.ireturn, 1) := by decide +kernel
set_option maxRecDepth 20000 in
theorem ggX7_lifeByRecords_X7_findPallet : GoodIn wsX7_lifeByRecords wsX7_findPallet := goodIn_ca (goodIn_r _ [6, 7, 8, 9, 10, 11, 12, 13, 14, 15, 16, 17, 18, 19, 20, 21, 22, 23, 24, 25, 26, 27, 28, 29, 30, 31, 32, 33, 69, 70, 71, 72, 73, 74, 75, 76, 77, 78, 79] (by decide +kernel) (by decide +kernel)) (goodIn_sub (fun _ h => List.mem_cons_of_mem _ (List.mem_append_left _ (List.mem_append_right _ h))) (by decide +kernel))
set_option maxRecDepth 20000 in
theorem gX7_lifeByRecords_X7_findPallet : GoodIn wsX7_lifeByRecords (wsV RX7 183 RX7 yX7_findPallet wsX7_findPallet) := goodIn_app (goodIn_of _ (by decide +kernel)) ggX7_lifeByRecords_X7_findPallet
set_option maxRecDepth 20000 in
theorem ggX7_lifeByRecords_X4_recordedLife : GoodIn wsX7_lifeByRecords wsX4_recordedLife := goodIn_ca (goodIn_r _ [38, 39, 40, 41, 42, 43, 44, 45, 46, 47, 48, 49, 50, 51, 52, 37, 53, 54, 55, 56, 57, 58, 59, 60, 61, 62, 63, 64, 65, 66, 67, 68, 80, 81, 82, 83, 84, 85, 86, 87, 88, 89, 90, 91, 92, 93, 94, 95, 96, 97, 98, 99, 100, 101, 102, 103, 104, 105, 106, 107, 108] (by decide +kernel) (by decide +kernel)) (goodIn_sub (fun _ h => List.mem_cons_of_mem _ (List.mem_append_right _ h)) (by decide +kernel))
set_option maxRecDepth 20000 in
theorem gX7_lifeByRecords_X4_recordedLife : GoodIn wsX7_lifeByRecords (wsV RX7 218 RX4 yX4_recordedLife wsX4_recordedLife) := goodIn_app (goodIn_of _ (by decide +kernel)) ggX7_lifeByRecords_X4_recordedLife
theorem dX7_lifeByRecords_0 : decode cX7_lifeByRecords 0 = .ok (.aload_n 0, 1) := by decide +kernel
theorem dX7_lifeByRecords_1 : decode cX7_lifeByRecords 1 = .ok (.iload_n 1, 1) := by decide +kernel
theorem dX7_lifeByRecords_2 : decode cX7_lifeByRecords 2 = .ok (.invokevirtual 183, 3) := by decide +kernel
theorem dX7_lifeByRecords_5 : decode cX7_lifeByRecords 5 = .ok (.aload_n 0, 1) := by decide +kernel
theorem dX7_lifeByRecords_6 : decode cX7_lifeByRecords 6 = .ok (.getfield 39, 3) := by decide +kernel
theorem dX7_lifeByRecords_9 : decode cX7_lifeByRecords 9 = .ok (.invokevirtual 218, 3) := by decide +kernel
theorem dX7_lifeByRecords_12 : decode cX7_lifeByRecords 12 = .ok (.ireturn, 1) := by decide +kernel
set_option maxRecDepth 20000 in
theorem ggX7_forecast_X7_findPallet : GoodIn wsX7_forecast wsX7_findPallet := goodIn_ca (goodIn_r _ [14, 15, 16, 17, 18, 19, 20, 21, 22, 23, 24, 25, 26, 27, 28, 29, 30, 31, 32, 33, 34, 35, 36, 37, 38, 39, 40, 41, 91, 92, 93, 94, 95, 96, 97, 98, 99, 100, 101] (by decide +kernel) (by decide +kernel)) (goodIn_sub (fun _ h => List.mem_cons_of_mem _ (List.mem_append_left _ (List.mem_append_left _ (List.mem_append_right _ h)))) (by decide +kernel))
set_option maxRecDepth 20000 in
theorem gX7_forecast_X7_findPallet : GoodIn wsX7_forecast (wsV RX7 183 RX7 yX7_findPallet wsX7_findPallet) := goodIn_app (goodIn_of _ (by decide +kernel)) ggX7_forecast_X7_findPallet
set_option maxRecDepth 20000 in
theorem ggX7_forecast_X7_requireInRoom : GoodIn wsX7_forecast wsX7_requireInRoom := goodIn_ca (goodIn_r _ [44, 45, 46, 47, 48, 49, 50, 51, 52, 65, 66, 67, 68, 69, 70] (by decide +kernel) (by decide +kernel)) (goodIn_sub (fun _ h => List.mem_cons_of_mem _ (List.mem_append_left _ (List.mem_append_right _ h))) (by decide +kernel))
set_option maxRecDepth 20000 in
theorem gX7_forecast_X7_requireInRoom : GoodIn wsX7_forecast (va_wsS RX7 187 yX7_requireInRoom wsX7_requireInRoom) := goodIn_app (goodIn_of _ (by decide +kernel)) ggX7_forecast_X7_requireInRoom
set_option maxRecDepth 20000 in
theorem ggX7_forecast_X7_requireRange : GoodIn wsX7_forecast wsX7_requireRange := goodIn_ca (goodIn_r _ [55, 56, 57] (by decide +kernel) (by decide +kernel)) (goodIn_sub (fun _ h => List.mem_cons_of_mem _ (List.mem_append_right _ h)) (by decide +kernel))
set_option maxRecDepth 20000 in
theorem gX7_forecast_X7_requireRange : GoodIn wsX7_forecast (va_wsS RX7 46 yX7_requireRange wsX7_requireRange) := goodIn_app (goodIn_of _ (by decide +kernel)) ggX7_forecast_X7_requireRange
set_option maxRecDepth 20000 in
theorem ggX7_forecast_X1_lossAt : GoodIn wsX7_forecast wsX1_lossAt := goodIn_r _ [62, 63, 64, 102, 103, 104] (by decide +kernel) (by decide +kernel)
set_option maxRecDepth 20000 in
theorem gX7_forecast_X1_lossAt : GoodIn wsX7_forecast (wsV RX7 225 RX1 yX1_lossAt wsX1_lossAt) := goodIn_app (goodIn_of _ (by decide +kernel)) ggX7_forecast_X1_lossAt
theorem dX7_forecast_0 : decode cX7_forecast 0 = .ok (.aload_n 0, 1) := by decide +kernel
theorem dX7_forecast_1 : decode cX7_forecast 1 = .ok (.iload_n 1, 1) := by decide +kernel
theorem dX7_forecast_2 : decode cX7_forecast 2 = .ok (.invokevirtual 183, 3) := by decide +kernel
theorem dX7_forecast_5 : decode cX7_forecast 5 = .ok (.astore_n 3, 1) := by decide +kernel
theorem dX7_forecast_6 : decode cX7_forecast 6 = .ok (.aload_n 3, 1) := by decide +kernel
theorem dX7_forecast_7 : decode cX7_forecast 7 = .ok (.invokestatic 187, 3) := by decide +kernel
theorem dX7_forecast_10 : decode cX7_forecast 10 = .ok (.iload_n 2, 1) := by decide +kernel
theorem dX7_forecast_11 : decode cX7_forecast 11 = .ok (.iconst 0, 1) := by decide +kernel
theorem dX7_forecast_12 : decode cX7_forecast 12 = .ok (.sipush 960, 3) := by decide +kernel
theorem dX7_forecast_15 : decode cX7_forecast 15 = .ok (.invokestatic 46, 3) := by decide +kernel
theorem dX7_forecast_18 : decode cX7_forecast 18 = .ok (.iload_n 2, 1) := by decide +kernel
theorem dX7_forecast_19 : decode cX7_forecast 19 = .ok (.aload_n 3, 1) := by decide +kernel
theorem dX7_forecast_20 : decode cX7_forecast 20 = .ok (.getfield 221, 3) := by decide +kernel
theorem dX7_forecast_23 : decode cX7_forecast 23 = .ok (.aload_n 3, 1) := by decide +kernel
theorem dX7_forecast_24 : decode cX7_forecast 24 = .ok (.getfield 191, 3) := by decide +kernel
theorem dX7_forecast_27 : decode cX7_forecast 27 = .ok (.getfield 195, 3) := by decide +kernel
theorem dX7_forecast_30 : decode cX7_forecast 30 = .ok (.getfield 100, 3) := by decide +kernel
theorem dX7_forecast_33 : decode cX7_forecast 33 = .ok (.invokevirtual 225, 3) := by decide +kernel
theorem dX7_forecast_36 : decode cX7_forecast 36 = .ok (.imul, 1) := by decide +kernel
theorem dX7_forecast_37 : decode cX7_forecast 37 = .ok (.istore 4, 2) := by decide +kernel
theorem dX7_forecast_39 : decode cX7_forecast 39 = .ok (.iconst 0, 1) := by decide +kernel
theorem dX7_forecast_40 : decode cX7_forecast 40 = .ok (.aload_n 3, 1) := by decide +kernel
theorem dX7_forecast_41 : decode cX7_forecast 41 = .ok (.getfield 212, 3) := by decide +kernel
theorem dX7_forecast_44 : decode cX7_forecast 44 = .ok (.iload 4, 2) := by decide +kernel
theorem dX7_forecast_46 : decode cX7_forecast 46 = .ok (.isub, 1) := by decide +kernel
theorem dX7_forecast_47 : decode cX7_forecast 47 = .ok (.invokestatic 228, 3) := by decide +kernel
theorem dX7_forecast_50 : decode cX7_forecast 50 = .ok (.ireturn, 1) := by decide +kernel
set_option maxRecDepth 20000 in
theorem ggX7_soonest_Jx4a65c_size_8abf5 : GoodIn wsX7_soonest wsJx4a65c_size_8abf5 := goodIn_r _ [10, 11, 55, 56, 57] (by decide +kernel) (by decide +kernel)
set_option maxRecDepth 20000 in
theorem gX7_soonest_Jx4a65c_size_8abf5 : GoodIn wsX7_soonest (wsV RX7 61 RJx4a65c yJx4a65c_size_8abf5 wsJx4a65c_size_8abf5) := goodIn_app (goodIn_of _ (by decide +kernel)) ggX7_soonest_Jx4a65c_size_8abf5
set_option maxRecDepth 20000 in
theorem ggX7_soonest_Jx4a65c_get_915e3 : GoodIn wsX7_soonest wsJx4a65c_get_915e3 := goodIn_r _ [15, 11, 16, 17, 18, 19, 20, 21, 22, 23, 24, 25, 26, 9, 27, 28, 55, 56, 57] (by decide +kernel) (by decide +kernel)
set_option maxRecDepth 20000 in
theorem gX7_soonest_Jx4a65c_get_915e3 : GoodIn wsX7_soonest (wsV RX7 234 RJx4a65c yJx4a65c_get_915e3 wsJx4a65c_get_915e3) := goodIn_app (goodIn_of _ (by decide +kernel)) ggX7_soonest_Jx4a65c_get_915e3
set_option maxRecDepth 20000 in
theorem ggX7_soonest_X4_isInRoom : GoodIn wsX7_soonest wsX4_isInRoom := goodIn_r _ [33, 34, 49, 50, 51, 52, 53, 54] (by decide +kernel) (by decide +kernel)
set_option maxRecDepth 20000 in
theorem gX7_soonest_X4_isInRoom : GoodIn wsX7_soonest (wsV RX7 238 RX4 yX4_isInRoom wsX4_isInRoom) := goodIn_app (goodIn_of _ (by decide +kernel)) ggX7_soonest_X4_isInRoom
set_option maxRecDepth 20000 in
theorem ggX7_soonest_X4_isAheadOf : GoodIn wsX7_soonest wsX4_isAheadOf := goodIn_r _ [38, 39, 40, 49, 50, 51, 52, 53, 54] (by decide +kernel) (by decide +kernel)
set_option maxRecDepth 20000 in
theorem gX7_soonest_X4_isAheadOf : GoodIn wsX7_soonest (wsV RX7 242 RX4 yX4_isAheadOf wsX4_isAheadOf) := goodIn_app (goodIn_of _ (by decide +kernel)) ggX7_soonest_X4_isAheadOf
theorem dX7_soonest_0 : decode cX7_soonest 0 = .ok (.aconst_null, 1) := by decide +kernel
theorem dX7_soonest_1 : decode cX7_soonest 1 = .ok (.astore_n 1, 1) := by decide +kernel
theorem dX7_soonest_2 : decode cX7_soonest 2 = .ok (.iconst 0, 1) := by decide +kernel
theorem dX7_soonest_3 : decode cX7_soonest 3 = .ok (.istore_n 2, 1) := by decide +kernel
theorem dX7_soonest_4 : decode cX7_soonest 4 = .ok (.iload_n 2, 1) := by decide +kernel
theorem dX7_soonest_5 : decode cX7_soonest 5 = .ok (.aload_n 0, 1) := by decide +kernel
theorem dX7_soonest_6 : decode cX7_soonest 6 = .ok (.getfield 19, 3) := by decide +kernel
theorem dX7_soonest_9 : decode cX7_soonest 9 = .ok (.invokevirtual 61, 3) := by decide +kernel
theorem dX7_soonest_12 : decode cX7_soonest 12 = .ok (.if_icmp .ge 42, 3) := by decide +kernel
theorem dX7_soonest_15 : decode cX7_soonest 15 = .ok (.aload_n 0, 1) := by decide +kernel
theorem dX7_soonest_16 : decode cX7_soonest 16 = .ok (.getfield 19, 3) := by decide +kernel
theorem dX7_soonest_19 : decode cX7_soonest 19 = .ok (.iload_n 2, 1) := by decide +kernel
theorem dX7_soonest_20 : decode cX7_soonest 20 = .ok (.invokevirtual 234, 3) := by decide +kernel
theorem dX7_soonest_23 : decode cX7_soonest 23 = .ok (.checkcast 178, 3) := by decide +kernel
theorem dX7_soonest_26 : decode cX7_soonest 26 = .ok (.astore_n 3, 1) := by decide +kernel
theorem dX7_soonest_27 : decode cX7_soonest 27 = .ok (.aload_n 3, 1) := by decide +kernel
theorem dX7_soonest_28 : decode cX7_soonest 28 = .ok (.invokevirtual 238, 3) := by decide +kernel
theorem dX7_soonest_31 : decode cX7_soonest 31 = .ok (.ifCond .eq 17, 3) := by decide +kernel
theorem dX7_soonest_34 : decode cX7_soonest 34 = .ok (.aload_n 1, 1) := by decide +kernel
theorem dX7_soonest_35 : decode cX7_soonest 35 = .ok (.ifnull 11, 3) := by decide +kernel
theorem dX7_soonest_38 : decode cX7_soonest 38 = .ok (.aload_n 3, 1) := by decide +kernel
theorem dX7_soonest_39 : decode cX7_soonest 39 = .ok (.aload_n 1, 1) := by decide +kernel
theorem dX7_soonest_40 : decode cX7_soonest 40 = .ok (.invokevirtual 242, 3) := by decide +kernel
theorem dX7_soonest_43 : decode cX7_soonest 43 = .ok (.ifCond .eq 5, 3) := by decide +kernel
theorem dX7_soonest_46 : decode cX7_soonest 46 = .ok (.aload_n 3, 1) := by decide +kernel
theorem dX7_soonest_47 : decode cX7_soonest 47 = .ok (.astore_n 1, 1) := by decide +kernel
theorem dX7_soonest_48 : decode cX7_soonest 48 = .ok (.iinc 2 1, 3) := by decide +kernel
theorem dX7_soonest_51 : decode cX7_soonest 51 = .ok (.goto (-47), 3) := by decide +kernel
theorem dX7_soonest_54 : decode cX7_soonest 54 = .ok (.aload_n 1, 1) := by decide +kernel
theorem dX7_soonest_55 : decode cX7_soonest 55 = .ok (.ifnonnull 13, 3) := by decide +kernel
theorem dX7_soonest_58 : decode cX7_soonest 58 = .ok (.new 110, 3) := by decide +kernel
theorem dX7_soonest_61 : decode cX7_soonest 61 = .ok (.dup, 1) := by decide +kernel
theorem dX7_soonest_62 : decode cX7_soonest 62 = .ok (.ldc 246, 2) := by decide +kernel
theorem dX7_soonest_64 : decode cX7_soonest 64 = .ok (.invokespecial 114, 3) := by decide +kernel
theorem dX7_soonest_67 : decode cX7_soonest 67 = .ok (.athrow, 1) := by decide +kernel
theorem dX7_soonest_68 : decode cX7_soonest 68 = .ok (.aload_n 1, 1) := by decide +kernel
theorem dX7_soonest_69 : decode cX7_soonest 69 = .ok (.getfield 248, 3) := by decide +kernel
theorem dX7_soonest_72 : decode cX7_soonest 72 = .ok (.ireturn, 1) := by decide +kernel
set_option maxRecDepth 20000 in
theorem ggX7_lostShare_Jx4a65c_isEmpty_aae02 : GoodIn wsX7_lostShare wsJx4a65c_isEmpty_aae02 := goodIn_r _ [11, 12, 48, 49, 50] (by decide +kernel) (by decide +kernel)
set_option maxRecDepth 20000 in
theorem gX7_lostShare_Jx4a65c_isEmpty_aae02 : GoodIn wsX7_lostShare (wsV RX7 249 RJx4a65c yJx4a65c_isEmpty_aae02 wsJx4a65c_isEmpty_aae02) := goodIn_app (goodIn_of _ (by decide +kernel)) ggX7_lostShare_Jx4a65c_isEmpty_aae02
set_option maxRecDepth 20000 in
theorem ggX7_lostShare_Jx4a65c_size_8abf5 : GoodIn wsX7_lostShare wsJx4a65c_size_8abf5 := goodIn_r _ [16, 12, 48, 49, 50] (by decide +kernel) (by decide +kernel)
set_option maxRecDepth 20000 in
theorem gX7_lostShare_Jx4a65c_size_8abf5 : GoodIn wsX7_lostShare (wsV RX7 61 RJx4a65c yJx4a65c_size_8abf5 wsJx4a65c_size_8abf5) := goodIn_app (goodIn_of _ (by decide +kernel)) ggX7_lostShare_Jx4a65c_size_8abf5
set_option maxRecDepth 20000 in
theorem ggX7_lostShare_Jx4a65c_get_915e3 : GoodIn wsX7_lostShare wsJx4a65c_get_915e3 := goodIn_r _ [20, 12, 21, 22, 23, 24, 25, 26, 27, 28, 29, 30, 31, 10, 32, 33, 48, 49, 50] (by decide +kernel) (by decide +kernel)
set_option maxRecDepth 20000 in
theorem gX7_lostShare_Jx4a65c_get_915e3 : GoodIn wsX7_lostShare (wsV RX7 234 RJx4a65c yJx4a65c_get_915e3 wsJx4a65c_get_915e3) := goodIn_app (goodIn_of _ (by decide +kernel)) ggX7_lostShare_Jx4a65c_get_915e3
theorem dX7_lostShare_0 : decode cX7_lostShare 0 = .ok (.aload_n 0, 1) := by decide +kernel
theorem dX7_lostShare_1 : decode cX7_lostShare 1 = .ok (.getfield 19, 3) := by decide +kernel
theorem dX7_lostShare_4 : decode cX7_lostShare 4 = .ok (.invokevirtual 249, 3) := by decide +kernel
theorem dX7_lostShare_7 : decode cX7_lostShare 7 = .ok (.ifCond .eq 13, 3) := by decide +kernel
theorem dX7_lostShare_10 : decode cX7_lostShare 10 = .ok (.new 118, 3) := by decide +kernel
theorem dX7_lostShare_13 : decode cX7_lostShare 13 = .ok (.dup, 1) := by decide +kernel
theorem dX7_lostShare_14 : decode cX7_lostShare 14 = .ok (.ldc 252, 2) := by decide +kernel
theorem dX7_lostShare_16 : decode cX7_lostShare 16 = .ok (.invokespecial 120, 3) := by decide +kernel
theorem dX7_lostShare_19 : decode cX7_lostShare 19 = .ok (.athrow, 1) := by decide +kernel
theorem dX7_lostShare_20 : decode cX7_lostShare 20 = .ok (.iconst 0, 1) := by decide +kernel
theorem dX7_lostShare_21 : decode cX7_lostShare 21 = .ok (.istore_n 1, 1) := by decide +kernel
theorem dX7_lostShare_22 : decode cX7_lostShare 22 = .ok (.iconst 0, 1) := by decide +kernel
theorem dX7_lostShare_23 : decode cX7_lostShare 23 = .ok (.istore_n 2, 1) := by decide +kernel
theorem dX7_lostShare_24 : decode cX7_lostShare 24 = .ok (.iload_n 2, 1) := by decide +kernel
theorem dX7_lostShare_25 : decode cX7_lostShare 25 = .ok (.aload_n 0, 1) := by decide +kernel
theorem dX7_lostShare_26 : decode cX7_lostShare 26 = .ok (.getfield 19, 3) := by decide +kernel
theorem dX7_lostShare_29 : decode cX7_lostShare 29 = .ok (.invokevirtual 61, 3) := by decide +kernel
theorem dX7_lostShare_32 : decode cX7_lostShare 32 = .ok (.if_icmp .ge 40, 3) := by decide +kernel
theorem dX7_lostShare_35 : decode cX7_lostShare 35 = .ok (.aload_n 0, 1) := by decide +kernel
theorem dX7_lostShare_36 : decode cX7_lostShare 36 = .ok (.getfield 19, 3) := by decide +kernel
theorem dX7_lostShare_39 : decode cX7_lostShare 39 = .ok (.iload_n 2, 1) := by decide +kernel
theorem dX7_lostShare_40 : decode cX7_lostShare 40 = .ok (.invokevirtual 234, 3) := by decide +kernel
theorem dX7_lostShare_43 : decode cX7_lostShare 43 = .ok (.checkcast 178, 3) := by decide +kernel
theorem dX7_lostShare_46 : decode cX7_lostShare 46 = .ok (.astore_n 3, 1) := by decide +kernel
theorem dX7_lostShare_47 : decode cX7_lostShare 47 = .ok (.aload_n 3, 1) := by decide +kernel
theorem dX7_lostShare_48 : decode cX7_lostShare 48 = .ok (.getfield 215, 3) := by decide +kernel
theorem dX7_lostShare_51 : decode cX7_lostShare 51 = .ok (.bipush 120, 2) := by decide +kernel
theorem dX7_lostShare_53 : decode cX7_lostShare 53 = .ok (.if_icmp .eq 10, 3) := by decide +kernel
theorem dX7_lostShare_56 : decode cX7_lostShare 56 = .ok (.aload_n 3, 1) := by decide +kernel
theorem dX7_lostShare_57 : decode cX7_lostShare 57 = .ok (.getfield 212, 3) := by decide +kernel
theorem dX7_lostShare_60 : decode cX7_lostShare 60 = .ok (.ifCond .ne 6, 3) := by decide +kernel
theorem dX7_lostShare_63 : decode cX7_lostShare 63 = .ok (.iinc 1 1, 3) := by decide +kernel
theorem dX7_lostShare_66 : decode cX7_lostShare 66 = .ok (.iinc 2 1, 3) := by decide +kernel
theorem dX7_lostShare_69 : decode cX7_lostShare 69 = .ok (.goto (-45), 3) := by decide +kernel
theorem dX7_lostShare_72 : decode cX7_lostShare 72 = .ok (.iload_n 1, 1) := by decide +kernel
theorem dX7_lostShare_73 : decode cX7_lostShare 73 = .ok (.i2f, 1) := by decide +kernel
theorem dX7_lostShare_74 : decode cX7_lostShare 74 = .ok (.aload_n 0, 1) := by decide +kernel
theorem dX7_lostShare_75 : decode cX7_lostShare 75 = .ok (.getfield 19, 3) := by decide +kernel
theorem dX7_lostShare_78 : decode cX7_lostShare 78 = .ok (.invokevirtual 61, 3) := by decide +kernel
theorem dX7_lostShare_81 : decode cX7_lostShare 81 = .ok (.i2f, 1) := by decide +kernel
theorem dX7_lostShare_82 : decode cX7_lostShare 82 = .ok (.fdiv, 1) := by decide +kernel
theorem dX7_lostShare_83 : decode cX7_lostShare 83 = .ok (.freturn, 1) := by decide +kernel
set_option maxRecDepth 20000 in
theorem ggX7_order_X7_findKind : GoodIn wsX7_order wsX7_findKind := goodIn_ca (goodIn_r _ [12, 13, 14, 15, 16, 17, 18, 19, 20, 21, 22, 23, 24, 25, 26, 27, 28, 29, 30, 31, 32, 33, 34, 35, 36, 37, 38, 39, 110, 111, 112, 113, 114, 115, 116, 117, 124, 125, 126] (by decide +kernel) (by decide +kernel)) (goodIn_sub (fun _ h => List.mem_cons_of_mem _ (List.mem_append_left _ (List.mem_append_right _ h))) (by decide +kernel))
set_option maxRecDepth 20000 in
theorem gX7_order_X7_findKind : GoodIn wsX7_order (wsV RX7 168 RX7 yX7_findKind wsX7_findKind) := goodIn_app (goodIn_of _ (by decide +kernel)) ggX7_order_X7_findKind
set_option maxRecDepth 20000 in
theorem ggX7_order_X7_requireRange : GoodIn wsX7_order wsX7_requireRange := goodIn_ca (goodIn_r _ [42, 43, 44] (by decide +kernel) (by decide +kernel)) (goodIn_sub (fun _ h => List.mem_cons_of_mem _ (List.mem_append_right _ h)) (by decide +kernel))
set_option maxRecDepth 20000 in
theorem gX7_order_X7_requireRange : GoodIn wsX7_order (va_wsS RX7 46 yX7_requireRange wsX7_requireRange) := goodIn_app (goodIn_of _ (by decide +kernel)) ggX7_order_X7_requireRange
set_option maxRecDepth 20000 in
theorem ggX7_order_Jx4a65c_size_8abf5 : GoodIn wsX7_order wsJx4a65c_size_8abf5 := goodIn_r _ [21, 22, 124, 125, 126] (by decide +kernel) (by decide +kernel)
set_option maxRecDepth 20000 in
theorem gX7_order_Jx4a65c_size_8abf5 : GoodIn wsX7_order (wsV RX7 61 RJx4a65c yJx4a65c_size_8abf5 wsJx4a65c_size_8abf5) := goodIn_app (goodIn_of _ (by decide +kernel)) ggX7_order_Jx4a65c_size_8abf5
set_option maxRecDepth 20000 in
theorem ggX7_order_X3_init : GoodIn wsX7_order wsX3_init := goodIn_r _ [47, 48, 49, 50, 51, 52, 53, 54, 55, 56, 118, 119, 120, 121, 122, 123] (by decide +kernel) (by decide +kernel)
set_option maxRecDepth 20000 in
theorem gX7_order_X3_init : GoodIn wsX7_order (wsX3_init) := ggX7_order_X3_init
set_option maxRecDepth 20000 in
theorem ggX7_order_Jx4a65c_add_9ea2d : GoodIn wsX7_order wsJx4a65c_add_9ea2d := goodIn_r _ [60, 61, 62, 39, 22, 63, 64, 65, 20, 66, 67, 68, 69, 70, 71, 72, 73, 74, 75, 76, 77, 78, 79, 80, 81, 82, 83, 84, 85, 86, 87, 88, 89, 90, 91, 92, 93, 94, 95, 96, 97, 98, 99, 100, 101, 102, 103, 104, 105, 106, 107, 108, 109, 124, 125, 126] (by decide +kernel) (by decide +kernel)
set_option maxRecDepth 20000 in
theorem gX7_order_Jx4a65c_add_9ea2d : GoodIn wsX7_order (wsV RX7 71 RJx4a65c yJx4a65c_add_9ea2d wsJx4a65c_add_9ea2d) := goodIn_app (goodIn_of _ (by decide +kernel)) ggX7_order_Jx4a65c_add_9ea2d
theorem dX7_order_0 : decode cX7_order 0 = .ok (.aload_n 0, 1) := by decide +kernel
theorem dX7_order_1 : decode cX7_order 1 = .ok (.iload_n 1, 1) := by decide +kernel
theorem dX7_order_2 : decode cX7_order 2 = .ok (.invokevirtual 168, 3) := by decide +kernel
theorem dX7_order_5 : decode cX7_order 5 = .ok (.astore 5, 2) := by decide +kernel
theorem dX7_order_7 : decode cX7_order 7 = .ok (.iload_n 2, 1) := by decide +kernel
theorem dX7_order_8 : decode cX7_order 8 = .ok (.iconst 1, 1) := by decide +kernel
theorem dX7_order_9 : decode cX7_order 9 = .ok (.bipush 8, 2) := by decide +kernel
theorem dX7_order_11 : decode cX7_order 11 = .ok (.invokestatic 46, 3) := by decide +kernel
theorem dX7_order_14 : decode cX7_order 14 = .ok (.iload_n 3, 1) := by decide +kernel
theorem dX7_order_15 : decode cX7_order 15 = .ok (.iconst 0, 1) := by decide +kernel
theorem dX7_order_16 : decode cX7_order 16 = .ok (.sipush 9999, 3) := by decide +kernel
theorem dX7_order_19 : decode cX7_order 19 = .ok (.invokestatic 46, 3) := by decide +kernel
theorem dX7_order_22 : decode cX7_order 22 = .ok (.iload 4, 2) := by decide +kernel
theorem dX7_order_24 : decode cX7_order 24 = .ok (.aload_n 0, 1) := by decide +kernel
theorem dX7_order_25 : decode cX7_order 25 = .ok (.getfield 39, 3) := by decide +kernel
theorem dX7_order_28 : decode cX7_order 28 = .ok (.iconst 1, 1) := by decide +kernel
theorem dX7_order_29 : decode cX7_order 29 = .ok (.iadd, 1) := by decide +kernel
theorem dX7_order_30 : decode cX7_order 30 = .ok (.sipush 960, 3) := by decide +kernel
theorem dX7_order_33 : decode cX7_order 33 = .ok (.invokestatic 46, 3) := by decide +kernel
theorem dX7_order_36 : decode cX7_order 36 = .ok (.aload_n 0, 1) := by decide +kernel
theorem dX7_order_37 : decode cX7_order 37 = .ok (.getfield 22, 3) := by decide +kernel
theorem dX7_order_40 : decode cX7_order 40 = .ok (.invokevirtual 61, 3) := by decide +kernel
theorem dX7_order_43 : decode cX7_order 43 = .ok (.bipush 12, 2) := by decide +kernel
theorem dX7_order_45 : decode cX7_order 45 = .ok (.if_icmp .lt 13, 3) := by decide +kernel
theorem dX7_order_48 : decode cX7_order 48 = .ok (.new 50, 3) := by decide +kernel
theorem dX7_order_51 : decode cX7_order 51 = .ok (.dup, 1) := by decide +kernel
theorem dX7_order_52 : decode cX7_order 52 = .ok (.ldc 254, 2) := by decide +kernel
theorem dX7_order_54 : decode cX7_order 54 = .ok (.invokespecial 54, 3) := by decide +kernel
theorem dX7_order_57 : decode cX7_order 57 = .ok (.athrow, 1) := by decide +kernel
theorem dX7_order_58 : decode cX7_order 58 = .ok (.aload_n 0, 1) := by decide +kernel
theorem dX7_order_59 : decode cX7_order 59 = .ok (.getfield 22, 3) := by decide +kernel
theorem dX7_order_62 : decode cX7_order 62 = .ok (.new 256, 3) := by decide +kernel
theorem dX7_order_65 : decode cX7_order 65 = .ok (.dup, 1) := by decide +kernel
theorem dX7_order_66 : decode cX7_order 66 = .ok (.aload 5, 2) := by decide +kernel
theorem dX7_order_68 : decode cX7_order 68 = .ok (.iload_n 2, 1) := by decide +kernel
theorem dX7_order_69 : decode cX7_order 69 = .ok (.iload_n 3, 1) := by decide +kernel
theorem dX7_order_70 : decode cX7_order 70 = .ok (.iload 4, 2) := by decide +kernel
theorem dX7_order_72 : decode cX7_order 72 = .ok (.invokespecial 258, 3) := by decide +kernel
theorem dX7_order_75 : decode cX7_order 75 = .ok (.invokevirtual 71, 3) := by decide +kernel
theorem dX7_order_78 : decode cX7_order 78 = .ok (.pop, 1) := by decide +kernel
theorem dX7_order_79 : decode cX7_order 79 = .ok (.aload_n 0, 1) := by decide +kernel
theorem dX7_order_80 : decode cX7_order 80 = .ok (.getfield 22, 3) := by decide +kernel
theorem dX7_order_83 : decode cX7_order 83 = .ok (.invokevirtual 61, 3) := by decide +kernel
theorem dX7_order_86 : decode cX7_order 86 = .ok (.iconst 1, 1) := by decide +kernel
theorem dX7_order_87 : decode cX7_order 87 = .ok (.isub, 1) := by decide +kernel
theorem dX7_order_88 : decode cX7_order 88 = .ok (.ireturn, 1) := by decide +kernel
set_option maxRecDepth 20000 in
theorem ggX7_cancel_X7_findOrder : GoodIn wsX7_cancel wsX7_findOrder := goodIn_ca (goodIn_r _ [6, 7, 8, 9, 10, 11, 12, 13, 14, 15, 16, 17, 18, 19, 20, 21, 22, 23, 24, 25, 26, 27, 28, 29, 30, 31, 32, 33, 49, 50, 51, 52, 53, 54, 55, 56, 57, 58, 59] (by decide +kernel) (by decide +kernel)) (goodIn_sub (fun _ h => List.mem_cons_of_mem _ (List.mem_append_left _ (List.mem_append_right _ h))) (by decide +kernel))
set_option maxRecDepth 20000 in
theorem gX7_cancel_X7_findOrder : GoodIn wsX7_cancel (wsV RX7 261 RX7 yX7_findOrder wsX7_findOrder) := goodIn_app (goodIn_of _ (by decide +kernel)) ggX7_cancel_X7_findOrder
set_option maxRecDepth 20000 in
theorem ggX7_cancel_X7_requireOpen : GoodIn wsX7_cancel wsX7_requireOpen := goodIn_ca (goodIn_r _ [36, 37, 38, 1, 43, 44, 45, 46, 47, 48] (by decide +kernel) (by decide +kernel)) (goodIn_sub (fun _ h => List.mem_cons_of_mem _ (List.mem_append_right _ h)) (by decide +kernel))
set_option maxRecDepth 20000 in
theorem gX7_cancel_X7_requireOpen : GoodIn wsX7_cancel (va_wsS RX7 265 yX7_requireOpen wsX7_requireOpen) := goodIn_app (goodIn_of _ (by decide +kernel)) ggX7_cancel_X7_requireOpen
set_option maxRecDepth 20000 in
theorem ggX7_cancel_X7_countOpenOrders : GoodIn wsX7_cancel wsX7_countOpenOrders := goodIn_r _ [42, 9, 10, 1, 11, 12, 13, 14, 15, 16, 17, 18, 19, 20, 21, 22, 23, 24, 25, 26, 27, 28, 29, 30, 31, 32, 33, 49, 50, 51, 52, 53, 54, 55, 56, 43, 44, 45, 46, 47, 48, 57, 58, 59] (by decide +kernel) (by decide +kernel)
set_option maxRecDepth 20000 in
theorem gX7_cancel_X7_countOpenOrders : GoodIn wsX7_cancel (wsV RX7 270 RX7 yX7_countOpenOrders wsX7_countOpenOrders) := goodIn_app (goodIn_of _ (by decide +kernel)) ggX7_cancel_X7_countOpenOrders
theorem dX7_cancel_0 : decode cX7_cancel 0 = .ok (.aload_n 0, 1) := by decide +kernel
theorem dX7_cancel_1 : decode cX7_cancel 1 = .ok (.iload_n 1, 1) := by decide +kernel
theorem dX7_cancel_2 : decode cX7_cancel 2 = .ok (.invokevirtual 261, 3) := by decide +kernel
theorem dX7_cancel_5 : decode cX7_cancel 5 = .ok (.astore_n 2, 1) := by decide +kernel
theorem dX7_cancel_6 : decode cX7_cancel 6 = .ok (.aload_n 2, 1) := by decide +kernel
theorem dX7_cancel_7 : decode cX7_cancel 7 = .ok (.invokestatic 265, 3) := by decide +kernel
theorem dX7_cancel_10 : decode cX7_cancel 10 = .ok (.aload_n 2, 1) := by decide +kernel
theorem dX7_cancel_11 : decode cX7_cancel 11 = .ok (.bipush 99, 2) := by decide +kernel
theorem dX7_cancel_13 : decode cX7_cancel 13 = .ok (.putfield 269, 3) := by decide +kernel
theorem dX7_cancel_16 : decode cX7_cancel 16 = .ok (.aload_n 0, 1) := by decide +kernel
theorem dX7_cancel_17 : decode cX7_cancel 17 = .ok (.invokevirtual 270, 3) := by decide +kernel
theorem dX7_cancel_20 : decode cX7_cancel 20 = .ok (.ireturn, 1) := by decide +kernel
set_option maxRecDepth 20000 in
theorem ggX7_candidates_X7_findOrder : GoodIn wsX7_candidates wsX7_findOrder := goodIn_ca (goodIn_r _ [5, 6, 7, 8, 9, 10, 11, 12, 13, 14, 15, 16, 17, 18, 19, 20, 21, 22, 23, 24, 25, 26, 27, 28, 29, 30, 31, 32, 54, 55, 56, 57, 58, 59, 60, 61, 62, 63, 64] (by decide +kernel) (by decide +kernel)) (goodIn_sub (fun _ h => List.mem_cons_of_mem _ (List.mem_append_right _ h)) (by decide +kernel))
set_option maxRecDepth 20000 in
theorem gX7_candidates_X7_findOrder : GoodIn wsX7_candidates (wsV RX7 261 RX7 yX7_findOrder wsX7_findOrder) := goodIn_app (goodIn_of _ (by decide +kernel)) ggX7_candidates_X7_findOrder
set_option maxRecDepth 20000 in
theorem ggX7_candidates_X7_countCandidates : GoodIn wsX7_candidates wsX7_countCandidates := goodIn_r _ [36, 37, 38, 10, 11, 12, 13, 14, 15, 16, 17, 18, 19, 20, 21, 22, 23, 24, 25, 26, 27, 28, 29, 30, 31, 32, 39, 40, 41, 42, 43, 44, 45, 46, 47, 48, 49, 50, 51, 52, 53, 54, 55, 56, 57, 58, 59, 60, 61, 62, 63, 64, 65, 66, 67, 68, 69, 70, 71, 72, 73, 74, 75, 76] (by decide +kernel) (by decide +kernel)
set_option maxRecDepth 20000 in
theorem gX7_candidates_X7_countCandidates : GoodIn wsX7_candidates (wsV RX7 273 RX7 yX7_countCandidates wsX7_countCandidates) := goodIn_app (goodIn_of _ (by decide +kernel)) ggX7_candidates_X7_countCandidates
theorem dX7_candidates_0 : decode cX7_candidates 0 = .ok (.aload_n 0, 1) := by decide +kernel
theorem dX7_candidates_1 : decode cX7_candidates 1 = .ok (.aload_n 0, 1) := by decide +kernel
theorem dX7_candidates_2 : decode cX7_candidates 2 = .ok (.iload_n 1, 1) := by decide +kernel
theorem dX7_candidates_3 : decode cX7_candidates 3 = .ok (.invokevirtual 261, 3) := by decide +kernel
theorem dX7_candidates_6 : decode cX7_candidates 6 = .ok (.invokevirtual 273, 3) := by decide +kernel
theorem dX7_candidates_9 : decode cX7_candidates 9 = .ok (.ireturn, 1) := by decide +kernel
set_option maxRecDepth 20000 in
theorem ggX7_candidateAt_X7_findOrder : GoodIn wsX7_candidateAt wsX7_findOrder := goodIn_ca (goodIn_r _ [8, 9, 10, 11, 12, 13, 14, 15, 16, 17, 18, 19, 20, 21, 22, 23, 24, 25, 26, 27, 28, 29, 30, 31, 32, 33, 34, 35, 77, 78, 79, 80, 81, 82, 83, 84, 85, 86, 87] (by decide +kernel) (by decide +kernel)) (goodIn_sub (fun _ h => List.mem_cons_of_mem _ (List.mem_append_right _ h)) (by decide +kernel))
set_option maxRecDepth 20000 in
theorem gX7_candidateAt_X7_findOrder : GoodIn wsX7_candidateAt (wsV RX7 261 RX7 yX7_findOrder wsX7_findOrder) := goodIn_app (goodIn_of _ (by decide +kernel)) ggX7_candidateAt_X7_findOrder
set_option maxRecDepth 20000 in
theorem ggX7_candidateAt_X7_countCandidates : GoodIn wsX7_candidateAt wsX7_countCandidates := goodIn_r _ [39, 40, 41, 13, 14, 15, 16, 17, 18, 19, 20, 21, 22, 23, 24, 25, 26, 27, 28, 29, 30, 31, 32, 33, 34, 35, 42, 43, 44, 45, 46, 47, 48, 49, 50, 51, 52, 53, 54, 55, 56, 77, 78, 79, 80, 81, 82, 83, 84, 85, 86, 87, 71, 72, 73, 74, 75, 76, 88, 89, 90, 91, 92, 93] (by decide +kernel) (by decide +kernel)
set_option maxRecDepth 20000 in
theorem gX7_candidateAt_X7_countCandidates : GoodIn wsX7_candidateAt (wsV RX7 273 RX7 yX7_countCandidates wsX7_countCandidates) := goodIn_app (goodIn_of _ (by decide +kernel)) ggX7_candidateAt_X7_countCandidates
set_option maxRecDepth 20000 in
theorem ggX7_candidateAt_X7_findCandidate : GoodIn wsX7_candidateAt wsX7_findCandidate := goodIn_r _ [60, 61, 62, 63, 7, 64, 40, 41, 13, 14, 15, 16, 17, 18, 19, 20, 21, 22, 23, 24, 25, 26, 27, 28, 29, 30, 31, 32, 33, 34, 35, 65, 66, 67, 54, 68, 69, 70, 42, 43, 44, 45, 46, 47, 48, 49, 50, 51, 52, 53, 55, 56, 77, 78, 79, 80, 81, 82, 83, 84, 85, 86, 87, 71, 72, 73, 74, 75, 76, 88, 89, 90, 91, 92, 93] (by decide +kernel) (by decide +kernel)
set_option maxRecDepth 20000 in
theorem gX7_candidateAt_X7_findCandidate : GoodIn wsX7_candidateAt (wsV RX7 277 RX7 yX7_findCandidate wsX7_findCandidate) := goodIn_app (goodIn_of _ (by decide +kernel)) ggX7_candidateAt_X7_findCandidate
theorem dX7_candidateAt_0 : decode cX7_candidateAt 0 = .ok (.aload_n 0, 1) := by decide +kernel
theorem dX7_candidateAt_1 : decode cX7_candidateAt 1 = .ok (.iload_n 1, 1) := by decide +kernel
theorem dX7_candidateAt_2 : decode cX7_candidateAt 2 = .ok (.invokevirtual 261, 3) := by decide +kernel
theorem dX7_candidateAt_5 : decode cX7_candidateAt 5 = .ok (.astore_n 3, 1) := by decide +kernel
theorem dX7_candidateAt_6 : decode cX7_candidateAt 6 = .ok (.aconst_null, 1) := by decide +kernel
theorem dX7_candidateAt_7 : decode cX7_candidateAt 7 = .ok (.astore 4, 2) := by decide +kernel
theorem dX7_candidateAt_9 : decode cX7_candidateAt 9 = .ok (.iload_n 2, 1) := by decide +kernel
theorem dX7_candidateAt_10 : decode cX7_candidateAt 10 = .ok (.ifCond .lt 20, 3) := by decide +kernel
theorem dX7_candidateAt_13 : decode cX7_candidateAt 13 = .ok (.iload_n 2, 1) := by decide +kernel
theorem dX7_candidateAt_14 : decode cX7_candidateAt 14 = .ok (.aload_n 0, 1) := by decide +kernel
theorem dX7_candidateAt_15 : decode cX7_candidateAt 15 = .ok (.aload_n 3, 1) := by decide +kernel
theorem dX7_candidateAt_16 : decode cX7_candidateAt 16 = .ok (.invokevirtual 273, 3) := by decide +kernel
theorem dX7_candidateAt_19 : decode cX7_candidateAt 19 = .ok (.if_icmp .ge 11, 3) := by decide +kernel
theorem dX7_candidateAt_22 : decode cX7_candidateAt 22 = .ok (.aload_n 0, 1) := by decide +kernel
theorem dX7_candidateAt_23 : decode cX7_candidateAt 23 = .ok (.aload_n 3, 1) := by decide +kernel
theorem dX7_candidateAt_24 : decode cX7_candidateAt 24 = .ok (.iload_n 2, 1) := by decide +kernel
theorem dX7_candidateAt_25 : decode cX7_candidateAt 25 = .ok (.invokevirtual 277, 3) := by decide +kernel
theorem dX7_candidateAt_28 : decode cX7_candidateAt 28 = .ok (.astore 4, 2) := by decide +kernel
theorem dX7_candidateAt_30 : decode cX7_candidateAt 30 = .ok (.aload 4, 2) := by decide +kernel
theorem dX7_candidateAt_32 : decode cX7_candidateAt 32 = .ok (.ifnonnull 14, 3) := by decide +kernel
theorem dX7_candidateAt_35 : decode cX7_candidateAt 35 = .ok (.new 110, 3) := by decide +kernel
theorem dX7_candidateAt_38 : decode cX7_candidateAt 38 = .ok (.dup, 1) := by decide +kernel
theorem dX7_candidateAt_39 : decode cX7_candidateAt 39 = .ok (.ldc_w 281, 3) := by decide +kernel
theorem dX7_candidateAt_42 : decode cX7_candidateAt 42 = .ok (.invokespecial 114, 3) := by decide +kernel
theorem dX7_candidateAt_45 : decode cX7_candidateAt 45 = .ok (.athrow, 1) := by decide +kernel
theorem dX7_candidateAt_46 : decode cX7_candidateAt 46 = .ok (.aload 4, 2) := by decide +kernel
theorem dX7_candidateAt_48 : decode cX7_candidateAt 48 = .ok (.getfield 248, 3) := by decide +kernel
theorem dX7_candidateAt_51 : decode cX7_candidateAt 51 = .ok (.ireturn, 1) := by decide +kernel
set_option maxRecDepth 20000 in
theorem ggX7_ship_X7_findOrder : GoodIn wsX7_ship wsX7_findOrder := goodIn_ca (goodIn_r _ [7, 8, 9, 10, 11, 12, 13, 14, 15, 16, 17, 18, 19, 20, 21, 22, 23, 24, 25, 26, 27, 28, 29, 30, 31, 32, 33, 34, 89, 90, 91, 92, 93, 94, 95, 96, 97, 98, 99] (by decide +kernel) (by decide +kernel)) (goodIn_sub (fun _ h => List.mem_cons_of_mem _ (List.mem_append_left _ (List.mem_append_right _ h))) (by decide +kernel))
set_option maxRecDepth 20000 in
theorem gX7_ship_X7_findOrder : GoodIn wsX7_ship (wsV RX7 261 RX7 yX7_findOrder wsX7_findOrder) := goodIn_app (goodIn_of _ (by decide +kernel)) ggX7_ship_X7_findOrder
set_option maxRecDepth 20000 in
theorem ggX7_ship_X7_requireOpen : GoodIn wsX7_ship wsX7_requireOpen := goodIn_ca (goodIn_r _ [37, 38, 39, 40, 100, 101, 102, 103, 104, 105] (by decide +kernel) (by decide +kernel)) (goodIn_sub (fun _ h => List.mem_cons_of_mem _ (List.mem_append_right _ h)) (by decide +kernel))
set_option maxRecDepth 20000 in
theorem gX7_ship_X7_requireOpen : GoodIn wsX7_ship (va_wsS RX7 265 yX7_requireOpen wsX7_requireOpen) := goodIn_app (goodIn_of _ (by decide +kernel)) ggX7_ship_X7_requireOpen
set_option maxRecDepth 20000 in
theorem ggX7_ship_X7_canBeShipped : GoodIn wsX7_ship wsX7_canBeShipped := goodIn_r _ [44, 45, 46, 47, 48, 6, 49, 50, 51, 12, 13, 14, 15, 16, 17, 18, 19, 20, 21, 22, 23, 24, 25, 26, 27, 28, 29, 30, 31, 32, 33, 34, 52, 53, 54, 55, 56, 57, 58, 59, 60, 61, 62, 63, 64, 65, 66, 100, 101, 102, 103, 104, 105, 89, 90, 91, 92, 93, 94, 95, 96, 97, 98, 99, 106, 107, 108, 109, 110, 111] (by decide +kernel) (by decide +kernel)
set_option maxRecDepth 20000 in
theorem gX7_ship_X7_canBeShipped : GoodIn wsX7_ship (wsV RX7 283 RX7 yX7_canBeShipped wsX7_canBeShipped) := goodIn_app (goodIn_of _ (by decide +kernel)) ggX7_ship_X7_canBeShipped
set_option maxRecDepth 20000 in
theorem ggX7_ship_X7_shipCandidates : GoodIn wsX7_ship wsX7_shipCandidates := goodIn_r _ [70, 45, 71, 72, 73, 40, 74, 75, 76, 6, 77, 50, 51, 12, 13, 14, 15, 16, 17, 18, 19, 20, 21, 22, 23, 24, 25, 26, 27, 28, 29, 30, 31, 32, 33, 34, 78, 79, 80, 64, 81, 82, 83, 52, 53, 54, 55, 56, 57, 58, 59, 60, 61, 62, 63, 65, 66, 84, 85, 86, 87, 88, 100, 101, 102, 103, 104, 105, 106, 107, 108, 109, 110, 111, 89, 90, 91, 92, 93, 94, 95, 96, 97, 98, 99] (by decide +kernel) (by decide +kernel)
set_option maxRecDepth 20000 in
theorem gX7_ship_X7_shipCandidates : GoodIn wsX7_ship (wsV RX7 292 RX7 yX7_shipCandidates wsX7_shipCandidates) := goodIn_app (goodIn_of _ (by decide +kernel)) ggX7_ship_X7_shipCandidates
theorem dX7_ship_0 : decode cX7_ship 0 = .ok (.aload_n 0, 1) := by decide +kernel
theorem dX7_ship_1 : decode cX7_ship 1 = .ok (.iload_n 1, 1) := by decide +kernel
theorem dX7_ship_2 : decode cX7_ship 2 = .ok (.invokevirtual 261, 3) := by decide +kernel
theorem dX7_ship_5 : decode cX7_ship 5 = .ok (.astore_n 2, 1) := by decide +kernel
theorem dX7_ship_6 : decode cX7_ship 6 = .ok (.aload_n 2, 1) := by decide +kernel
theorem dX7_ship_7 : decode cX7_ship 7 = .ok (.invokestatic 265, 3) := by decide +kernel
theorem dX7_ship_10 : decode cX7_ship 10 = .ok (.aload_n 0, 1) := by decide +kernel
theorem dX7_ship_11 : decode cX7_ship 11 = .ok (.aload_n 2, 1) := by decide +kernel
theorem dX7_ship_12 : decode cX7_ship 12 = .ok (.invokevirtual 283, 3) := by decide +kernel
theorem dX7_ship_15 : decode cX7_ship 15 = .ok (.ifCond .ne 14, 3) := by decide +kernel
theorem dX7_ship_18 : decode cX7_ship 18 = .ok (.new 287, 3) := by decide +kernel
theorem dX7_ship_21 : decode cX7_ship 21 = .ok (.dup, 1) := by decide +kernel
theorem dX7_ship_22 : decode cX7_ship 22 = .ok (.ldc_w 289, 3) := by decide +kernel
theorem dX7_ship_25 : decode cX7_ship 25 = .ok (.invokespecial 291, 3) := by decide +kernel
theorem dX7_ship_28 : decode cX7_ship 28 = .ok (.athrow, 1) := by decide +kernel
theorem dX7_ship_29 : decode cX7_ship 29 = .ok (.aload_n 0, 1) := by decide +kernel
theorem dX7_ship_30 : decode cX7_ship 30 = .ok (.aload_n 2, 1) := by decide +kernel
theorem dX7_ship_31 : decode cX7_ship 31 = .ok (.invokevirtual 292, 3) := by decide +kernel
theorem dX7_ship_34 : decode cX7_ship 34 = .ok (.ireturn, 1) := by decide +kernel
set_option maxRecDepth 20000 in
theorem ggX7_orderState_X7_findOrder : GoodIn wsX7_orderState wsX7_findOrder := goodIn_ca (goodIn_r _ [6, 7, 8, 9, 10, 11, 12, 13, 14, 15, 16, 17, 18, 19, 20, 21, 22, 23, 24, 25, 26, 27, 28, 29, 30, 31, 32, 33, 40, 41, 42, 43, 44, 45, 46, 47, 48, 49, 50] (by decide +kernel) (by decide +kernel)) (goodIn_sub (fun _ h => List.mem_cons_of_mem _ (List.mem_append_right _ h)) (by decide +kernel))
set_option maxRecDepth 20000 in
theorem gX7_orderState_X7_findOrder : GoodIn wsX7_orderState (wsV RX7 261 RX7 yX7_findOrder wsX7_findOrder) := goodIn_app (goodIn_of _ (by decide +kernel)) ggX7_orderState_X7_findOrder
theorem dX7_orderState_0 : decode cX7_orderState 0 = .ok (.aload_n 0, 1) := by decide +kernel
theorem dX7_orderState_1 : decode cX7_orderState 1 = .ok (.iload_n 1, 1) := by decide +kernel
theorem dX7_orderState_2 : decode cX7_orderState 2 = .ok (.invokevirtual 261, 3) := by decide +kernel
theorem dX7_orderState_5 : decode cX7_orderState 5 = .ok (.getfield 269, 3) := by decide +kernel
theorem dX7_orderState_8 : decode cX7_orderState 8 = .ok (.ireturn, 1) := by decide +kernel
set_option maxRecDepth 20000 in
theorem ggX7_leastShipped_X7_findOrder : GoodIn wsX7_leastShipped wsX7_findOrder := goodIn_ca (goodIn_r _ [9, 10, 11, 12, 13, 14, 15, 16, 17, 18, 19, 20, 21, 22, 23, 24, 25, 26, 27, 28, 29, 30, 31, 32, 33, 34, 35, 36, 43, 44, 45, 46, 47, 48, 49, 50, 51, 52, 53] (by decide +kernel) (by decide +kernel)) (goodIn_sub (fun _ h => List.mem_cons_of_mem _ (List.mem_append_right _ h)) (by decide +kernel))
set_option maxRecDepth 20000 in
theorem gX7_leastShipped_X7_findOrder : GoodIn wsX7_leastShipped (wsV RX7 261 RX7 yX7_findOrder wsX7_findOrder) := goodIn_app (goodIn_of _ (by decide +kernel)) ggX7_leastShipped_X7_findOrder
theorem dX7_leastShipped_0 : decode cX7_leastShipped 0 = .ok (.aload_n 0, 1) := by decide +kernel
theorem dX7_leastShipped_1 : decode cX7_leastShipped 1 = .ok (.iload_n 1, 1) := by decide +kernel
theorem dX7_leastShipped_2 : decode cX7_leastShipped 2 = .ok (.invokevirtual 261, 3) := by decide +kernel
theorem dX7_leastShipped_5 : decode cX7_leastShipped 5 = .ok (.astore_n 2, 1) := by decide +kernel
theorem dX7_leastShipped_6 : decode cX7_leastShipped 6 = .ok (.aload_n 2, 1) := by decide +kernel
theorem dX7_leastShipped_7 : decode cX7_leastShipped 7 = .ok (.getfield 269, 3) := by decide +kernel
theorem dX7_leastShipped_10 : decode cX7_leastShipped 10 = .ok (.bipush 115, 2) := by decide +kernel
theorem dX7_leastShipped_12 : decode cX7_leastShipped 12 = .ok (.if_icmp .eq 14, 3) := by decide +kernel
theorem dX7_leastShipped_15 : decode cX7_leastShipped 15 = .ok (.new 110, 3) := by decide +kernel
theorem dX7_leastShipped_18 : decode cX7_leastShipped 18 = .ok (.dup, 1) := by decide +kernel
theorem dX7_leastShipped_19 : decode cX7_leastShipped 19 = .ok (.ldc_w 295, 3) := by decide +kernel
theorem dX7_leastShipped_22 : decode cX7_leastShipped 22 = .ok (.invokespecial 114, 3) := by decide +kernel
theorem dX7_leastShipped_25 : decode cX7_leastShipped 25 = .ok (.athrow, 1) := by decide +kernel
theorem dX7_leastShipped_26 : decode cX7_leastShipped 26 = .ok (.aload_n 2, 1) := by decide +kernel
theorem dX7_leastShipped_27 : decode cX7_leastShipped 27 = .ok (.getfield 297, 3) := by decide +kernel
theorem dX7_leastShipped_30 : decode cX7_leastShipped 30 = .ok (.ireturn, 1) := by decide +kernel
set_option maxRecDepth 20000 in
theorem ggX7_isConsistent_X7_isMeterConsistent : GoodIn wsX7_isConsistent wsX7_isMeterConsistent := goodIn_ca (goodIn_r _ [5, 6, 7, 8, 9, 10, 11, 12, 4, 13, 14, 15, 16, 17, 18, 19, 20, 21, 22, 23, 24, 25, 26, 27, 28, 29, 30, 31, 32, 33, 34, 35, 128, 129, 130, 131, 132, 133, 134, 135, 136, 137, 138, 139, 140, 141, 142, 143, 144, 145, 146] (by decide +kernel) (by decide +kernel)) (goodIn_sub (fun _ h => List.mem_cons_of_mem _ (List.mem_append_right _ h)) (by decide +kernel))
set_option maxRecDepth 20000 in
theorem gX7_isConsistent_X7_isMeterConsistent : GoodIn wsX7_isConsistent (wsV RX7 300 RX7 yX7_isMeterConsistent wsX7_isMeterConsistent) := goodIn_app (goodIn_of _ (by decide +kernel)) ggX7_isConsistent_X7_isMeterConsistent
set_option maxRecDepth 20000 in
theorem ggX7_isConsistent_X7_areRoomsConsistent : GoodIn wsX7_isConsistent wsX7_areRoomsConsistent := goodIn_r _ [39, 40, 41, 42, 43, 44, 45, 46, 6, 47, 48, 49, 50, 51, 52, 53, 54, 55, 56, 57, 58, 59, 60, 61, 62, 63, 64, 65, 66, 67, 68, 69, 70, 71, 72, 4, 73, 74, 75, 76, 77, 78, 79, 80, 81, 82, 83, 128, 129, 130, 131, 132, 133, 134, 135, 147, 148, 149, 150, 151, 152, 153, 154, 155, 156, 157, 158, 159, 160, 161, 162, 163, 164, 165, 166, 167, 168, 169, 170, 171, 172, 173, 174, 175] (by decide +kernel) (by decide +kernel)
set_option maxRecDepth 20000 in
theorem gX7_isConsistent_X7_areRoomsConsistent : GoodIn wsX7_isConsistent (wsV RX7 303 RX7 yX7_areRoomsConsistent wsX7_areRoomsConsistent) := goodIn_app (goodIn_of _ (by decide +kernel)) ggX7_isConsistent_X7_areRoomsConsistent
set_option maxRecDepth 20000 in
theorem ggX7_isConsistent_X7_arePalletsConsistent : GoodIn wsX7_isConsistent wsX7_arePalletsConsistent := goodIn_ca (goodIn_r _ [87, 74, 75, 88, 89, 90, 91, 6, 92, 47, 48, 49, 50, 51, 52, 53, 54, 55, 56, 57, 58, 59, 60, 61, 62, 63, 64, 65, 66, 67, 68, 69, 93, 94, 95, 81, 96, 97, 98, 99, 100, 101, 102, 103, 104, 33, 34, 35, 105, 79, 80, 82, 83, 106, 107, 108, 109, 110, 111, 112, 113, 114, 115, 116, 117, 118, 119, 128, 129, 130, 131, 132, 133, 134, 135, 167, 168, 169, 170, 171, 172, 176, 177, 178, 164, 165, 166, 173, 174, 175, 147, 148, 149, 150, 151, 152, 153, 154, 155, 156, 157, 158, 159, 160, 161, 162, 163] (by decide +kernel) (by decide +kernel)) (goodIn_sub (fun _ h => List.mem_cons_of_mem _ (List.mem_append_right _ h)) (by decide +kernel))
set_option maxRecDepth 20000 in
theorem gX7_isConsistent_X7_arePalletsConsistent : GoodIn wsX7_isConsistent (wsV RX7 306 RX7 yX7_arePalletsConsistent wsX7_arePalletsConsistent) := goodIn_app (goodIn_of _ (by decide +kernel)) ggX7_isConsistent_X7_arePalletsConsistent
set_option maxRecDepth 20000 in
theorem ggX7_isConsistent_X7_areOrdersConsistent : GoodIn wsX7_isConsistent wsX7_areOrdersConsistent := goodIn_r _ [123, 124, 125, 126, 127, 6, 47, 48, 49, 50, 51, 52, 53, 54, 55, 56, 57, 58, 59, 60, 61, 62, 63, 64, 65, 66, 67, 68, 69, 128, 129, 130, 131, 132, 133, 134, 135, 179, 180, 181, 182, 183, 184, 164, 165, 166] (by decide +kernel) (by decide +kernel)
set_option maxRecDepth 20000 in
theorem gX7_isConsistent_X7_areOrdersConsistent : GoodIn wsX7_isConsistent (wsV RX7 309 RX7 yX7_areOrdersConsistent wsX7_areOrdersConsistent) := goodIn_app (goodIn_of _ (by decide +kernel)) ggX7_isConsistent_X7_areOrdersConsistent
theorem dX7_isConsistent_0 : decode cX7_isConsistent 0 = .ok (.aload_n 0, 1) := by decide +kernel
theorem dX7_isConsistent_1 : decode cX7_isConsistent 1 = .ok (.invokevirtual 300, 3) := by decide +kernel
theorem dX7_isConsistent_4 : decode cX7_isConsistent 4 = .ok (.ifCond .eq 28, 3) := by decide +kernel
theorem dX7_isConsistent_7 : decode cX7_isConsistent 7 = .ok (.aload_n 0, 1) := by decide +kernel
theorem dX7_isConsistent_8 : decode cX7_isConsistent 8 = .ok (.invokevirtual 303, 3) := by decide +kernel
theorem dX7_isConsistent_11 : decode cX7_isConsistent 11 = .ok (.ifCond .eq 21, 3) := by decide +kernel
theorem dX7_isConsistent_14 : decode cX7_isConsistent 14 = .ok (.aload_n 0, 1) := by decide +kernel
theorem dX7_isConsistent_15 : decode cX7_isConsistent 15 = .ok (.invokevirtual 306, 3) := by decide +kernel
theorem dX7_isConsistent_18 : decode cX7_isConsistent 18 = .ok (.ifCond .eq 14, 3) := by decide +kernel
theorem dX7_isConsistent_21 : decode cX7_isConsistent 21 = .ok (.aload_n 0, 1) := by decide +kernel
theorem dX7_isConsistent_22 : decode cX7_isConsistent 22 = .ok (.invokevirtual 309, 3) := by decide +kernel
theorem dX7_isConsistent_25 : decode cX7_isConsistent 25 = .ok (.ifCond .eq 7, 3) := by decide +kernel
theorem dX7_isConsistent_28 : decode cX7_isConsistent 28 = .ok (.iconst 1, 1) := by decide +kernel
theorem dX7_isConsistent_29 : decode cX7_isConsistent 29 = .ok (.goto 4, 3) := by decide +kernel
theorem dX7_isConsistent_32 : decode cX7_isConsistent 32 = .ok (.iconst 0, 1) := by decide +kernel
theorem dX7_isConsistent_33 : decode cX7_isConsistent 33 = .ok (.ireturn, 1) := by decide +kernel
theorem dX7_requireRange_0 : decode cX7_requireRange 0 = .ok (.iload_n 0, 1) := by decide +kernel
theorem dX7_requireRange_1 : decode cX7_requireRange 1 = .ok (.iload_n 1, 1) := by decide +kernel
theorem dX7_requireRange_2 : decode cX7_requireRange 2 = .ok (.if_icmp .lt 8, 3) := by decide +kernel
theorem dX7_requireRange_5 : decode cX7_requireRange 5 = .ok (.iload_n 0, 1) := by decide +kernel
theorem dX7_requireRange_6 : decode cX7_requireRange 6 = .ok (.iload_n 2, 1) := by decide +kernel
theorem dX7_requireRange_7 : decode cX7_requireRange 7 = .ok (.if_icmp .le 14, 3) := by decide +kernel
theorem dX7_requireRange_10 : decode cX7_requireRange 10 = .ok (.new 85, 3) := by decide +kernel
theorem dX7_requireRange_13 : decode cX7_requireRange 13 = .ok (.dup, 1) := by decide +kernel
theorem dX7_requireRange_14 : decode cX7_requireRange 14 = .ok (.ldc_w 312, 3) := by decide +kernel
theorem dX7_requireRange_17 : decode cX7_requireRange 17 = .ok (.invokespecial 89, 3) := by decide +kernel
theorem dX7_requireRange_20 : decode cX7_requireRange 20 = .ok (.athrow, 1) := by decide +kernel
theorem dX7_requireRange_21 : decode cX7_requireRange 21 = .ok (.return_, 1) := by decide +kernel
set_option maxRecDepth 20000 in
theorem ggX7_findRoom_Jx4a65c_size_8abf5 : GoodIn wsX7_findRoom wsJx4a65c_size_8abf5 := goodIn_r _ [9, 10, 36, 37, 38] (by decide +kernel) (by decide +kernel)
set_option maxRecDepth 20000 in
theorem gX7_findRoom_Jx4a65c_size_8abf5 : GoodIn wsX7_findRoom (wsV RX7 61 RJx4a65c yJx4a65c_size_8abf5 wsJx4a65c_size_8abf5) := goodIn_app (goodIn_of _ (by decide +kernel)) ggX7_findRoom_Jx4a65c_size_8abf5
set_option maxRecDepth 20000 in
theorem ggX7_findRoom_Jx4a65c_get_915e3 : GoodIn wsX7_findRoom wsJx4a65c_get_915e3 := goodIn_r _ [14, 10, 15, 16, 17, 18, 19, 20, 21, 22, 23, 24, 25, 8, 26, 27, 36, 37, 38] (by decide +kernel) (by decide +kernel)
set_option maxRecDepth 20000 in
theorem gX7_findRoom_Jx4a65c_get_915e3 : GoodIn wsX7_findRoom (wsV RX7 234 RJx4a65c yJx4a65c_get_915e3 wsJx4a65c_get_915e3) := goodIn_app (goodIn_of _ (by decide +kernel)) ggX7_findRoom_Jx4a65c_get_915e3
theorem dX7_findRoom_0 : decode cX7_findRoom 0 = .ok (.iload_n 1, 1) := by decide +kernel
theorem dX7_findRoom_1 : decode cX7_findRoom 1 = .ok (.ifCond .lt 14, 3) := by decide +kernel
theorem dX7_findRoom_4 : decode cX7_findRoom 4 = .ok (.iload_n 1, 1) := by decide +kernel
theorem dX7_findRoom_5 : decode cX7_findRoom 5 = .ok (.aload_n 0, 1) := by decide +kernel
theorem dX7_findRoom_6 : decode cX7_findRoom 6 = .ok (.getfield 10, 3) := by decide +kernel
theorem dX7_findRoom_9 : decode cX7_findRoom 9 = .ok (.invokevirtual 61, 3) := by decide +kernel
theorem dX7_findRoom_12 : decode cX7_findRoom 12 = .ok (.if_icmp .lt 14, 3) := by decide +kernel
theorem dX7_findRoom_15 : decode cX7_findRoom 15 = .ok (.new 314, 3) := by decide +kernel
theorem dX7_findRoom_18 : decode cX7_findRoom 18 = .ok (.dup, 1) := by decide +kernel
theorem dX7_findRoom_19 : decode cX7_findRoom 19 = .ok (.ldc_w 316, 3) := by decide +kernel
theorem dX7_findRoom_22 : decode cX7_findRoom 22 = .ok (.invokespecial 318, 3) := by decide +kernel
theorem dX7_findRoom_25 : decode cX7_findRoom 25 = .ok (.athrow, 1) := by decide +kernel
theorem dX7_findRoom_26 : decode cX7_findRoom 26 = .ok (.aload_n 0, 1) := by decide +kernel
theorem dX7_findRoom_27 : decode cX7_findRoom 27 = .ok (.getfield 10, 3) := by decide +kernel
theorem dX7_findRoom_30 : decode cX7_findRoom 30 = .ok (.iload_n 1, 1) := by decide +kernel
theorem dX7_findRoom_31 : decode cX7_findRoom 31 = .ok (.invokevirtual 234, 3) := by decide +kernel
theorem dX7_findRoom_34 : decode cX7_findRoom 34 = .ok (.checkcast 66, 3) := by decide +kernel
theorem dX7_findRoom_37 : decode cX7_findRoom 37 = .ok (.areturn, 1) := by decide +kernel
set_option maxRecDepth 20000 in
theorem ggX7_findKind_Jx4a65c_size_8abf5 : GoodIn wsX7_findKind wsJx4a65c_size_8abf5 := goodIn_r _ [9, 10, 36, 37, 38] (by decide +kernel) (by decide +kernel)
set_option maxRecDepth 20000 in
theorem gX7_findKind_Jx4a65c_size_8abf5 : GoodIn wsX7_findKind (wsV RX7 61 RJx4a65c yJx4a65c_size_8abf5 wsJx4a65c_size_8abf5) := goodIn_app (goodIn_of _ (by decide +kernel)) ggX7_findKind_Jx4a65c_size_8abf5
set_option maxRecDepth 20000 in
theorem ggX7_findKind_Jx4a65c_get_915e3 : GoodIn wsX7_findKind wsJx4a65c_get_915e3 := goodIn_r _ [14, 10, 15, 16, 17, 18, 19, 20, 21, 22, 23, 24, 25, 8, 26, 27, 36, 37, 38] (by decide +kernel) (by decide +kernel)
set_option maxRecDepth 20000 in
theorem gX7_findKind_Jx4a65c_get_915e3 : GoodIn wsX7_findKind (wsV RX7 234 RJx4a65c yJx4a65c_get_915e3 wsJx4a65c_get_915e3) := goodIn_app (goodIn_of _ (by decide +kernel)) ggX7_findKind_Jx4a65c_get_915e3
theorem dX7_findKind_0 : decode cX7_findKind 0 = .ok (.iload_n 1, 1) := by decide +kernel
theorem dX7_findKind_1 : decode cX7_findKind 1 = .ok (.ifCond .lt 14, 3) := by decide +kernel
theorem dX7_findKind_4 : decode cX7_findKind 4 = .ok (.iload_n 1, 1) := by decide +kernel
theorem dX7_findKind_5 : decode cX7_findKind 5 = .ok (.aload_n 0, 1) := by decide +kernel
theorem dX7_findKind_6 : decode cX7_findKind 6 = .ok (.getfield 16, 3) := by decide +kernel
theorem dX7_findKind_9 : decode cX7_findKind 9 = .ok (.invokevirtual 61, 3) := by decide +kernel
theorem dX7_findKind_12 : decode cX7_findKind 12 = .ok (.if_icmp .lt 14, 3) := by decide +kernel
theorem dX7_findKind_15 : decode cX7_findKind 15 = .ok (.new 314, 3) := by decide +kernel
theorem dX7_findKind_18 : decode cX7_findKind 18 = .ok (.dup, 1) := by decide +kernel
theorem dX7_findKind_19 : decode cX7_findKind 19 = .ok (.ldc_w 319, 3) := by decide +kernel
theorem dX7_findKind_22 : decode cX7_findKind 22 = .ok (.invokespecial 318, 3) := by decide +kernel
theorem dX7_findKind_25 : decode cX7_findKind 25 = .ok (.athrow, 1) := by decide +kernel
theorem dX7_findKind_26 : decode cX7_findKind 26 = .ok (.aload_n 0, 1) := by decide +kernel
theorem dX7_findKind_27 : decode cX7_findKind 27 = .ok (.getfield 16, 3) := by decide +kernel
theorem dX7_findKind_30 : decode cX7_findKind 30 = .ok (.iload_n 1, 1) := by decide +kernel
theorem dX7_findKind_31 : decode cX7_findKind 31 = .ok (.invokevirtual 234, 3) := by decide +kernel
theorem dX7_findKind_34 : decode cX7_findKind 34 = .ok (.checkcast 164, 3) := by decide +kernel
theorem dX7_findKind_37 : decode cX7_findKind 37 = .ok (.areturn, 1) := by decide +kernel
set_option maxRecDepth 20000 in
theorem ggX7_findPallet_Jx4a65c_size_8abf5 : GoodIn wsX7_findPallet wsJx4a65c_size_8abf5 := goodIn_r _ [9, 10, 36, 37, 38] (by decide +kernel) (by decide +kernel)
set_option maxRecDepth 20000 in
theorem gX7_findPallet_Jx4a65c_size_8abf5 : GoodIn wsX7_findPallet (wsV RX7 61 RJx4a65c yJx4a65c_size_8abf5 wsJx4a65c_size_8abf5) := goodIn_app (goodIn_of _ (by decide +kernel)) ggX7_findPallet_Jx4a65c_size_8abf5
set_option maxRecDepth 20000 in
theorem ggX7_findPallet_Jx4a65c_get_915e3 : GoodIn wsX7_findPallet wsJx4a65c_get_915e3 := goodIn_r _ [14, 10, 15, 16, 17, 18, 19, 20, 21, 22, 23, 24, 25, 8, 26, 27, 36, 37, 38] (by decide +kernel) (by decide +kernel)
set_option maxRecDepth 20000 in
theorem gX7_findPallet_Jx4a65c_get_915e3 : GoodIn wsX7_findPallet (wsV RX7 234 RJx4a65c yJx4a65c_get_915e3 wsJx4a65c_get_915e3) := goodIn_app (goodIn_of _ (by decide +kernel)) ggX7_findPallet_Jx4a65c_get_915e3
theorem dX7_findPallet_0 : decode cX7_findPallet 0 = .ok (.iload_n 1, 1) := by decide +kernel
theorem dX7_findPallet_1 : decode cX7_findPallet 1 = .ok (.ifCond .lt 14, 3) := by decide +kernel
theorem dX7_findPallet_4 : decode cX7_findPallet 4 = .ok (.iload_n 1, 1) := by decide +kernel
theorem dX7_findPallet_5 : decode cX7_findPallet 5 = .ok (.aload_n 0, 1) := by decide +kernel
theorem dX7_findPallet_6 : decode cX7_findPallet 6 = .ok (.getfield 19, 3) := by decide +kernel
theorem dX7_findPallet_9 : decode cX7_findPallet 9 = .ok (.invokevirtual 61, 3) := by decide +kernel
theorem dX7_findPallet_12 : decode cX7_findPallet 12 = .ok (.if_icmp .lt 14, 3) := by decide +kernel
theorem dX7_findPallet_15 : decode cX7_findPallet 15 = .ok (.new 314, 3) := by decide +kernel
theorem dX7_findPallet_18 : decode cX7_findPallet 18 = .ok (.dup, 1) := by decide +kernel
theorem dX7_findPallet_19 : decode cX7_findPallet 19 = .ok (.ldc_w 321, 3) := by decide +kernel
theorem dX7_findPallet_22 : decode cX7_findPallet 22 = .ok (.invokespecial 318, 3) := by decide +kernel
theorem dX7_findPallet_25 : decode cX7_findPallet 25 = .ok (.athrow, 1) := by decide +kernel
theorem dX7_findPallet_26 : decode cX7_findPallet 26 = .ok (.aload_n 0, 1) := by decide +kernel
theorem dX7_findPallet_27 : decode cX7_findPallet 27 = .ok (.getfield 19, 3) := by decide +kernel
theorem dX7_findPallet_30 : decode cX7_findPallet 30 = .ok (.iload_n 1, 1) := by decide +kernel
theorem dX7_findPallet_31 : decode cX7_findPallet 31 = .ok (.invokevirtual 234, 3) := by decide +kernel
theorem dX7_findPallet_34 : decode cX7_findPallet 34 = .ok (.checkcast 178, 3) := by decide +kernel
theorem dX7_findPallet_37 : decode cX7_findPallet 37 = .ok (.areturn, 1) := by decide +kernel
set_option maxRecDepth 20000 in
theorem ggX7_findOrder_Jx4a65c_size_8abf5 : GoodIn wsX7_findOrder wsJx4a65c_size_8abf5 := goodIn_r _ [9, 10, 36, 37, 38] (by decide +kernel) (by decide +kernel)
set_option maxRecDepth 20000 in
theorem gX7_findOrder_Jx4a65c_size_8abf5 : GoodIn wsX7_findOrder (wsV RX7 61 RJx4a65c yJx4a65c_size_8abf5 wsJx4a65c_size_8abf5) := goodIn_app (goodIn_of _ (by decide +kernel)) ggX7_findOrder_Jx4a65c_size_8abf5
set_option maxRecDepth 20000 in
theorem ggX7_findOrder_Jx4a65c_get_915e3 : GoodIn wsX7_findOrder wsJx4a65c_get_915e3 := goodIn_r _ [14, 10, 15, 16, 17, 18, 19, 20, 21, 22, 23, 24, 25, 8, 26, 27, 36, 37, 38] (by decide +kernel) (by decide +kernel)
set_option maxRecDepth 20000 in
theorem gX7_findOrder_Jx4a65c_get_915e3 : GoodIn wsX7_findOrder (wsV RX7 234 RJx4a65c yJx4a65c_get_915e3 wsJx4a65c_get_915e3) := goodIn_app (goodIn_of _ (by decide +kernel)) ggX7_findOrder_Jx4a65c_get_915e3
theorem dX7_findOrder_0 : decode cX7_findOrder 0 = .ok (.iload_n 1, 1) := by decide +kernel
theorem dX7_findOrder_1 : decode cX7_findOrder 1 = .ok (.ifCond .lt 14, 3) := by decide +kernel
theorem dX7_findOrder_4 : decode cX7_findOrder 4 = .ok (.iload_n 1, 1) := by decide +kernel
theorem dX7_findOrder_5 : decode cX7_findOrder 5 = .ok (.aload_n 0, 1) := by decide +kernel
theorem dX7_findOrder_6 : decode cX7_findOrder 6 = .ok (.getfield 22, 3) := by decide +kernel
theorem dX7_findOrder_9 : decode cX7_findOrder 9 = .ok (.invokevirtual 61, 3) := by decide +kernel
theorem dX7_findOrder_12 : decode cX7_findOrder 12 = .ok (.if_icmp .lt 14, 3) := by decide +kernel
theorem dX7_findOrder_15 : decode cX7_findOrder 15 = .ok (.new 314, 3) := by decide +kernel
theorem dX7_findOrder_18 : decode cX7_findOrder 18 = .ok (.dup, 1) := by decide +kernel
theorem dX7_findOrder_19 : decode cX7_findOrder 19 = .ok (.ldc_w 323, 3) := by decide +kernel
theorem dX7_findOrder_22 : decode cX7_findOrder 22 = .ok (.invokespecial 318, 3) := by decide +kernel
theorem dX7_findOrder_25 : decode cX7_findOrder 25 = .ok (.athrow, 1) := by decide +kernel
theorem dX7_findOrder_26 : decode cX7_findOrder 26 = .ok (.aload_n 0, 1) := by decide +kernel
theorem dX7_findOrder_27 : decode cX7_findOrder 27 = .ok (.getfield 22, 3) := by decide +kernel
theorem dX7_findOrder_30 : decode cX7_findOrder 30 = .ok (.iload_n 1, 1) := by decide +kernel
theorem dX7_findOrder_31 : decode cX7_findOrder 31 = .ok (.invokevirtual 234, 3) := by decide +kernel
theorem dX7_findOrder_34 : decode cX7_findOrder 34 = .ok (.checkcast 256, 3) := by decide +kernel
theorem dX7_findOrder_37 : decode cX7_findOrder 37 = .ok (.areturn, 1) := by decide +kernel
set_option maxRecDepth 20000 in
theorem ggX7_requireSpace_X7_spaceIn : GoodIn wsX7_requireSpace wsX7_spaceIn := goodIn_r _ [7, 8, 9, 10, 11, 12, 13, 14, 15, 16, 17, 18, 19, 20, 21, 22, 23, 24, 25, 26, 27, 28, 29, 30, 31, 32, 33, 34, 35, 36, 37, 38, 39, 40, 41, 42, 43, 44, 45, 46, 47, 48, 49, 50, 51, 52, 53, 54, 55, 56, 57, 58, 59, 60] (by decide +kernel) (by decide +kernel)
set_option maxRecDepth 20000 in
theorem gX7_requireSpace_X7_spaceIn : GoodIn wsX7_requireSpace (wsV RX7 124 RX7 yX7_spaceIn wsX7_spaceIn) := goodIn_app (goodIn_of _ (by decide +kernel)) ggX7_requireSpace_X7_spaceIn
theorem dX7_requireSpace_0 : decode cX7_requireSpace 0 = .ok (.aload_n 0, 1) := by decide +kernel
theorem dX7_requireSpace_1 : decode cX7_requireSpace 1 = .ok (.aload_n 1, 1) := by decide +kernel
theorem dX7_requireSpace_2 : decode cX7_requireSpace 2 = .ok (.invokevirtual 124, 3) := by decide +kernel
theorem dX7_requireSpace_5 : decode cX7_requireSpace 5 = .ok (.ifCond .gt 14, 3) := by decide +kernel
theorem dX7_requireSpace_8 : decode cX7_requireSpace 8 = .ok (.new 50, 3) := by decide +kernel
theorem dX7_requireSpace_11 : decode cX7_requireSpace 11 = .ok (.dup, 1) := by decide +kernel
theorem dX7_requireSpace_12 : decode cX7_requireSpace 12 = .ok (.ldc_w 325, 3) := by decide +kernel
theorem dX7_requireSpace_15 : decode cX7_requireSpace 15 = .ok (.invokespecial 54, 3) := by decide +kernel
theorem dX7_requireSpace_18 : decode cX7_requireSpace 18 = .ok (.athrow, 1) := by decide +kernel
theorem dX7_requireSpace_19 : decode cX7_requireSpace 19 = .ok (.return_, 1) := by decide +kernel
set_option maxRecDepth 20000 in
theorem ggX7_requireInRoom_X4_isInRoom : GoodIn wsX7_requireInRoom wsX4_isInRoom := goodIn_r _ [7, 8, 9, 10, 11, 12, 13, 14] (by decide +kernel) (by decide +kernel)
set_option maxRecDepth 20000 in
theorem gX7_requireInRoom_X4_isInRoom : GoodIn wsX7_requireInRoom (wsV RX7 238 RX4 yX4_isInRoom wsX4_isInRoom) := goodIn_app (goodIn_of _ (by decide +kernel)) ggX7_requireInRoom_X4_isInRoom
theorem dX7_requireInRoom_0 : decode cX7_requireInRoom 0 = .ok (.aload_n 0, 1) := by decide +kernel
theorem dX7_requireInRoom_1 : decode cX7_requireInRoom 1 = .ok (.invokevirtual 238, 3) := by decide +kernel
theorem dX7_requireInRoom_4 : decode cX7_requireInRoom 4 = .ok (.ifCond .ne 14, 3) := by decide +kernel
theorem dX7_requireInRoom_7 : decode cX7_requireInRoom 7 = .ok (.new 110, 3) := by decide +kernel
theorem dX7_requireInRoom_10 : decode cX7_requireInRoom 10 = .ok (.dup, 1) := by decide +kernel
theorem dX7_requireInRoom_11 : decode cX7_requireInRoom 11 = .ok (.ldc_w 327, 3) := by decide +kernel
theorem dX7_requireInRoom_14 : decode cX7_requireInRoom 14 = .ok (.invokespecial 114, 3) := by decide +kernel
theorem dX7_requireInRoom_17 : decode cX7_requireInRoom 17 = .ok (.athrow, 1) := by decide +kernel
theorem dX7_requireInRoom_18 : decode cX7_requireInRoom 18 = .ok (.return_, 1) := by decide +kernel
theorem dX7_requireOpen_0 : decode cX7_requireOpen 0 = .ok (.aload_n 0, 1) := by decide +kernel
theorem dX7_requireOpen_1 : decode cX7_requireOpen 1 = .ok (.getfield 269, 3) := by decide +kernel
theorem dX7_requireOpen_4 : decode cX7_requireOpen 4 = .ok (.bipush 111, 2) := by decide +kernel
theorem dX7_requireOpen_6 : decode cX7_requireOpen 6 = .ok (.if_icmp .eq 14, 3) := by decide +kernel
theorem dX7_requireOpen_9 : decode cX7_requireOpen 9 = .ok (.new 50, 3) := by decide +kernel
theorem dX7_requireOpen_12 : decode cX7_requireOpen 12 = .ok (.dup, 1) := by decide +kernel
theorem dX7_requireOpen_13 : decode cX7_requireOpen 13 = .ok (.ldc_w 329, 3) := by decide +kernel
theorem dX7_requireOpen_16 : decode cX7_requireOpen 16 = .ok (.invokespecial 54, 3) := by decide +kernel
theorem dX7_requireOpen_19 : decode cX7_requireOpen 19 = .ok (.athrow, 1) := by decide +kernel
theorem dX7_requireOpen_20 : decode cX7_requireOpen 20 = .ok (.return_, 1) := by decide +kernel
set_option maxRecDepth 20000 in
theorem ggX7_passOneTick_Jx4a65c_size_8abf5 : GoodIn wsX7_passOneTick wsJx4a65c_size_8abf5 := goodIn_r _ [13, 14, 188, 189, 190] (by decide +kernel) (by decide +kernel)
set_option maxRecDepth 20000 in
theorem gX7_passOneTick_Jx4a65c_size_8abf5 : GoodIn wsX7_passOneTick (wsV RX7 61 RJx4a65c yJx4a65c_size_8abf5 wsJx4a65c_size_8abf5) := goodIn_app (goodIn_of _ (by decide +kernel)) ggX7_passOneTick_Jx4a65c_size_8abf5
set_option maxRecDepth 20000 in
theorem ggX7_passOneTick_Jx4a65c_get_915e3 : GoodIn wsX7_passOneTick wsJx4a65c_get_915e3 := goodIn_r _ [18, 14, 19, 20, 21, 22, 23, 24, 25, 26, 27, 28, 29, 12, 30, 31, 188, 189, 190] (by decide +kernel) (by decide +kernel)
set_option maxRecDepth 20000 in
theorem gX7_passOneTick_Jx4a65c_get_915e3 : GoodIn wsX7_passOneTick (wsV RX7 234 RJx4a65c yJx4a65c_get_915e3 wsJx4a65c_get_915e3) := goodIn_app (goodIn_of _ (by decide +kernel)) ggX7_passOneTick_Jx4a65c_get_915e3
set_option maxRecDepth 20000 in
theorem ggX7_passOneTick_X5_decide : GoodIn wsX7_passOneTick wsX5_decide := goodIn_r _ [36, 37, 38, 39, 40, 41, 42, 43, 44, 35, 45, 46, 47, 48, 49, 50, 51, 52, 53, 54, 55, 56, 57, 58, 191, 192, 193, 194, 195, 196, 197, 198, 199, 200, 201, 202, 203, 204, 205, 206, 207, 208, 209, 210, 211, 212, 213] (by decide +kernel) (by decide +kernel)
set_option maxRecDepth 20000 in
theorem gX7_passOneTick_X5_decide : GoodIn wsX7_passOneTick (wsV RX7 331 RX5 yX5_decide wsX5_decide) := goodIn_app (goodIn_of _ (by decide +kernel)) ggX7_passOneTick_X5_decide
set_option maxRecDepth 20000 in
theorem ggX7_passOneTick_X7_givePower : GoodIn wsX7_passOneTick wsX7_givePower := goodIn_r _ [63, 2, 3, 64, 65, 66, 67, 4, 68, 9, 10, 11, 12, 13, 14, 15, 16, 17, 18, 19, 20, 21, 22, 23, 24, 25, 26, 27, 28, 29, 30, 31, 69, 70, 71, 62, 72, 73, 74, 75, 35, 76, 39, 40, 180, 181, 182, 183, 184, 185, 186, 187, 191, 192, 193, 194, 195, 196, 197, 198, 199, 200, 201, 202, 203, 204, 205, 206, 207, 208, 209, 210, 211, 212, 213, 188, 189, 190] (by decide +kernel) (by decide +kernel)
set_option maxRecDepth 20000 in
theorem gX7_passOneTick_X7_givePower : GoodIn wsX7_passOneTick (wsV RX7 335 RX7 yX7_givePower wsX7_givePower) := goodIn_app (goodIn_of _ (by decide +kernel)) ggX7_passOneTick_X7_givePower
set_option maxRecDepth 20000 in
theorem ggX7_passOneTick_X5_changeTemperature : GoodIn wsX7_passOneTick wsX5_changeTemperature := goodIn_ca (goodIn_r _ [80, 39, 81, 82, 83, 84, 85, 86, 87, 88, 89, 90, 91, 191, 192, 193, 194, 195, 196, 197, 198, 199, 200, 201, 202, 203, 204, 205, 206, 207] (by decide +kernel) (by decide +kernel)) (goodIn_sub (fun _ h => List.mem_cons_of_mem _ (List.mem_append_right _ h)) (by decide +kernel))
set_option maxRecDepth 20000 in
theorem gX7_passOneTick_X5_changeTemperature : GoodIn wsX7_passOneTick (wsV RX7 338 RX5 yX5_changeTemperature wsX5_changeTemperature) := goodIn_app (goodIn_of _ (by decide +kernel)) ggX7_passOneTick_X5_changeTemperature
set_option maxRecDepth 20000 in
theorem ggX7_passOneTick_X0_priceIn : GoodIn wsX7_passOneTick wsX0_priceIn := goodIn_r _ [95, 96, 97, 98, 49, 50, 51, 52, 53, 54, 208, 209, 210, 211, 212, 213] (by decide +kernel) (by decide +kernel)
set_option maxRecDepth 20000 in
theorem gX7_passOneTick_X0_priceIn : GoodIn wsX7_passOneTick (wsV RX7 342 RX0 yX0_priceIn wsX0_priceIn) := goodIn_app (goodIn_of _ (by decide +kernel)) ggX7_passOneTick_X0_priceIn
set_option maxRecDepth 20000 in
theorem ggX7_passOneTick_X2_record : GoodIn wsX7_passOneTick wsX2_record := goodIn_ca (goodIn_r _ [103, 104, 105, 106, 107, 108, 85, 86, 87, 109, 214, 215, 216, 217, 218] (by decide +kernel) (by decide +kernel)) (goodIn_sub (fun _ h => List.mem_cons_of_mem _ (List.mem_append_right _ h)) (by decide +kernel))
set_option maxRecDepth 20000 in
theorem gX7_passOneTick_X2_record : GoodIn wsX7_passOneTick (wsV RX7 345 RX2 yX2_record wsX2_record) := goodIn_app (goodIn_of _ (by decide +kernel)) ggX7_passOneTick_X2_record
set_option maxRecDepth 20000 in
theorem ggX7_passOneTick_X4_loseLife : GoodIn wsX7_passOneTick wsX4_loseLife := goodIn_r _ [114, 115, 116, 117, 118, 119, 120, 85, 86, 87, 121, 122, 123, 113, 124, 125, 126, 127, 128, 129, 130, 131, 132, 219, 220, 221, 222, 223, 224, 225, 226, 227, 191, 192, 193, 194, 195, 196, 197, 198, 199, 200, 201, 202, 203, 204, 205, 206, 207, 228, 229, 230] (by decide +kernel) (by decide +kernel)
set_option maxRecDepth 20000 in
theorem gX7_passOneTick_X4_loseLife : GoodIn wsX7_passOneTick (wsV RX7 348 RX4 yX4_loseLife wsX4_loseLife) := goodIn_app (goodIn_of _ (by decide +kernel)) ggX7_passOneTick_X4_loseLife
set_option maxRecDepth 20000 in
theorem ggX7_passOneTick_X7_settleDueOrders : GoodIn wsX7_passOneTick wsX7_settleDueOrders := goodIn_r _ [136, 137, 138, 139, 140, 1, 9, 10, 11, 12, 13, 14, 15, 16, 17, 18, 19, 20, 21, 22, 23, 24, 25, 26, 27, 28, 29, 30, 31, 141, 142, 143, 62, 144, 145, 146, 147, 148, 149, 7, 8, 150, 151, 152, 153, 154, 155, 156, 157, 158, 159, 122, 123, 113, 124, 125, 160, 161, 162, 163, 164, 165, 166, 167, 168, 169, 170, 171, 172, 173, 115, 174, 175, 176, 177, 178, 179, 180, 181, 182, 183, 184, 185, 186, 187, 231, 232, 233, 234, 235, 236, 188, 189, 190, 219, 220, 221, 222, 223, 224] (by decide +kernel) (by decide +kernel)
set_option maxRecDepth 20000 in
theorem gX7_passOneTick_X7_settleDueOrders : GoodIn wsX7_passOneTick (wsV RX7 351 RX7 yX7_settleDueOrders wsX7_settleDueOrders) := goodIn_app (goodIn_of _ (by decide +kernel)) ggX7_passOneTick_X7_settleDueOrders
theorem dX7_passOneTick_0 : decode cX7_passOneTick 0 = .ok (.aload_n 0, 1) := by decide +kernel
theorem dX7_passOneTick_1 : decode cX7_passOneTick 1 = .ok (.getfield 39, 3) := by decide +kernel
theorem dX7_passOneTick_4 : decode cX7_passOneTick 4 = .ok (.bipush 96, 2) := by decide +kernel
theorem dX7_passOneTick_6 : decode cX7_passOneTick 6 = .ok (.irem, 1) := by decide +kernel
theorem dX7_passOneTick_7 : decode cX7_passOneTick 7 = .ok (.istore_n 1, 1) := by decide +kernel
theorem dX7_passOneTick_8 : decode cX7_passOneTick 8 = .ok (.iconst 0, 1) := by decide +kernel
theorem dX7_passOneTick_9 : decode cX7_passOneTick 9 = .ok (.istore_n 2, 1) := by decide +kernel
theorem dX7_passOneTick_10 : decode cX7_passOneTick 10 = .ok (.iload_n 2, 1) := by decide +kernel
theorem dX7_passOneTick_11 : decode cX7_passOneTick 11 = .ok (.aload_n 0, 1) := by decide +kernel
theorem dX7_passOneTick_12 : decode cX7_passOneTick 12 = .ok (.getfield 10, 3) := by decide +kernel
theorem dX7_passOneTick_15 : decode cX7_passOneTick 15 = .ok (.invokevirtual 61, 3) := by decide +kernel
theorem dX7_passOneTick_18 : decode cX7_passOneTick 18 = .ok (.if_icmp .ge 28, 3) := by decide +kernel
theorem dX7_passOneTick_21 : decode cX7_passOneTick 21 = .ok (.aload_n 0, 1) := by decide +kernel
theorem dX7_passOneTick_22 : decode cX7_passOneTick 22 = .ok (.getfield 10, 3) := by decide +kernel
theorem dX7_passOneTick_25 : decode cX7_passOneTick 25 = .ok (.iload_n 2, 1) := by decide +kernel
theorem dX7_passOneTick_26 : decode cX7_passOneTick 26 = .ok (.invokevirtual 234, 3) := by decide +kernel
theorem dX7_passOneTick_29 : decode cX7_passOneTick 29 = .ok (.checkcast 66, 3) := by decide +kernel
theorem dX7_passOneTick_32 : decode cX7_passOneTick 32 = .ok (.aload_n 0, 1) := by decide +kernel
theorem dX7_passOneTick_33 : decode cX7_passOneTick 33 = .ok (.getfield 28, 3) := by decide +kernel
theorem dX7_passOneTick_36 : decode cX7_passOneTick 36 = .ok (.iload_n 1, 1) := by decide +kernel
theorem dX7_passOneTick_37 : decode cX7_passOneTick 37 = .ok (.invokevirtual 331, 3) := by decide +kernel
theorem dX7_passOneTick_40 : decode cX7_passOneTick 40 = .ok (.iinc 2 1, 3) := by decide +kernel
theorem dX7_passOneTick_43 : decode cX7_passOneTick 43 = .ok (.goto (-33), 3) := by decide +kernel
theorem dX7_passOneTick_46 : decode cX7_passOneTick 46 = .ok (.aload_n 0, 1) := by decide +kernel
theorem dX7_passOneTick_47 : decode cX7_passOneTick 47 = .ok (.invokevirtual 335, 3) := by decide +kernel
theorem dX7_passOneTick_50 : decode cX7_passOneTick 50 = .ok (.istore_n 2, 1) := by decide +kernel
theorem dX7_passOneTick_51 : decode cX7_passOneTick 51 = .ok (.iconst 0, 1) := by decide +kernel
theorem dX7_passOneTick_52 : decode cX7_passOneTick 52 = .ok (.istore_n 3, 1) := by decide +kernel
theorem dX7_passOneTick_53 : decode cX7_passOneTick 53 = .ok (.iload_n 3, 1) := by decide +kernel
theorem dX7_passOneTick_54 : decode cX7_passOneTick 54 = .ok (.aload_n 0, 1) := by decide +kernel
theorem dX7_passOneTick_55 : decode cX7_passOneTick 55 = .ok (.getfield 10, 3) := by decide +kernel
theorem dX7_passOneTick_58 : decode cX7_passOneTick 58 = .ok (.invokevirtual 61, 3) := by decide +kernel
theorem dX7_passOneTick_61 : decode cX7_passOneTick 61 = .ok (.if_icmp .ge 31, 3) := by decide +kernel
theorem dX7_passOneTick_64 : decode cX7_passOneTick 64 = .ok (.aload_n 0, 1) := by decide +kernel
theorem dX7_passOneTick_65 : decode cX7_passOneTick 65 = .ok (.getfield 10, 3) := by decide +kernel
theorem dX7_passOneTick_68 : decode cX7_passOneTick 68 = .ok (.iload_n 3, 1) := by decide +kernel
theorem dX7_passOneTick_69 : decode cX7_passOneTick 69 = .ok (.invokevirtual 234, 3) := by decide +kernel
theorem dX7_passOneTick_72 : decode cX7_passOneTick 72 = .ok (.checkcast 66, 3) := by decide +kernel
theorem dX7_passOneTick_75 : decode cX7_passOneTick 75 = .ok (.aload_n 0, 1) := by decide +kernel
theorem dX7_passOneTick_76 : decode cX7_passOneTick 76 = .ok (.getfield 43, 3) := by decide +kernel
theorem dX7_passOneTick_79 : decode cX7_passOneTick 79 = .ok (.aload_n 0, 1) := by decide +kernel
theorem dX7_passOneTick_80 : decode cX7_passOneTick 80 = .ok (.getfield 39, 3) := by decide +kernel
theorem dX7_passOneTick_83 : decode cX7_passOneTick 83 = .ok (.invokevirtual 338, 3) := by decide +kernel
theorem dX7_passOneTick_86 : decode cX7_passOneTick 86 = .ok (.iinc 3 1, 3) := by decide +kernel
theorem dX7_passOneTick_89 : decode cX7_passOneTick 89 = .ok (.goto (-36), 3) := by decide +kernel
theorem dX7_passOneTick_92 : decode cX7_passOneTick 92 = .ok (.aload_n 0, 1) := by decide +kernel
theorem dX7_passOneTick_93 : decode cX7_passOneTick 93 = .ok (.getfield 35, 3) := by decide +kernel
theorem dX7_passOneTick_96 : decode cX7_passOneTick 96 = .ok (.aload_n 0, 1) := by decide +kernel
theorem dX7_passOneTick_97 : decode cX7_passOneTick 97 = .ok (.getfield 39, 3) := by decide +kernel
theorem dX7_passOneTick_100 : decode cX7_passOneTick 100 = .ok (.iload_n 2, 1) := by decide +kernel
theorem dX7_passOneTick_101 : decode cX7_passOneTick 101 = .ok (.aload_n 0, 1) := by decide +kernel
theorem dX7_passOneTick_102 : decode cX7_passOneTick 102 = .ok (.getfield 28, 3) := by decide +kernel
theorem dX7_passOneTick_105 : decode cX7_passOneTick 105 = .ok (.iload_n 1, 1) := by decide +kernel
theorem dX7_passOneTick_106 : decode cX7_passOneTick 106 = .ok (.invokevirtual 342, 3) := by decide +kernel
theorem dX7_passOneTick_109 : decode cX7_passOneTick 109 = .ok (.invokevirtual 345, 3) := by decide +kernel
theorem dX7_passOneTick_112 : decode cX7_passOneTick 112 = .ok (.iconst 0, 1) := by decide +kernel
theorem dX7_passOneTick_113 : decode cX7_passOneTick 113 = .ok (.istore_n 3, 1) := by decide +kernel
theorem dX7_passOneTick_114 : decode cX7_passOneTick 114 = .ok (.iload_n 3, 1) := by decide +kernel
theorem dX7_passOneTick_115 : decode cX7_passOneTick 115 = .ok (.aload_n 0, 1) := by decide +kernel
theorem dX7_passOneTick_116 : decode cX7_passOneTick 116 = .ok (.getfield 19, 3) := by decide +kernel
theorem dX7_passOneTick_119 : decode cX7_passOneTick 119 = .ok (.invokevirtual 61, 3) := by decide +kernel
theorem dX7_passOneTick_122 : decode cX7_passOneTick 122 = .ok (.if_icmp .ge 23, 3) := by decide +kernel
theorem dX7_passOneTick_125 : decode cX7_passOneTick 125 = .ok (.aload_n 0, 1) := by decide +kernel
theorem dX7_passOneTick_126 : decode cX7_passOneTick 126 = .ok (.getfield 19, 3) := by decide +kernel
theorem dX7_passOneTick_129 : decode cX7_passOneTick 129 = .ok (.iload_n 3, 1) := by decide +kernel
theorem dX7_passOneTick_130 : decode cX7_passOneTick 130 = .ok (.invokevirtual 234, 3) := by decide +kernel
theorem dX7_passOneTick_133 : decode cX7_passOneTick 133 = .ok (.checkcast 178, 3) := by decide +kernel
theorem dX7_passOneTick_136 : decode cX7_passOneTick 136 = .ok (.invokevirtual 348, 3) := by decide +kernel
theorem dX7_passOneTick_139 : decode cX7_passOneTick 139 = .ok (.iinc 3 1, 3) := by decide +kernel
theorem dX7_passOneTick_142 : decode cX7_passOneTick 142 = .ok (.goto (-28), 3) := by decide +kernel
theorem dX7_passOneTick_145 : decode cX7_passOneTick 145 = .ok (.aload_n 0, 1) := by decide +kernel
theorem dX7_passOneTick_146 : decode cX7_passOneTick 146 = .ok (.dup, 1) := by decide +kernel
theorem dX7_passOneTick_147 : decode cX7_passOneTick 147 = .ok (.getfield 39, 3) := by decide +kernel
theorem dX7_passOneTick_150 : decode cX7_passOneTick 150 = .ok (.iconst 1, 1) := by decide +kernel
theorem dX7_passOneTick_151 : decode cX7_passOneTick 151 = .ok (.iadd, 1) := by decide +kernel
theorem dX7_passOneTick_152 : decode cX7_passOneTick 152 = .ok (.putfield 39, 3) := by decide +kernel
theorem dX7_passOneTick_155 : decode cX7_passOneTick 155 = .ok (.aload_n 0, 1) := by decide +kernel
theorem dX7_passOneTick_156 : decode cX7_passOneTick 156 = .ok (.invokevirtual 351, 3) := by decide +kernel
theorem dX7_passOneTick_159 : decode cX7_passOneTick 159 = .ok (.ireturn, 1) := by decide +kernel
set_option maxRecDepth 20000 in
theorem ggX7_givePower_Jx4a65c_size_8abf5 : GoodIn wsX7_givePower wsJx4a65c_size_8abf5 := goodIn_r _ [13, 14, 75, 76, 77] (by decide +kernel) (by decide +kernel)
set_option maxRecDepth 20000 in
theorem gX7_givePower_Jx4a65c_size_8abf5 : GoodIn wsX7_givePower (wsV RX7 61 RJx4a65c yJx4a65c_size_8abf5 wsJx4a65c_size_8abf5) := goodIn_app (goodIn_of _ (by decide +kernel)) ggX7_givePower_Jx4a65c_size_8abf5
set_option maxRecDepth 20000 in
theorem ggX7_givePower_Jx4a65c_get_915e3 : GoodIn wsX7_givePower wsJx4a65c_get_915e3 := goodIn_r _ [18, 14, 19, 20, 21, 22, 23, 24, 25, 26, 27, 28, 29, 12, 30, 31, 75, 76, 77] (by decide +kernel) (by decide +kernel)
set_option maxRecDepth 20000 in
theorem gX7_givePower_Jx4a65c_get_915e3 : GoodIn wsX7_givePower (wsV RX7 234 RJx4a65c yJx4a65c_get_915e3 wsJx4a65c_get_915e3) := goodIn_app (goodIn_of _ (by decide +kernel)) ggX7_givePower_Jx4a65c_get_915e3
set_option maxRecDepth 20000 in
theorem ggX7_givePower_X7_nextWaitingRoom : GoodIn wsX7_givePower wsX7_nextWaitingRoom := goodIn_r _ [36, 1, 2, 5, 9, 10, 11, 12, 13, 14, 15, 16, 17, 18, 19, 20, 21, 22, 23, 24, 25, 26, 27, 28, 29, 30, 31, 37, 38, 39, 40, 41, 42, 43, 44, 45, 46, 47, 48, 49, 50, 51, 52, 53, 54, 55, 56, 57, 58, 59, 60, 61, 62, 63, 64, 65, 66, 67, 68, 75, 76, 77] (by decide +kernel) (by decide +kernel)
set_option maxRecDepth 20000 in
theorem gX7_givePower_X7_nextWaitingRoom : GoodIn wsX7_givePower (wsV RX7 360 RX7 yX7_nextWaitingRoom wsX7_nextWaitingRoom) := goodIn_app (goodIn_of _ (by decide +kernel)) ggX7_givePower_X7_nextWaitingRoom
theorem dX7_givePower_0 : decode cX7_givePower 0 = .ok (.iconst 0, 1) := by decide +kernel
theorem dX7_givePower_1 : decode cX7_givePower 1 = .ok (.istore_n 1, 1) := by decide +kernel
theorem dX7_givePower_2 : decode cX7_givePower 2 = .ok (.iload_n 1, 1) := by decide +kernel
theorem dX7_givePower_3 : decode cX7_givePower 3 = .ok (.aload_n 0, 1) := by decide +kernel
theorem dX7_givePower_4 : decode cX7_givePower 4 = .ok (.getfield 10, 3) := by decide +kernel
theorem dX7_givePower_7 : decode cX7_givePower 7 = .ok (.invokevirtual 61, 3) := by decide +kernel
theorem dX7_givePower_10 : decode cX7_givePower 10 = .ok (.if_icmp .ge 34, 3) := by decide +kernel
theorem dX7_givePower_13 : decode cX7_givePower 13 = .ok (.aload_n 0, 1) := by decide +kernel
theorem dX7_givePower_14 : decode cX7_givePower 14 = .ok (.getfield 10, 3) := by decide +kernel
theorem dX7_givePower_17 : decode cX7_givePower 17 = .ok (.iload_n 1, 1) := by decide +kernel
theorem dX7_givePower_18 : decode cX7_givePower 18 = .ok (.invokevirtual 234, 3) := by decide +kernel
theorem dX7_givePower_21 : decode cX7_givePower 21 = .ok (.checkcast 66, 3) := by decide +kernel
theorem dX7_givePower_24 : decode cX7_givePower 24 = .ok (.astore_n 2, 1) := by decide +kernel
theorem dX7_givePower_25 : decode cX7_givePower 25 = .ok (.aload_n 2, 1) := by decide +kernel
theorem dX7_givePower_26 : decode cX7_givePower 26 = .ok (.iconst 0, 1) := by decide +kernel
theorem dX7_givePower_27 : decode cX7_givePower 27 = .ok (.putfield 103, 3) := by decide +kernel
theorem dX7_givePower_30 : decode cX7_givePower 30 = .ok (.aload_n 2, 1) := by decide +kernel
theorem dX7_givePower_31 : decode cX7_givePower 31 = .ok (.aload_n 2, 1) := by decide +kernel
theorem dX7_givePower_32 : decode cX7_givePower 32 = .ok (.getfield 354, 3) := by decide +kernel
theorem dX7_givePower_35 : decode cX7_givePower 35 = .ok (.putfield 357, 3) := by decide +kernel
theorem dX7_givePower_38 : decode cX7_givePower 38 = .ok (.iinc 1 1, 3) := by decide +kernel
theorem dX7_givePower_41 : decode cX7_givePower 41 = .ok (.goto (-39), 3) := by decide +kernel
theorem dX7_givePower_44 : decode cX7_givePower 44 = .ok (.iconst 0, 1) := by decide +kernel
theorem dX7_givePower_45 : decode cX7_givePower 45 = .ok (.istore_n 1, 1) := by decide +kernel
theorem dX7_givePower_46 : decode cX7_givePower 46 = .ok (.iconst 0, 1) := by decide +kernel
theorem dX7_givePower_47 : decode cX7_givePower 47 = .ok (.istore_n 2, 1) := by decide +kernel
theorem dX7_givePower_48 : decode cX7_givePower 48 = .ok (.iload_n 2, 1) := by decide +kernel
theorem dX7_givePower_49 : decode cX7_givePower 49 = .ok (.aload_n 0, 1) := by decide +kernel
theorem dX7_givePower_50 : decode cX7_givePower 50 = .ok (.getfield 10, 3) := by decide +kernel
theorem dX7_givePower_53 : decode cX7_givePower 53 = .ok (.invokevirtual 61, 3) := by decide +kernel
theorem dX7_givePower_56 : decode cX7_givePower 56 = .ok (.if_icmp .ge 54, 3) := by decide +kernel
theorem dX7_givePower_59 : decode cX7_givePower 59 = .ok (.aload_n 0, 1) := by decide +kernel
theorem dX7_givePower_60 : decode cX7_givePower 60 = .ok (.invokevirtual 360, 3) := by decide +kernel
theorem dX7_givePower_63 : decode cX7_givePower 63 = .ok (.astore_n 3, 1) := by decide +kernel
theorem dX7_givePower_64 : decode cX7_givePower 64 = .ok (.aload_n 3, 1) := by decide +kernel
theorem dX7_givePower_65 : decode cX7_givePower 65 = .ok (.ifnonnull 6, 3) := by decide +kernel
theorem dX7_givePower_68 : decode cX7_givePower 68 = .ok (.goto 42, 3) := by decide +kernel
theorem dX7_givePower_71 : decode cX7_givePower 71 = .ok (.aload_n 3, 1) := by decide +kernel
theorem dX7_givePower_72 : decode cX7_givePower 72 = .ok (.iconst 0, 1) := by decide +kernel
theorem dX7_givePower_73 : decode cX7_givePower 73 = .ok (.putfield 357, 3) := by decide +kernel
theorem dX7_givePower_76 : decode cX7_givePower 76 = .ok (.iload_n 1, 1) := by decide +kernel
theorem dX7_givePower_77 : decode cX7_givePower 77 = .ok (.aload_n 3, 1) := by decide +kernel
theorem dX7_givePower_78 : decode cX7_givePower 78 = .ok (.getfield 364, 3) := by decide +kernel
theorem dX7_givePower_81 : decode cX7_givePower 81 = .ok (.iadd, 1) := by decide +kernel
theorem dX7_givePower_82 : decode cX7_givePower 82 = .ok (.aload_n 0, 1) := by decide +kernel
theorem dX7_givePower_83 : decode cX7_givePower 83 = .ok (.getfield 28, 3) := by decide +kernel
theorem dX7_givePower_86 : decode cX7_givePower 86 = .ok (.getfield 143, 3) := by decide +kernel
theorem dX7_givePower_89 : decode cX7_givePower 89 = .ok (.if_icmp .gt 15, 3) := by decide +kernel
theorem dX7_givePower_92 : decode cX7_givePower 92 = .ok (.aload_n 3, 1) := by decide +kernel
theorem dX7_givePower_93 : decode cX7_givePower 93 = .ok (.iconst 1, 1) := by decide +kernel
theorem dX7_givePower_94 : decode cX7_givePower 94 = .ok (.putfield 103, 3) := by decide +kernel
theorem dX7_givePower_97 : decode cX7_givePower 97 = .ok (.iload_n 1, 1) := by decide +kernel
theorem dX7_givePower_98 : decode cX7_givePower 98 = .ok (.aload_n 3, 1) := by decide +kernel
theorem dX7_givePower_99 : decode cX7_givePower 99 = .ok (.getfield 364, 3) := by decide +kernel
theorem dX7_givePower_102 : decode cX7_givePower 102 = .ok (.iadd, 1) := by decide +kernel
theorem dX7_givePower_103 : decode cX7_givePower 103 = .ok (.istore_n 1, 1) := by decide +kernel
theorem dX7_givePower_104 : decode cX7_givePower 104 = .ok (.iinc 2 1, 3) := by decide +kernel
theorem dX7_givePower_107 : decode cX7_givePower 107 = .ok (.goto (-59), 3) := by decide +kernel
theorem dX7_givePower_110 : decode cX7_givePower 110 = .ok (.iload_n 1, 1) := by decide +kernel
theorem dX7_givePower_111 : decode cX7_givePower 111 = .ok (.ireturn, 1) := by decide +kernel
set_option maxRecDepth 20000 in
theorem ggX7_nextWaitingRoom_Jx4a65c_size_8abf5 : GoodIn wsX7_nextWaitingRoom wsJx4a65c_size_8abf5 := goodIn_r _ [8, 9, 59, 60, 61] (by decide +kernel) (by decide +kernel)
set_option maxRecDepth 20000 in
theorem gX7_nextWaitingRoom_Jx4a65c_size_8abf5 : GoodIn wsX7_nextWaitingRoom (wsV RX7 61 RJx4a65c yJx4a65c_size_8abf5 wsJx4a65c_size_8abf5) := goodIn_app (goodIn_of _ (by decide +kernel)) ggX7_nextWaitingRoom_Jx4a65c_size_8abf5
set_option maxRecDepth 20000 in
theorem ggX7_nextWaitingRoom_Jx4a65c_get_915e3 : GoodIn wsX7_nextWaitingRoom wsJx4a65c_get_915e3 := goodIn_r _ [13, 9, 14, 15, 16, 17, 18, 19, 20, 21, 22, 23, 24, 7, 25, 26, 59, 60, 61] (by decide +kernel) (by decide +kernel)
set_option maxRecDepth 20000 in
theorem gX7_nextWaitingRoom_Jx4a65c_get_915e3 : GoodIn wsX7_nextWaitingRoom (wsV RX7 234 RJx4a65c yJx4a65c_get_915e3 wsJx4a65c_get_915e3) := goodIn_app (goodIn_of _ (by decide +kernel)) ggX7_nextWaitingRoom_Jx4a65c_get_915e3
set_option maxRecDepth 20000 in
theorem ggX7_nextWaitingRoom_X5_excess : GoodIn wsX7_nextWaitingRoom wsX5_excess := goodIn_r _ [31, 32, 33, 42, 43, 44, 45, 46, 47, 48, 49, 50, 51, 52, 53, 54, 55, 56, 57, 58] (by decide +kernel) (by decide +kernel)
set_option maxRecDepth 20000 in
theorem gX7_nextWaitingRoom_X5_excess : GoodIn wsX7_nextWaitingRoom (wsV RX7 367 RX5 yX5_excess wsX5_excess) := goodIn_app (goodIn_of _ (by decide +kernel)) ggX7_nextWaitingRoom_X5_excess
theorem dX7_nextWaitingRoom_0 : decode cX7_nextWaitingRoom 0 = .ok (.aconst_null, 1) := by decide +kernel
theorem dX7_nextWaitingRoom_1 : decode cX7_nextWaitingRoom 1 = .ok (.astore_n 1, 1) := by decide +kernel
theorem dX7_nextWaitingRoom_2 : decode cX7_nextWaitingRoom 2 = .ok (.iconst 0, 1) := by decide +kernel
theorem dX7_nextWaitingRoom_3 : decode cX7_nextWaitingRoom 3 = .ok (.istore_n 2, 1) := by decide +kernel
theorem dX7_nextWaitingRoom_4 : decode cX7_nextWaitingRoom 4 = .ok (.iload_n 2, 1) := by decide +kernel
theorem dX7_nextWaitingRoom_5 : decode cX7_nextWaitingRoom 5 = .ok (.aload_n 0, 1) := by decide +kernel
theorem dX7_nextWaitingRoom_6 : decode cX7_nextWaitingRoom 6 = .ok (.getfield 10, 3) := by decide +kernel
theorem dX7_nextWaitingRoom_9 : decode cX7_nextWaitingRoom 9 = .ok (.invokevirtual 61, 3) := by decide +kernel
theorem dX7_nextWaitingRoom_12 : decode cX7_nextWaitingRoom 12 = .ok (.if_icmp .ge 45, 3) := by decide +kernel
theorem dX7_nextWaitingRoom_15 : decode cX7_nextWaitingRoom 15 = .ok (.aload_n 0, 1) := by decide +kernel
theorem dX7_nextWaitingRoom_16 : decode cX7_nextWaitingRoom 16 = .ok (.getfield 10, 3) := by decide +kernel
theorem dX7_nextWaitingRoom_19 : decode cX7_nextWaitingRoom 19 = .ok (.iload_n 2, 1) := by decide +kernel
theorem dX7_nextWaitingRoom_20 : decode cX7_nextWaitingRoom 20 = .ok (.invokevirtual 234, 3) := by decide +kernel
theorem dX7_nextWaitingRoom_23 : decode cX7_nextWaitingRoom 23 = .ok (.checkcast 66, 3) := by decide +kernel
theorem dX7_nextWaitingRoom_26 : decode cX7_nextWaitingRoom 26 = .ok (.astore_n 3, 1) := by decide +kernel
theorem dX7_nextWaitingRoom_27 : decode cX7_nextWaitingRoom 27 = .ok (.aload_n 3, 1) := by decide +kernel
theorem dX7_nextWaitingRoom_28 : decode cX7_nextWaitingRoom 28 = .ok (.getfield 357, 3) := by decide +kernel
theorem dX7_nextWaitingRoom_31 : decode cX7_nextWaitingRoom 31 = .ok (.ifCond .eq 20, 3) := by decide +kernel
theorem dX7_nextWaitingRoom_34 : decode cX7_nextWaitingRoom 34 = .ok (.aload_n 1, 1) := by decide +kernel
theorem dX7_nextWaitingRoom_35 : decode cX7_nextWaitingRoom 35 = .ok (.ifnull 14, 3) := by decide +kernel
theorem dX7_nextWaitingRoom_38 : decode cX7_nextWaitingRoom 38 = .ok (.aload_n 3, 1) := by decide +kernel
theorem dX7_nextWaitingRoom_39 : decode cX7_nextWaitingRoom 39 = .ok (.invokevirtual 367, 3) := by decide +kernel
theorem dX7_nextWaitingRoom_42 : decode cX7_nextWaitingRoom 42 = .ok (.aload_n 1, 1) := by decide +kernel
theorem dX7_nextWaitingRoom_43 : decode cX7_nextWaitingRoom 43 = .ok (.invokevirtual 367, 3) := by decide +kernel
theorem dX7_nextWaitingRoom_46 : decode cX7_nextWaitingRoom 46 = .ok (.if_icmp .le 5, 3) := by decide +kernel
theorem dX7_nextWaitingRoom_49 : decode cX7_nextWaitingRoom 49 = .ok (.aload_n 3, 1) := by decide +kernel
theorem dX7_nextWaitingRoom_50 : decode cX7_nextWaitingRoom 50 = .ok (.astore_n 1, 1) := by decide +kernel
theorem dX7_nextWaitingRoom_51 : decode cX7_nextWaitingRoom 51 = .ok (.iinc 2 1, 3) := by decide +kernel
theorem dX7_nextWaitingRoom_54 : decode cX7_nextWaitingRoom 54 = .ok (.goto (-50), 3) := by decide +kernel
theorem dX7_nextWaitingRoom_57 : decode cX7_nextWaitingRoom 57 = .ok (.aload_n 1, 1) := by decide +kernel
theorem dX7_nextWaitingRoom_58 : decode cX7_nextWaitingRoom 58 = .ok (.areturn, 1) := by decide +kernel
set_option maxRecDepth 20000 in
theorem ggX7_settleDueOrders_Jx4a65c_size_8abf5 : GoodIn wsX7_settleDueOrders wsJx4a65c_size_8abf5 := goodIn_r _ [10, 11, 91, 92, 93] (by decide +kernel) (by decide +kernel)
set_option maxRecDepth 20000 in
theorem gX7_settleDueOrders_Jx4a65c_size_8abf5 : GoodIn wsX7_settleDueOrders (wsV RX7 61 RJx4a65c yJx4a65c_size_8abf5 wsJx4a65c_size_8abf5) := goodIn_app (goodIn_of _ (by decide +kernel)) ggX7_settleDueOrders_Jx4a65c_size_8abf5
set_option maxRecDepth 20000 in
theorem ggX7_settleDueOrders_Jx4a65c_get_915e3 : GoodIn wsX7_settleDueOrders wsJx4a65c_get_915e3 := goodIn_r _ [15, 11, 16, 17, 18, 19, 20, 21, 22, 23, 24, 25, 26, 9, 27, 28, 91, 92, 93] (by decide +kernel) (by decide +kernel)
set_option maxRecDepth 20000 in
theorem gX7_settleDueOrders_Jx4a65c_get_915e3 : GoodIn wsX7_settleDueOrders (wsV RX7 234 RJx4a65c yJx4a65c_get_915e3 wsJx4a65c_get_915e3) := goodIn_app (goodIn_of _ (by decide +kernel)) ggX7_settleDueOrders_Jx4a65c_get_915e3
set_option maxRecDepth 20000 in
theorem ggX7_settleDueOrders_X7_canBeShipped : GoodIn wsX7_settleDueOrders wsX7_canBeShipped := goodIn_r _ [33, 34, 35, 36, 37, 32, 38, 39, 40, 6, 7, 8, 9, 10, 11, 12, 13, 14, 15, 16, 17, 18, 19, 20, 21, 22, 23, 24, 25, 26, 27, 28, 41, 42, 43, 44, 45, 46, 47, 48, 49, 50, 51, 52, 53, 54, 55, 85, 86, 87, 88, 89, 90, 77, 78, 79, 80, 81, 82, 83, 84, 91, 92, 93, 94, 95, 96, 97, 98, 99] (by decide +kernel) (by decide +kernel)
set_option maxRecDepth 20000 in
theorem gX7_settleDueOrders_X7_canBeShipped : GoodIn wsX7_settleDueOrders (wsV RX7 283 RX7 yX7_canBeShipped wsX7_canBeShipped) := goodIn_app (goodIn_of _ (by decide +kernel)) ggX7_settleDueOrders_X7_canBeShipped
set_option maxRecDepth 20000 in
theorem ggX7_settleDueOrders_X7_shipCandidates : GoodIn wsX7_settleDueOrders wsX7_shipCandidates := goodIn_r _ [59, 34, 60, 61, 5, 3, 62, 63, 64, 32, 65, 39, 40, 6, 7, 8, 9, 10, 11, 12, 13, 14, 15, 16, 17, 18, 19, 20, 21, 22, 23, 24, 25, 26, 27, 28, 66, 67, 68, 53, 69, 70, 71, 41, 42, 43, 44, 45, 46, 47, 48, 49, 50, 51, 52, 54, 55, 72, 73, 74, 75, 76, 85, 86, 87, 88, 89, 90, 94, 95, 96, 97, 98, 99, 77, 78, 79, 80, 81, 82, 83, 84, 91, 92, 93] (by decide +kernel) (by decide +kernel)
set_option maxRecDepth 20000 in
theorem gX7_settleDueOrders_X7_shipCandidates : GoodIn wsX7_settleDueOrders (wsV RX7 292 RX7 yX7_shipCandidates wsX7_shipCandidates) := goodIn_app (goodIn_of _ (by decide +kernel)) ggX7_settleDueOrders_X7_shipCandidates
theorem dX7_settleDueOrders_0 : decode cX7_settleDueOrders 0 = .ok (.iconst 0, 1) := by decide +kernel
theorem dX7_settleDueOrders_1 : decode cX7_settleDueOrders 1 = .ok (.istore_n 1, 1) := by decide +kernel
theorem dX7_settleDueOrders_2 : decode cX7_settleDueOrders 2 = .ok (.iconst 0, 1) := by decide +kernel
theorem dX7_settleDueOrders_3 : decode cX7_settleDueOrders 3 = .ok (.istore_n 2, 1) := by decide +kernel
theorem dX7_settleDueOrders_4 : decode cX7_settleDueOrders 4 = .ok (.iload_n 2, 1) := by decide +kernel
theorem dX7_settleDueOrders_5 : decode cX7_settleDueOrders 5 = .ok (.aload_n 0, 1) := by decide +kernel
theorem dX7_settleDueOrders_6 : decode cX7_settleDueOrders 6 = .ok (.getfield 22, 3) := by decide +kernel
theorem dX7_settleDueOrders_9 : decode cX7_settleDueOrders 9 = .ok (.invokevirtual 61, 3) := by decide +kernel
theorem dX7_settleDueOrders_12 : decode cX7_settleDueOrders 12 = .ok (.if_icmp .ge 67, 3) := by decide +kernel
theorem dX7_settleDueOrders_15 : decode cX7_settleDueOrders 15 = .ok (.aload_n 0, 1) := by decide +kernel
theorem dX7_settleDueOrders_16 : decode cX7_settleDueOrders 16 = .ok (.getfield 22, 3) := by decide +kernel
theorem dX7_settleDueOrders_19 : decode cX7_settleDueOrders 19 = .ok (.iload_n 2, 1) := by decide +kernel
theorem dX7_settleDueOrders_20 : decode cX7_settleDueOrders 20 = .ok (.invokevirtual 234, 3) := by decide +kernel
theorem dX7_settleDueOrders_23 : decode cX7_settleDueOrders 23 = .ok (.checkcast 256, 3) := by decide +kernel
theorem dX7_settleDueOrders_26 : decode cX7_settleDueOrders 26 = .ok (.astore_n 3, 1) := by decide +kernel
theorem dX7_settleDueOrders_27 : decode cX7_settleDueOrders 27 = .ok (.aload_n 3, 1) := by decide +kernel
theorem dX7_settleDueOrders_28 : decode cX7_settleDueOrders 28 = .ok (.getfield 269, 3) := by decide +kernel
theorem dX7_settleDueOrders_31 : decode cX7_settleDueOrders 31 = .ok (.bipush 111, 2) := by decide +kernel
theorem dX7_settleDueOrders_33 : decode cX7_settleDueOrders 33 = .ok (.if_icmp .ne 40, 3) := by decide +kernel
theorem dX7_settleDueOrders_36 : decode cX7_settleDueOrders 36 = .ok (.aload_n 3, 1) := by decide +kernel
theorem dX7_settleDueOrders_37 : decode cX7_settleDueOrders 37 = .ok (.getfield 370, 3) := by decide +kernel
theorem dX7_settleDueOrders_40 : decode cX7_settleDueOrders 40 = .ok (.aload_n 0, 1) := by decide +kernel
theorem dX7_settleDueOrders_41 : decode cX7_settleDueOrders 41 = .ok (.getfield 39, 3) := by decide +kernel
theorem dX7_settleDueOrders_44 : decode cX7_settleDueOrders 44 = .ok (.if_icmp .ne 29, 3) := by decide +kernel
theorem dX7_settleDueOrders_47 : decode cX7_settleDueOrders 47 = .ok (.aload_n 0, 1) := by decide +kernel
theorem dX7_settleDueOrders_48 : decode cX7_settleDueOrders 48 = .ok (.aload_n 3, 1) := by decide +kernel
theorem dX7_settleDueOrders_49 : decode cX7_settleDueOrders 49 = .ok (.invokevirtual 283, 3) := by decide +kernel
theorem dX7_settleDueOrders_52 : decode cX7_settleDueOrders 52 = .ok (.ifCond .eq 15, 3) := by decide +kernel
theorem dX7_settleDueOrders_55 : decode cX7_settleDueOrders 55 = .ok (.aload_n 0, 1) := by decide +kernel
theorem dX7_settleDueOrders_56 : decode cX7_settleDueOrders 56 = .ok (.aload_n 3, 1) := by decide +kernel
theorem dX7_settleDueOrders_57 : decode cX7_settleDueOrders 57 = .ok (.invokevirtual 292, 3) := by decide +kernel
theorem dX7_settleDueOrders_60 : decode cX7_settleDueOrders 60 = .ok (.pop, 1) := by decide +kernel
theorem dX7_settleDueOrders_61 : decode cX7_settleDueOrders 61 = .ok (.iinc 1 1, 3) := by decide +kernel
theorem dX7_settleDueOrders_64 : decode cX7_settleDueOrders 64 = .ok (.goto 9, 3) := by decide +kernel
theorem dX7_settleDueOrders_67 : decode cX7_settleDueOrders 67 = .ok (.aload_n 3, 1) := by decide +kernel
theorem dX7_settleDueOrders_68 : decode cX7_settleDueOrders 68 = .ok (.bipush 109, 2) := by decide +kernel
theorem dX7_settleDueOrders_70 : decode cX7_settleDueOrders 70 = .ok (.putfield 269, 3) := by decide +kernel
theorem dX7_settleDueOrders_73 : decode cX7_settleDueOrders 73 = .ok (.iinc 2 1, 3) := by decide +kernel
theorem dX7_settleDueOrders_76 : decode cX7_settleDueOrders 76 = .ok (.goto (-72), 3) := by decide +kernel
theorem dX7_settleDueOrders_79 : decode cX7_settleDueOrders 79 = .ok (.iload_n 1, 1) := by decide +kernel
theorem dX7_settleDueOrders_80 : decode cX7_settleDueOrders 80 = .ok (.ireturn, 1) := by decide +kernel
set_option maxRecDepth 20000 in
theorem ggX7_spaceIn_Jx4a65c_size_8abf5 : GoodIn wsX7_spaceIn wsJx4a65c_size_8abf5 := goodIn_r _ [9, 10, 51, 52, 53] (by decide +kernel) (by decide +kernel)
set_option maxRecDepth 20000 in
theorem gX7_spaceIn_Jx4a65c_size_8abf5 : GoodIn wsX7_spaceIn (wsV RX7 61 RJx4a65c yJx4a65c_size_8abf5 wsJx4a65c_size_8abf5) := goodIn_app (goodIn_of _ (by decide +kernel)) ggX7_spaceIn_Jx4a65c_size_8abf5
set_option maxRecDepth 20000 in
theorem ggX7_spaceIn_Jx4a65c_get_915e3 : GoodIn wsX7_spaceIn wsJx4a65c_get_915e3 := goodIn_r _ [14, 10, 15, 16, 17, 18, 19, 20, 21, 22, 23, 24, 25, 8, 26, 27, 51, 52, 53] (by decide +kernel) (by decide +kernel)
set_option maxRecDepth 20000 in
theorem gX7_spaceIn_Jx4a65c_get_915e3 : GoodIn wsX7_spaceIn (wsV RX7 234 RJx4a65c yJx4a65c_get_915e3 wsJx4a65c_get_915e3) := goodIn_app (goodIn_of _ (by decide +kernel)) ggX7_spaceIn_Jx4a65c_get_915e3
set_option maxRecDepth 20000 in
theorem ggX7_spaceIn_X4_isInRoom : GoodIn wsX7_spaceIn wsX4_isInRoom := goodIn_r _ [32, 33, 42, 43, 44, 45, 46, 47] (by decide +kernel) (by decide +kernel)
set_option maxRecDepth 20000 in
theorem gX7_spaceIn_X4_isInRoom : GoodIn wsX7_spaceIn (wsV RX7 238 RX4 yX4_isInRoom wsX4_isInRoom) := goodIn_app (goodIn_of _ (by decide +kernel)) ggX7_spaceIn_X4_isInRoom
theorem dX7_spaceIn_0 : decode cX7_spaceIn 0 = .ok (.bipush 8, 2) := by decide +kernel
theorem dX7_spaceIn_2 : decode cX7_spaceIn 2 = .ok (.istore_n 2, 1) := by decide +kernel
theorem dX7_spaceIn_3 : decode cX7_spaceIn 3 = .ok (.iconst 0, 1) := by decide +kernel
theorem dX7_spaceIn_4 : decode cX7_spaceIn 4 = .ok (.istore_n 3, 1) := by decide +kernel
theorem dX7_spaceIn_5 : decode cX7_spaceIn 5 = .ok (.iload_n 3, 1) := by decide +kernel
theorem dX7_spaceIn_6 : decode cX7_spaceIn 6 = .ok (.aload_n 0, 1) := by decide +kernel
theorem dX7_spaceIn_7 : decode cX7_spaceIn 7 = .ok (.getfield 19, 3) := by decide +kernel
theorem dX7_spaceIn_10 : decode cX7_spaceIn 10 = .ok (.invokevirtual 61, 3) := by decide +kernel
theorem dX7_spaceIn_13 : decode cX7_spaceIn 13 = .ok (.if_icmp .ge 45, 3) := by decide +kernel
theorem dX7_spaceIn_16 : decode cX7_spaceIn 16 = .ok (.aload_n 0, 1) := by decide +kernel
theorem dX7_spaceIn_17 : decode cX7_spaceIn 17 = .ok (.getfield 19, 3) := by decide +kernel
theorem dX7_spaceIn_20 : decode cX7_spaceIn 20 = .ok (.iload_n 3, 1) := by decide +kernel
theorem dX7_spaceIn_21 : decode cX7_spaceIn 21 = .ok (.invokevirtual 234, 3) := by decide +kernel
theorem dX7_spaceIn_24 : decode cX7_spaceIn 24 = .ok (.checkcast 178, 3) := by decide +kernel
theorem dX7_spaceIn_27 : decode cX7_spaceIn 27 = .ok (.astore 4, 2) := by decide +kernel
theorem dX7_spaceIn_29 : decode cX7_spaceIn 29 = .ok (.aload 4, 2) := by decide +kernel
theorem dX7_spaceIn_31 : decode cX7_spaceIn 31 = .ok (.invokevirtual 238, 3) := by decide +kernel
theorem dX7_spaceIn_34 : decode cX7_spaceIn 34 = .ok (.ifCond .eq 18, 3) := by decide +kernel
theorem dX7_spaceIn_37 : decode cX7_spaceIn 37 = .ok (.aload 4, 2) := by decide +kernel
theorem dX7_spaceIn_39 : decode cX7_spaceIn 39 = .ok (.getfield 191, 3) := by decide +kernel
theorem dX7_spaceIn_42 : decode cX7_spaceIn 42 = .ok (.getfield 195, 3) := by decide +kernel
theorem dX7_spaceIn_45 : decode cX7_spaceIn 45 = .ok (.aload_n 1, 1) := by decide +kernel
theorem dX7_spaceIn_46 : decode cX7_spaceIn 46 = .ok (.if_acmp .ne 6, 3) := by decide +kernel
theorem dX7_spaceIn_49 : decode cX7_spaceIn 49 = .ok (.iinc 2 (-1), 3) := by decide +kernel
theorem dX7_spaceIn_52 : decode cX7_spaceIn 52 = .ok (.iinc 3 1, 3) := by decide +kernel
theorem dX7_spaceIn_55 : decode cX7_spaceIn 55 = .ok (.goto (-50), 3) := by decide +kernel
theorem dX7_spaceIn_58 : decode cX7_spaceIn 58 = .ok (.iload_n 2, 1) := by decide +kernel
theorem dX7_spaceIn_59 : decode cX7_spaceIn 59 = .ok (.ireturn, 1) := by decide +kernel
set_option maxRecDepth 20000 in
theorem ggX7_countOpenOrders_Jx4a65c_size_8abf5 : GoodIn wsX7_countOpenOrders wsJx4a65c_size_8abf5 := goodIn_r _ [8, 9, 41, 42, 43] (by decide +kernel) (by decide +kernel)
set_option maxRecDepth 20000 in
theorem gX7_countOpenOrders_Jx4a65c_size_8abf5 : GoodIn wsX7_countOpenOrders (wsV RX7 61 RJx4a65c yJx4a65c_size_8abf5 wsJx4a65c_size_8abf5) := goodIn_app (goodIn_of _ (by decide +kernel)) ggX7_countOpenOrders_Jx4a65c_size_8abf5
set_option maxRecDepth 20000 in
theorem ggX7_countOpenOrders_Jx4a65c_get_915e3 : GoodIn wsX7_countOpenOrders wsJx4a65c_get_915e3 := goodIn_r _ [13, 9, 14, 15, 16, 17, 18, 19, 20, 21, 22, 23, 24, 7, 25, 26, 41, 42, 43] (by decide +kernel) (by decide +kernel)
set_option maxRecDepth 20000 in
theorem gX7_countOpenOrders_Jx4a65c_get_915e3 : GoodIn wsX7_countOpenOrders (wsV RX7 234 RJx4a65c yJx4a65c_get_915e3 wsJx4a65c_get_915e3) := goodIn_app (goodIn_of _ (by decide +kernel)) ggX7_countOpenOrders_Jx4a65c_get_915e3
theorem dX7_countOpenOrders_0 : decode cX7_countOpenOrders 0 = .ok (.iconst 0, 1) := by decide +kernel
theorem dX7_countOpenOrders_1 : decode cX7_countOpenOrders 1 = .ok (.istore_n 1, 1) := by decide +kernel
theorem dX7_countOpenOrders_2 : decode cX7_countOpenOrders 2 = .ok (.iconst 0, 1) := by decide +kernel
theorem dX7_countOpenOrders_3 : decode cX7_countOpenOrders 3 = .ok (.istore_n 2, 1) := by decide +kernel
theorem dX7_countOpenOrders_4 : decode cX7_countOpenOrders 4 = .ok (.iload_n 2, 1) := by decide +kernel
theorem dX7_countOpenOrders_5 : decode cX7_countOpenOrders 5 = .ok (.aload_n 0, 1) := by decide +kernel
theorem dX7_countOpenOrders_6 : decode cX7_countOpenOrders 6 = .ok (.getfield 22, 3) := by decide +kernel
theorem dX7_countOpenOrders_9 : decode cX7_countOpenOrders 9 = .ok (.invokevirtual 61, 3) := by decide +kernel
theorem dX7_countOpenOrders_12 : decode cX7_countOpenOrders 12 = .ok (.if_icmp .ge 31, 3) := by decide +kernel
theorem dX7_countOpenOrders_15 : decode cX7_countOpenOrders 15 = .ok (.aload_n 0, 1) := by decide +kernel
theorem dX7_countOpenOrders_16 : decode cX7_countOpenOrders 16 = .ok (.getfield 22, 3) := by decide +kernel
theorem dX7_countOpenOrders_19 : decode cX7_countOpenOrders 19 = .ok (.iload_n 2, 1) := by decide +kernel
theorem dX7_countOpenOrders_20 : decode cX7_countOpenOrders 20 = .ok (.invokevirtual 234, 3) := by decide +kernel
theorem dX7_countOpenOrders_23 : decode cX7_countOpenOrders 23 = .ok (.checkcast 256, 3) := by decide +kernel
theorem dX7_countOpenOrders_26 : decode cX7_countOpenOrders 26 = .ok (.getfield 269, 3) := by decide +kernel
theorem dX7_countOpenOrders_29 : decode cX7_countOpenOrders 29 = .ok (.bipush 111, 2) := by decide +kernel
theorem dX7_countOpenOrders_31 : decode cX7_countOpenOrders 31 = .ok (.if_icmp .ne 6, 3) := by decide +kernel
theorem dX7_countOpenOrders_34 : decode cX7_countOpenOrders 34 = .ok (.iinc 1 1, 3) := by decide +kernel
theorem dX7_countOpenOrders_37 : decode cX7_countOpenOrders 37 = .ok (.iinc 2 1, 3) := by decide +kernel
theorem dX7_countOpenOrders_40 : decode cX7_countOpenOrders 40 = .ok (.goto (-36), 3) := by decide +kernel
theorem dX7_countOpenOrders_43 : decode cX7_countOpenOrders 43 = .ok (.iload_n 1, 1) := by decide +kernel
theorem dX7_countOpenOrders_44 : decode cX7_countOpenOrders 44 = .ok (.ireturn, 1) := by decide +kernel
set_option maxRecDepth 20000 in
theorem ggX7_countCandidates_Jx4a65c_size_8abf5 : GoodIn wsX7_countCandidates wsJx4a65c_size_8abf5 := goodIn_r _ [7, 8, 49, 50, 51] (by decide +kernel) (by decide +kernel)
set_option maxRecDepth 20000 in
theorem gX7_countCandidates_Jx4a65c_size_8abf5 : GoodIn wsX7_countCandidates (wsV RX7 61 RJx4a65c yJx4a65c_size_8abf5 wsJx4a65c_size_8abf5) := goodIn_app (goodIn_of _ (by decide +kernel)) ggX7_countCandidates_Jx4a65c_size_8abf5
set_option maxRecDepth 20000 in
theorem ggX7_countCandidates_Jx4a65c_get_915e3 : GoodIn wsX7_countCandidates wsJx4a65c_get_915e3 := goodIn_r _ [12, 8, 13, 14, 15, 16, 17, 18, 19, 20, 21, 22, 23, 6, 24, 25, 49, 50, 51] (by decide +kernel) (by decide +kernel)
set_option maxRecDepth 20000 in
theorem gX7_countCandidates_Jx4a65c_get_915e3 : GoodIn wsX7_countCandidates (wsV RX7 234 RJx4a65c yJx4a65c_get_915e3 wsJx4a65c_get_915e3) := goodIn_app (goodIn_of _ (by decide +kernel)) ggX7_countCandidates_Jx4a65c_get_915e3
set_option maxRecDepth 20000 in
theorem ggX7_countCandidates_X3_accepts : GoodIn wsX7_countCandidates wsX3_accepts := goodIn_r _ [30, 31, 32, 33, 34, 35, 36, 37, 38, 39, 40, 52, 53, 54, 55, 56, 57, 58, 59, 60, 61, 62, 63] (by decide +kernel) (by decide +kernel)
set_option maxRecDepth 20000 in
theorem gX7_countCandidates_X3_accepts : GoodIn wsX7_countCandidates (wsV RX7 373 RX3 yX3_accepts wsX3_accepts) := goodIn_app (goodIn_of _ (by decide +kernel)) ggX7_countCandidates_X3_accepts
theorem dX7_countCandidates_0 : decode cX7_countCandidates 0 = .ok (.iconst 0, 1) := by decide +kernel
theorem dX7_countCandidates_1 : decode cX7_countCandidates 1 = .ok (.istore_n 2, 1) := by decide +kernel
theorem dX7_countCandidates_2 : decode cX7_countCandidates 2 = .ok (.iconst 0, 1) := by decide +kernel
theorem dX7_countCandidates_3 : decode cX7_countCandidates 3 = .ok (.istore_n 3, 1) := by decide +kernel
theorem dX7_countCandidates_4 : decode cX7_countCandidates 4 = .ok (.iload_n 3, 1) := by decide +kernel
theorem dX7_countCandidates_5 : decode cX7_countCandidates 5 = .ok (.aload_n 0, 1) := by decide +kernel
theorem dX7_countCandidates_6 : decode cX7_countCandidates 6 = .ok (.getfield 19, 3) := by decide +kernel
theorem dX7_countCandidates_9 : decode cX7_countCandidates 9 = .ok (.invokevirtual 61, 3) := by decide +kernel
theorem dX7_countCandidates_12 : decode cX7_countCandidates 12 = .ok (.if_icmp .ge 30, 3) := by decide +kernel
theorem dX7_countCandidates_15 : decode cX7_countCandidates 15 = .ok (.aload_n 1, 1) := by decide +kernel
theorem dX7_countCandidates_16 : decode cX7_countCandidates 16 = .ok (.aload_n 0, 1) := by decide +kernel
theorem dX7_countCandidates_17 : decode cX7_countCandidates 17 = .ok (.getfield 19, 3) := by decide +kernel
theorem dX7_countCandidates_20 : decode cX7_countCandidates 20 = .ok (.iload_n 3, 1) := by decide +kernel
theorem dX7_countCandidates_21 : decode cX7_countCandidates 21 = .ok (.invokevirtual 234, 3) := by decide +kernel
theorem dX7_countCandidates_24 : decode cX7_countCandidates 24 = .ok (.checkcast 178, 3) := by decide +kernel
theorem dX7_countCandidates_27 : decode cX7_countCandidates 27 = .ok (.invokevirtual 373, 3) := by decide +kernel
theorem dX7_countCandidates_30 : decode cX7_countCandidates 30 = .ok (.ifCond .eq 6, 3) := by decide +kernel
theorem dX7_countCandidates_33 : decode cX7_countCandidates 33 = .ok (.iinc 2 1, 3) := by decide +kernel
theorem dX7_countCandidates_36 : decode cX7_countCandidates 36 = .ok (.iinc 3 1, 3) := by decide +kernel
theorem dX7_countCandidates_39 : decode cX7_countCandidates 39 = .ok (.goto (-35), 3) := by decide +kernel
theorem dX7_countCandidates_42 : decode cX7_countCandidates 42 = .ok (.iload_n 2, 1) := by decide +kernel
theorem dX7_countCandidates_43 : decode cX7_countCandidates 43 = .ok (.ireturn, 1) := by decide +kernel
set_option maxRecDepth 20000 in
theorem ggX7_canBeShipped_X7_countCandidates : GoodIn wsX7_canBeShipped wsX7_countCandidates := goodIn_r _ [6, 7, 8, 9, 10, 11, 12, 13, 14, 15, 16, 17, 18, 19, 20, 21, 22, 23, 24, 25, 26, 27, 28, 29, 30, 31, 32, 33, 34, 35, 36, 37, 38, 39, 40, 41, 42, 43, 44, 45, 46, 53, 54, 55, 56, 57, 58, 59, 60, 61, 62, 63, 64, 65, 66, 67, 68, 69, 47, 48, 49, 50, 51, 52] (by decide +kernel) (by decide +kernel)
set_option maxRecDepth 20000 in
theorem gX7_canBeShipped_X7_countCandidates : GoodIn wsX7_canBeShipped (wsV RX7 273 RX7 yX7_countCandidates wsX7_countCandidates) := goodIn_app (goodIn_of _ (by decide +kernel)) ggX7_canBeShipped_X7_countCandidates
theorem dX7_canBeShipped_0 : decode cX7_canBeShipped 0 = .ok (.aload_n 0, 1) := by decide +kernel
theorem dX7_canBeShipped_1 : decode cX7_canBeShipped 1 = .ok (.aload_n 1, 1) := by decide +kernel
theorem dX7_canBeShipped_2 : decode cX7_canBeShipped 2 = .ok (.invokevirtual 273, 3) := by decide +kernel
theorem dX7_canBeShipped_5 : decode cX7_canBeShipped 5 = .ok (.aload_n 1, 1) := by decide +kernel
theorem dX7_canBeShipped_6 : decode cX7_canBeShipped 6 = .ok (.getfield 376, 3) := by decide +kernel
theorem dX7_canBeShipped_9 : decode cX7_canBeShipped 9 = .ok (.if_icmp .lt 7, 3) := by decide +kernel
theorem dX7_canBeShipped_12 : decode cX7_canBeShipped 12 = .ok (.iconst 1, 1) := by decide +kernel
theorem dX7_canBeShipped_13 : decode cX7_canBeShipped 13 = .ok (.goto 4, 3) := by decide +kernel
theorem dX7_canBeShipped_16 : decode cX7_canBeShipped 16 = .ok (.iconst 0, 1) := by decide +kernel
theorem dX7_canBeShipped_17 : decode cX7_canBeShipped 17 = .ok (.ireturn, 1) := by decide +kernel
set_option maxRecDepth 20000 in
theorem ggX7_findCandidate_X7_nextCandidate : GoodIn wsX7_findCandidate wsX7_nextCandidate := goodIn_r _ [5, 6, 7, 8, 9, 10, 11, 12, 13, 14, 15, 16, 17, 18, 19, 20, 21, 22, 23, 24, 25, 26, 27, 28, 29, 30, 31, 32, 33, 34, 35, 36, 37, 38, 39, 40, 41, 42, 43, 44, 45, 46, 47, 48, 49, 50, 51, 52, 53, 54, 55, 56, 57, 58, 59, 60, 61, 62, 63, 64, 65, 66, 67, 68, 69, 70, 71, 72, 73, 74] (by decide +kernel) (by decide +kernel)
set_option maxRecDepth 20000 in
theorem gX7_findCandidate_X7_nextCandidate : GoodIn wsX7_findCandidate (wsV RX7 379 RX7 yX7_nextCandidate wsX7_nextCandidate) := goodIn_app (goodIn_of _ (by decide +kernel)) ggX7_findCandidate_X7_nextCandidate
theorem dX7_findCandidate_0 : decode cX7_findCandidate 0 = .ok (.aload_n 0, 1) := by decide +kernel
theorem dX7_findCandidate_1 : decode cX7_findCandidate 1 = .ok (.aload_n 1, 1) := by decide +kernel
theorem dX7_findCandidate_2 : decode cX7_findCandidate 2 = .ok (.aconst_null, 1) := by decide +kernel
theorem dX7_findCandidate_3 : decode cX7_findCandidate 3 = .ok (.invokevirtual 379, 3) := by decide +kernel
theorem dX7_findCandidate_6 : decode cX7_findCandidate 6 = .ok (.astore_n 3, 1) := by decide +kernel
theorem dX7_findCandidate_7 : decode cX7_findCandidate 7 = .ok (.iconst 0, 1) := by decide +kernel
theorem dX7_findCandidate_8 : decode cX7_findCandidate 8 = .ok (.istore 4, 2) := by decide +kernel
theorem dX7_findCandidate_10 : decode cX7_findCandidate 10 = .ok (.iload 4, 2) := by decide +kernel
theorem dX7_findCandidate_12 : decode cX7_findCandidate 12 = .ok (.iload_n 2, 1) := by decide +kernel
theorem dX7_findCandidate_13 : decode cX7_findCandidate 13 = .ok (.if_icmp .ge 20, 3) := by decide +kernel
theorem dX7_findCandidate_16 : decode cX7_findCandidate 16 = .ok (.aload_n 3, 1) := by decide +kernel
theorem dX7_findCandidate_17 : decode cX7_findCandidate 17 = .ok (.ifnull 16, 3) := by decide +kernel
theorem dX7_findCandidate_20 : decode cX7_findCandidate 20 = .ok (.aload_n 0, 1) := by decide +kernel
theorem dX7_findCandidate_21 : decode cX7_findCandidate 21 = .ok (.aload_n 1, 1) := by decide +kernel
theorem dX7_findCandidate_22 : decode cX7_findCandidate 22 = .ok (.aload_n 3, 1) := by decide +kernel
theorem dX7_findCandidate_23 : decode cX7_findCandidate 23 = .ok (.invokevirtual 379, 3) := by decide +kernel
theorem dX7_findCandidate_26 : decode cX7_findCandidate 26 = .ok (.astore_n 3, 1) := by decide +kernel
theorem dX7_findCandidate_27 : decode cX7_findCandidate 27 = .ok (.iinc 4 1, 3) := by decide +kernel
theorem dX7_findCandidate_30 : decode cX7_findCandidate 30 = .ok (.goto (-20), 3) := by decide +kernel
theorem dX7_findCandidate_33 : decode cX7_findCandidate 33 = .ok (.aload_n 3, 1) := by decide +kernel
theorem dX7_findCandidate_34 : decode cX7_findCandidate 34 = .ok (.areturn, 1) := by decide +kernel
set_option maxRecDepth 20000 in
theorem ggX7_nextCandidate_Jx4a65c_size_8abf5 : GoodIn wsX7_nextCandidate wsJx4a65c_size_8abf5 := goodIn_r _ [7, 8, 55, 56, 57] (by decide +kernel) (by decide +kernel)
set_option maxRecDepth 20000 in
theorem gX7_nextCandidate_Jx4a65c_size_8abf5 : GoodIn wsX7_nextCandidate (wsV RX7 61 RJx4a65c yJx4a65c_size_8abf5 wsJx4a65c_size_8abf5) := goodIn_app (goodIn_of _ (by decide +kernel)) ggX7_nextCandidate_Jx4a65c_size_8abf5
set_option maxRecDepth 20000 in
theorem ggX7_nextCandidate_Jx4a65c_get_915e3 : GoodIn wsX7_nextCandidate wsJx4a65c_get_915e3 := goodIn_r _ [12, 8, 13, 14, 15, 16, 17, 18, 19, 20, 21, 22, 23, 6, 24, 25, 55, 56, 57] (by decide +kernel) (by decide +kernel)
set_option maxRecDepth 20000 in
theorem gX7_nextCandidate_Jx4a65c_get_915e3 : GoodIn wsX7_nextCandidate (wsV RX7 234 RJx4a65c yJx4a65c_get_915e3 wsJx4a65c_get_915e3) := goodIn_app (goodIn_of _ (by decide +kernel)) ggX7_nextCandidate_Jx4a65c_get_915e3
set_option maxRecDepth 20000 in
theorem ggX7_nextCandidate_X4_isAheadOf : GoodIn wsX7_nextCandidate wsX4_isAheadOf := goodIn_r _ [30, 31, 32, 58, 59, 60, 61, 62, 63] (by decide +kernel) (by decide +kernel)
set_option maxRecDepth 20000 in
theorem gX7_nextCandidate_X4_isAheadOf : GoodIn wsX7_nextCandidate (wsV RX7 242 RX4 yX4_isAheadOf wsX4_isAheadOf) := goodIn_app (goodIn_of _ (by decide +kernel)) ggX7_nextCandidate_X4_isAheadOf
set_option maxRecDepth 20000 in
theorem ggX7_nextCandidate_X3_accepts : GoodIn wsX7_nextCandidate wsX3_accepts := goodIn_r _ [37, 38, 39, 40, 41, 42, 43, 44, 29, 45, 46, 58, 59, 60, 61, 62, 63, 64, 65, 66, 67, 68, 69] (by decide +kernel) (by decide +kernel)
set_option maxRecDepth 20000 in
theorem gX7_nextCandidate_X3_accepts : GoodIn wsX7_nextCandidate (wsV RX7 373 RX3 yX3_accepts wsX3_accepts) := goodIn_app (goodIn_of _ (by decide +kernel)) ggX7_nextCandidate_X3_accepts
theorem dX7_nextCandidate_0 : decode cX7_nextCandidate 0 = .ok (.aconst_null, 1) := by decide +kernel
theorem dX7_nextCandidate_1 : decode cX7_nextCandidate 1 = .ok (.astore_n 3, 1) := by decide +kernel
theorem dX7_nextCandidate_2 : decode cX7_nextCandidate 2 = .ok (.iconst 0, 1) := by decide +kernel
theorem dX7_nextCandidate_3 : decode cX7_nextCandidate 3 = .ok (.istore 4, 2) := by decide +kernel
theorem dX7_nextCandidate_5 : decode cX7_nextCandidate 5 = .ok (.iload 4, 2) := by decide +kernel
theorem dX7_nextCandidate_7 : decode cX7_nextCandidate 7 = .ok (.aload_n 0, 1) := by decide +kernel
theorem dX7_nextCandidate_8 : decode cX7_nextCandidate 8 = .ok (.getfield 19, 3) := by decide +kernel
theorem dX7_nextCandidate_11 : decode cX7_nextCandidate 11 = .ok (.invokevirtual 61, 3) := by decide +kernel
theorem dX7_nextCandidate_14 : decode cX7_nextCandidate 14 = .ok (.if_icmp .ge 73, 3) := by decide +kernel
theorem dX7_nextCandidate_17 : decode cX7_nextCandidate 17 = .ok (.aload_n 0, 1) := by decide +kernel
theorem dX7_nextCandidate_18 : decode cX7_nextCandidate 18 = .ok (.getfield 19, 3) := by decide +kernel
theorem dX7_nextCandidate_21 : decode cX7_nextCandidate 21 = .ok (.iload 4, 2) := by decide +kernel
theorem dX7_nextCandidate_23 : decode cX7_nextCandidate 23 = .ok (.invokevirtual 234, 3) := by decide +kernel
theorem dX7_nextCandidate_26 : decode cX7_nextCandidate 26 = .ok (.checkcast 178, 3) := by decide +kernel
theorem dX7_nextCandidate_29 : decode cX7_nextCandidate 29 = .ok (.astore 5, 2) := by decide +kernel
theorem dX7_nextCandidate_31 : decode cX7_nextCandidate 31 = .ok (.aload_n 2, 1) := by decide +kernel
theorem dX7_nextCandidate_32 : decode cX7_nextCandidate 32 = .ok (.ifnull 12, 3) := by decide +kernel
theorem dX7_nextCandidate_35 : decode cX7_nextCandidate 35 = .ok (.aload_n 2, 1) := by decide +kernel
theorem dX7_nextCandidate_36 : decode cX7_nextCandidate 36 = .ok (.aload 5, 2) := by decide +kernel
theorem dX7_nextCandidate_38 : decode cX7_nextCandidate 38 = .ok (.invokevirtual 242, 3) := by decide +kernel
theorem dX7_nextCandidate_41 : decode cX7_nextCandidate 41 = .ok (.ifCond .eq 7, 3) := by decide +kernel
theorem dX7_nextCandidate_44 : decode cX7_nextCandidate 44 = .ok (.iconst 1, 1) := by decide +kernel
theorem dX7_nextCandidate_45 : decode cX7_nextCandidate 45 = .ok (.goto 4, 3) := by decide +kernel
theorem dX7_nextCandidate_48 : decode cX7_nextCandidate 48 = .ok (.iconst 0, 1) := by decide +kernel
theorem dX7_nextCandidate_49 : decode cX7_nextCandidate 49 = .ok (.istore 6, 2) := by decide +kernel
theorem dX7_nextCandidate_51 : decode cX7_nextCandidate 51 = .ok (.iload 6, 2) := by decide +kernel
theorem dX7_nextCandidate_53 : decode cX7_nextCandidate 53 = .ok (.ifCond .eq 28, 3) := by decide +kernel
theorem dX7_nextCandidate_56 : decode cX7_nextCandidate 56 = .ok (.aload_n 1, 1) := by decide +kernel
theorem dX7_nextCandidate_57 : decode cX7_nextCandidate 57 = .ok (.aload 5, 2) := by decide +kernel
theorem dX7_nextCandidate_59 : decode cX7_nextCandidate 59 = .ok (.invokevirtual 373, 3) := by decide +kernel
theorem dX7_nextCandidate_62 : decode cX7_nextCandidate 62 = .ok (.ifCond .eq 19, 3) := by decide +kernel
theorem dX7_nextCandidate_65 : decode cX7_nextCandidate 65 = .ok (.aload_n 3, 1) := by decide +kernel
theorem dX7_nextCandidate_66 : decode cX7_nextCandidate 66 = .ok (.ifnull 12, 3) := by decide +kernel
theorem dX7_nextCandidate_69 : decode cX7_nextCandidate 69 = .ok (.aload 5, 2) := by decide +kernel
theorem dX7_nextCandidate_71 : decode cX7_nextCandidate 71 = .ok (.aload_n 3, 1) := by decide +kernel
theorem dX7_nextCandidate_72 : decode cX7_nextCandidate 72 = .ok (.invokevirtual 242, 3) := by decide +kernel
theorem dX7_nextCandidate_75 : decode cX7_nextCandidate 75 = .ok (.ifCond .eq 6, 3) := by decide +kernel
theorem dX7_nextCandidate_78 : decode cX7_nextCandidate 78 = .ok (.aload 5, 2) := by decide +kernel
theorem dX7_nextCandidate_80 : decode cX7_nextCandidate 80 = .ok (.astore_n 3, 1) := by decide +kernel
theorem dX7_nextCandidate_81 : decode cX7_nextCandidate 81 = .ok (.iinc 4 1, 3) := by decide +kernel
theorem dX7_nextCandidate_84 : decode cX7_nextCandidate 84 = .ok (.goto (-79), 3) := by decide +kernel
theorem dX7_nextCandidate_87 : decode cX7_nextCandidate 87 = .ok (.aload_n 3, 1) := by decide +kernel
theorem dX7_nextCandidate_88 : decode cX7_nextCandidate 88 = .ok (.areturn, 1) := by decide +kernel
set_option maxRecDepth 20000 in
theorem ggX7_shipCandidates_X7_nextCandidate : GoodIn wsX7_shipCandidates wsX7_nextCandidate := goodIn_r _ [10, 11, 12, 13, 14, 15, 16, 17, 18, 19, 20, 21, 22, 23, 24, 25, 26, 27, 28, 29, 30, 31, 32, 33, 34, 35, 36, 37, 38, 39, 40, 41, 42, 43, 44, 45, 46, 47, 48, 49, 50, 51, 52, 53, 54, 55, 56, 74, 75, 76, 77, 78, 79, 80, 81, 82, 83, 84, 68, 69, 70, 71, 72, 73, 62, 63, 64, 65, 66, 67] (by decide +kernel) (by decide +kernel)
set_option maxRecDepth 20000 in
theorem gX7_shipCandidates_X7_nextCandidate : GoodIn wsX7_shipCandidates (wsV RX7 379 RX7 yX7_nextCandidate wsX7_nextCandidate) := goodIn_app (goodIn_of _ (by decide +kernel)) ggX7_shipCandidates_X7_nextCandidate
set_option maxRecDepth 20000 in
theorem ggX7_shipCandidates_X4_leave : GoodIn wsX7_shipCandidates wsX4_leave := goodIn_r _ [60, 56, 61, 68, 69, 70, 71, 72, 73] (by decide +kernel) (by decide +kernel)
set_option maxRecDepth 20000 in
theorem gX7_shipCandidates_X4_leave : GoodIn wsX7_shipCandidates (wsV RX7 208 RX4 yX4_leave wsX4_leave) := goodIn_app (goodIn_of _ (by decide +kernel)) ggX7_shipCandidates_X4_leave
theorem dX7_shipCandidates_0 : decode cX7_shipCandidates 0 = .ok (.iconst 0, 1) := by decide +kernel
theorem dX7_shipCandidates_1 : decode cX7_shipCandidates 1 = .ok (.istore_n 2, 1) := by decide +kernel
theorem dX7_shipCandidates_2 : decode cX7_shipCandidates 2 = .ok (.iconst 0, 1) := by decide +kernel
theorem dX7_shipCandidates_3 : decode cX7_shipCandidates 3 = .ok (.istore_n 3, 1) := by decide +kernel
theorem dX7_shipCandidates_4 : decode cX7_shipCandidates 4 = .ok (.iload_n 3, 1) := by decide +kernel
theorem dX7_shipCandidates_5 : decode cX7_shipCandidates 5 = .ok (.aload_n 1, 1) := by decide +kernel
theorem dX7_shipCandidates_6 : decode cX7_shipCandidates 6 = .ok (.getfield 376, 3) := by decide +kernel
theorem dX7_shipCandidates_9 : decode cX7_shipCandidates 9 = .ok (.if_icmp .ge 57, 3) := by decide +kernel
theorem dX7_shipCandidates_12 : decode cX7_shipCandidates 12 = .ok (.aload_n 0, 1) := by decide +kernel
theorem dX7_shipCandidates_13 : decode cX7_shipCandidates 13 = .ok (.aload_n 1, 1) := by decide +kernel
theorem dX7_shipCandidates_14 : decode cX7_shipCandidates 14 = .ok (.aconst_null, 1) := by decide +kernel
theorem dX7_shipCandidates_15 : decode cX7_shipCandidates 15 = .ok (.invokevirtual 379, 3) := by decide +kernel
theorem dX7_shipCandidates_18 : decode cX7_shipCandidates 18 = .ok (.astore 4, 2) := by decide +kernel
theorem dX7_shipCandidates_20 : decode cX7_shipCandidates 20 = .ok (.aload 4, 2) := by decide +kernel
theorem dX7_shipCandidates_22 : decode cX7_shipCandidates 22 = .ok (.ifnonnull 6, 3) := by decide +kernel
theorem dX7_shipCandidates_25 : decode cX7_shipCandidates 25 = .ok (.goto 41, 3) := by decide +kernel
theorem dX7_shipCandidates_28 : decode cX7_shipCandidates 28 = .ok (.iload_n 3, 1) := by decide +kernel
theorem dX7_shipCandidates_29 : decode cX7_shipCandidates 29 = .ok (.ifCond .ne 12, 3) := by decide +kernel
theorem dX7_shipCandidates_32 : decode cX7_shipCandidates 32 = .ok (.aload_n 1, 1) := by decide +kernel
theorem dX7_shipCandidates_33 : decode cX7_shipCandidates 33 = .ok (.aload 4, 2) := by decide +kernel
theorem dX7_shipCandidates_35 : decode cX7_shipCandidates 35 = .ok (.getfield 212, 3) := by decide +kernel
theorem dX7_shipCandidates_38 : decode cX7_shipCandidates 38 = .ok (.putfield 297, 3) := by decide +kernel
theorem dX7_shipCandidates_41 : decode cX7_shipCandidates 41 = .ok (.iload_n 2, 1) := by decide +kernel
theorem dX7_shipCandidates_42 : decode cX7_shipCandidates 42 = .ok (.aload 4, 2) := by decide +kernel
theorem dX7_shipCandidates_44 : decode cX7_shipCandidates 44 = .ok (.getfield 212, 3) := by decide +kernel
theorem dX7_shipCandidates_47 : decode cX7_shipCandidates 47 = .ok (.iadd, 1) := by decide +kernel
theorem dX7_shipCandidates_48 : decode cX7_shipCandidates 48 = .ok (.istore_n 2, 1) := by decide +kernel
theorem dX7_shipCandidates_49 : decode cX7_shipCandidates 49 = .ok (.aload 4, 2) := by decide +kernel
theorem dX7_shipCandidates_51 : decode cX7_shipCandidates 51 = .ok (.bipush 115, 2) := by decide +kernel
theorem dX7_shipCandidates_53 : decode cX7_shipCandidates 53 = .ok (.aload_n 0, 1) := by decide +kernel
theorem dX7_shipCandidates_54 : decode cX7_shipCandidates 54 = .ok (.getfield 39, 3) := by decide +kernel
theorem dX7_shipCandidates_57 : decode cX7_shipCandidates 57 = .ok (.invokevirtual 208, 3) := by decide +kernel
theorem dX7_shipCandidates_60 : decode cX7_shipCandidates 60 = .ok (.iinc 3 1, 3) := by decide +kernel
theorem dX7_shipCandidates_63 : decode cX7_shipCandidates 63 = .ok (.goto (-59), 3) := by decide +kernel
theorem dX7_shipCandidates_66 : decode cX7_shipCandidates 66 = .ok (.aload_n 1, 1) := by decide +kernel
theorem dX7_shipCandidates_67 : decode cX7_shipCandidates 67 = .ok (.bipush 115, 2) := by decide +kernel
theorem dX7_shipCandidates_69 : decode cX7_shipCandidates 69 = .ok (.putfield 269, 3) := by decide +kernel
theorem dX7_shipCandidates_72 : decode cX7_shipCandidates 72 = .ok (.iload_n 2, 1) := by decide +kernel
theorem dX7_shipCandidates_73 : decode cX7_shipCandidates 73 = .ok (.ireturn, 1) := by decide +kernel
set_option maxRecDepth 20000 in
theorem ggX7_isMeterConsistent_X7_bill : GoodIn wsX7_isMeterConsistent wsX7_bill := goodIn_r _ [9, 2, 10, 3, 11, 12, 32, 33, 34, 35, 36, 37, 38, 39, 40, 41, 42, 43, 44, 45, 46, 47, 48, 49, 50] (by decide +kernel) (by decide +kernel)
set_option maxRecDepth 20000 in
theorem gX7_isMeterConsistent_X7_bill : GoodIn wsX7_isMeterConsistent (wsV RX7 383 RX7 yX7_bill wsX7_bill) := goodIn_app (goodIn_of _ (by decide +kernel)) ggX7_isMeterConsistent_X7_bill
set_option maxRecDepth 20000 in
theorem ggX7_isMeterConsistent_X7_billByRecords : GoodIn wsX7_isMeterConsistent wsX7_billByRecords := goodIn_ca (goodIn_r _ [16, 2, 1, 11, 12, 17, 18, 19, 20, 21, 22, 23, 24, 25, 26, 27, 28, 29, 30, 31, 32, 33, 34, 35, 36, 37, 38, 39, 45, 46, 47, 48, 49, 50, 40, 41, 42, 43, 44] (by decide +kernel) (by decide +kernel)) (goodIn_sub (fun _ h => List.mem_cons_of_mem _ (List.mem_append_right _ h)) (by decide +kernel))
set_option maxRecDepth 20000 in
theorem gX7_isMeterConsistent_X7_billByRecords : GoodIn wsX7_isMeterConsistent (wsV RX7 387 RX7 yX7_billByRecords wsX7_billByRecords) := goodIn_app (goodIn_of _ (by decide +kernel)) ggX7_isMeterConsistent_X7_billByRecords
set_option maxRecDepth 20000 in
theorem ggX7_isMeterConsistent_X2_recordedGreatest : GoodIn wsX7_isMeterConsistent wsX2_recordedGreatest := goodIn_ca (goodIn_r _ [27, 22, 28, 29, 30, 31, 40, 41, 42, 43, 44] (by decide +kernel) (by decide +kernel)) (goodIn_sub (fun _ h => List.mem_cons_of_mem _ (List.mem_append_right _ h)) (by decide +kernel))
set_option maxRecDepth 20000 in
theorem gX7_isMeterConsistent_X2_recordedGreatest : GoodIn wsX7_isMeterConsistent (wsV RX7 158 RX2 yX2_recordedGreatest wsX2_recordedGreatest) := goodIn_app (goodIn_of _ (by decide +kernel)) ggX7_isMeterConsistent_X2_recordedGreatest
theorem dX7_isMeterConsistent_0 : decode cX7_isMeterConsistent 0 = .ok (.aload_n 0, 1) := by decide +kernel
theorem dX7_isMeterConsistent_1 : decode cX7_isMeterConsistent 1 = .ok (.getfield 39, 3) := by decide +kernel
theorem dX7_isMeterConsistent_4 : decode cX7_isMeterConsistent 4 = .ok (.ifCond .lt 67, 3) := by decide +kernel
theorem dX7_isMeterConsistent_7 : decode cX7_isMeterConsistent 7 = .ok (.aload_n 0, 1) := by decide +kernel
theorem dX7_isMeterConsistent_8 : decode cX7_isMeterConsistent 8 = .ok (.getfield 39, 3) := by decide +kernel
theorem dX7_isMeterConsistent_11 : decode cX7_isMeterConsistent 11 = .ok (.sipush 960, 3) := by decide +kernel
theorem dX7_isMeterConsistent_14 : decode cX7_isMeterConsistent 14 = .ok (.if_icmp .gt 57, 3) := by decide +kernel
theorem dX7_isMeterConsistent_17 : decode cX7_isMeterConsistent 17 = .ok (.aload_n 0, 1) := by decide +kernel
theorem dX7_isMeterConsistent_18 : decode cX7_isMeterConsistent 18 = .ok (.invokevirtual 383, 3) := by decide +kernel
theorem dX7_isMeterConsistent_21 : decode cX7_isMeterConsistent 21 = .ok (.aload_n 0, 1) := by decide +kernel
theorem dX7_isMeterConsistent_22 : decode cX7_isMeterConsistent 22 = .ok (.invokevirtual 387, 3) := by decide +kernel
theorem dX7_isMeterConsistent_25 : decode cX7_isMeterConsistent 25 = .ok (.lcmp, 1) := by decide +kernel
theorem dX7_isMeterConsistent_26 : decode cX7_isMeterConsistent 26 = .ok (.ifCond .ne 45, 3) := by decide +kernel
theorem dX7_isMeterConsistent_29 : decode cX7_isMeterConsistent 29 = .ok (.aload_n 0, 1) := by decide +kernel
theorem dX7_isMeterConsistent_30 : decode cX7_isMeterConsistent 30 = .ok (.getfield 35, 3) := by decide +kernel
theorem dX7_isMeterConsistent_33 : decode cX7_isMeterConsistent 33 = .ok (.getfield 149, 3) := by decide +kernel
theorem dX7_isMeterConsistent_36 : decode cX7_isMeterConsistent 36 = .ok (.aload_n 0, 1) := by decide +kernel
theorem dX7_isMeterConsistent_37 : decode cX7_isMeterConsistent 37 = .ok (.getfield 35, 3) := by decide +kernel
theorem dX7_isMeterConsistent_40 : decode cX7_isMeterConsistent 40 = .ok (.aload_n 0, 1) := by decide +kernel
theorem dX7_isMeterConsistent_41 : decode cX7_isMeterConsistent 41 = .ok (.getfield 39, 3) := by decide +kernel
theorem dX7_isMeterConsistent_44 : decode cX7_isMeterConsistent 44 = .ok (.invokevirtual 158, 3) := by decide +kernel
theorem dX7_isMeterConsistent_47 : decode cX7_isMeterConsistent 47 = .ok (.if_icmp .ne 24, 3) := by decide +kernel
theorem dX7_isMeterConsistent_50 : decode cX7_isMeterConsistent 50 = .ok (.aload_n 0, 1) := by decide +kernel
theorem dX7_isMeterConsistent_51 : decode cX7_isMeterConsistent 51 = .ok (.getfield 35, 3) := by decide +kernel
theorem dX7_isMeterConsistent_54 : decode cX7_isMeterConsistent 54 = .ok (.getfield 146, 3) := by decide +kernel
theorem dX7_isMeterConsistent_57 : decode cX7_isMeterConsistent 57 = .ok (.aload_n 0, 1) := by decide +kernel
theorem dX7_isMeterConsistent_58 : decode cX7_isMeterConsistent 58 = .ok (.getfield 35, 3) := by decide +kernel
theorem dX7_isMeterConsistent_61 : decode cX7_isMeterConsistent 61 = .ok (.getfield 149, 3) := by decide +kernel
theorem dX7_isMeterConsistent_64 : decode cX7_isMeterConsistent 64 = .ok (.if_icmp .gt 7, 3) := by decide +kernel
theorem dX7_isMeterConsistent_67 : decode cX7_isMeterConsistent 67 = .ok (.iconst 1, 1) := by decide +kernel
theorem dX7_isMeterConsistent_68 : decode cX7_isMeterConsistent 68 = .ok (.goto 4, 3) := by decide +kernel
theorem dX7_isMeterConsistent_71 : decode cX7_isMeterConsistent 71 = .ok (.iconst 0, 1) := by decide +kernel
theorem dX7_isMeterConsistent_72 : decode cX7_isMeterConsistent 72 = .ok (.ireturn, 1) := by decide +kernel
set_option maxRecDepth 20000 in
theorem ggX7_areRoomsConsistent_Jx4a65c_size_8abf5 : GoodIn wsX7_areRoomsConsistent wsJx4a65c_size_8abf5 := goodIn_r _ [13, 14, 72, 73, 74] (by decide +kernel) (by decide +kernel)
set_option maxRecDepth 20000 in
theorem gX7_areRoomsConsistent_Jx4a65c_size_8abf5 : GoodIn wsX7_areRoomsConsistent (wsV RX7 61 RJx4a65c yJx4a65c_size_8abf5 wsJx4a65c_size_8abf5) := goodIn_app (goodIn_of _ (by decide +kernel)) ggX7_areRoomsConsistent_Jx4a65c_size_8abf5
set_option maxRecDepth 20000 in
theorem ggX7_areRoomsConsistent_Jx4a65c_get_915e3 : GoodIn wsX7_areRoomsConsistent wsJx4a65c_get_915e3 := goodIn_r _ [18, 14, 19, 20, 21, 22, 23, 24, 25, 26, 27, 28, 29, 12, 30, 31, 72, 73, 74] (by decide +kernel) (by decide +kernel)
set_option maxRecDepth 20000 in
theorem gX7_areRoomsConsistent_Jx4a65c_get_915e3 : GoodIn wsX7_areRoomsConsistent (wsV RX7 234 RJx4a65c yJx4a65c_get_915e3 wsJx4a65c_get_915e3) := goodIn_app (goodIn_of _ (by decide +kernel)) ggX7_areRoomsConsistent_Jx4a65c_get_915e3
set_option maxRecDepth 20000 in
theorem ggX7_areRoomsConsistent_X7_spaceIn : GoodIn wsX7_areRoomsConsistent wsX7_spaceIn := goodIn_r _ [36, 37, 38, 39, 40, 9, 10, 11, 12, 13, 14, 15, 16, 17, 18, 19, 20, 21, 22, 23, 24, 25, 26, 27, 28, 29, 30, 31, 41, 42, 43, 44, 45, 46, 47, 48, 49, 50, 51, 52, 53, 54, 75, 76, 77, 78, 79, 80, 81, 82, 83, 72, 73, 74] (by decide +kernel) (by decide +kernel)
set_option maxRecDepth 20000 in
theorem gX7_areRoomsConsistent_X7_spaceIn : GoodIn wsX7_areRoomsConsistent (wsV RX7 124 RX7 yX7_spaceIn wsX7_spaceIn) := goodIn_app (goodIn_of _ (by decide +kernel)) ggX7_areRoomsConsistent_X7_spaceIn
theorem dX7_areRoomsConsistent_0 : decode cX7_areRoomsConsistent 0 = .ok (.iconst 0, 1) := by decide +kernel
theorem dX7_areRoomsConsistent_1 : decode cX7_areRoomsConsistent 1 = .ok (.istore_n 1, 1) := by decide +kernel
theorem dX7_areRoomsConsistent_2 : decode cX7_areRoomsConsistent 2 = .ok (.iload_n 1, 1) := by decide +kernel
theorem dX7_areRoomsConsistent_3 : decode cX7_areRoomsConsistent 3 = .ok (.aload_n 0, 1) := by decide +kernel
theorem dX7_areRoomsConsistent_4 : decode cX7_areRoomsConsistent 4 = .ok (.getfield 10, 3) := by decide +kernel
theorem dX7_areRoomsConsistent_7 : decode cX7_areRoomsConsistent 7 = .ok (.invokevirtual 61, 3) := by decide +kernel
theorem dX7_areRoomsConsistent_10 : decode cX7_areRoomsConsistent 10 = .ok (.if_icmp .ge 81, 3) := by decide +kernel
theorem dX7_areRoomsConsistent_13 : decode cX7_areRoomsConsistent 13 = .ok (.aload_n 0, 1) := by decide +kernel
theorem dX7_areRoomsConsistent_14 : decode cX7_areRoomsConsistent 14 = .ok (.getfield 10, 3) := by decide +kernel
theorem dX7_areRoomsConsistent_17 : decode cX7_areRoomsConsistent 17 = .ok (.iload_n 1, 1) := by decide +kernel
theorem dX7_areRoomsConsistent_18 : decode cX7_areRoomsConsistent 18 = .ok (.invokevirtual 234, 3) := by decide +kernel
theorem dX7_areRoomsConsistent_21 : decode cX7_areRoomsConsistent 21 = .ok (.checkcast 66, 3) := by decide +kernel
theorem dX7_areRoomsConsistent_24 : decode cX7_areRoomsConsistent 24 = .ok (.astore_n 2, 1) := by decide +kernel
theorem dX7_areRoomsConsistent_25 : decode cX7_areRoomsConsistent 25 = .ok (.aload_n 2, 1) := by decide +kernel
theorem dX7_areRoomsConsistent_26 : decode cX7_areRoomsConsistent 26 = .ok (.getfield 205, 3) := by decide +kernel
theorem dX7_areRoomsConsistent_29 : decode cX7_areRoomsConsistent 29 = .ok (.iload_n 1, 1) := by decide +kernel
theorem dX7_areRoomsConsistent_30 : decode cX7_areRoomsConsistent 30 = .ok (.if_icmp .ne 47, 3) := by decide +kernel
theorem dX7_areRoomsConsistent_33 : decode cX7_areRoomsConsistent 33 = .ok (.aload_n 2, 1) := by decide +kernel
theorem dX7_areRoomsConsistent_34 : decode cX7_areRoomsConsistent 34 = .ok (.getfield 79, 3) := by decide +kernel
theorem dX7_areRoomsConsistent_37 : decode cX7_areRoomsConsistent 37 = .ok (.aload_n 2, 1) := by decide +kernel
theorem dX7_areRoomsConsistent_38 : decode cX7_areRoomsConsistent 38 = .ok (.getfield 82, 3) := by decide +kernel
theorem dX7_areRoomsConsistent_41 : decode cX7_areRoomsConsistent 41 = .ok (.if_icmp .gt 36, 3) := by decide +kernel
theorem dX7_areRoomsConsistent_44 : decode cX7_areRoomsConsistent 44 = .ok (.aload_n 2, 1) := by decide +kernel
theorem dX7_areRoomsConsistent_45 : decode cX7_areRoomsConsistent 45 = .ok (.getfield 100, 3) := by decide +kernel
theorem dX7_areRoomsConsistent_48 : decode cX7_areRoomsConsistent 48 = .ok (.sipush (-400), 3) := by decide +kernel
theorem dX7_areRoomsConsistent_51 : decode cX7_areRoomsConsistent 51 = .ok (.if_icmp .lt 26, 3) := by decide +kernel
theorem dX7_areRoomsConsistent_54 : decode cX7_areRoomsConsistent 54 = .ok (.aload_n 2, 1) := by decide +kernel
theorem dX7_areRoomsConsistent_55 : decode cX7_areRoomsConsistent 55 = .ok (.getfield 107, 3) := by decide +kernel
theorem dX7_areRoomsConsistent_58 : decode cX7_areRoomsConsistent 58 = .ok (.aload_n 0, 1) := by decide +kernel
theorem dX7_areRoomsConsistent_59 : decode cX7_areRoomsConsistent 59 = .ok (.getfield 39, 3) := by decide +kernel
theorem dX7_areRoomsConsistent_62 : decode cX7_areRoomsConsistent 62 = .ok (.if_icmp .gt 15, 3) := by decide +kernel
theorem dX7_areRoomsConsistent_65 : decode cX7_areRoomsConsistent 65 = .ok (.aload_n 0, 1) := by decide +kernel
theorem dX7_areRoomsConsistent_66 : decode cX7_areRoomsConsistent 66 = .ok (.aload_n 2, 1) := by decide +kernel
theorem dX7_areRoomsConsistent_67 : decode cX7_areRoomsConsistent 67 = .ok (.invokevirtual 124, 3) := by decide +kernel
theorem dX7_areRoomsConsistent_70 : decode cX7_areRoomsConsistent 70 = .ok (.ifCond .lt 7, 3) := by decide +kernel
theorem dX7_areRoomsConsistent_73 : decode cX7_areRoomsConsistent 73 = .ok (.iconst 1, 1) := by decide +kernel
theorem dX7_areRoomsConsistent_74 : decode cX7_areRoomsConsistent 74 = .ok (.goto 4, 3) := by decide +kernel
theorem dX7_areRoomsConsistent_77 : decode cX7_areRoomsConsistent 77 = .ok (.iconst 0, 1) := by decide +kernel
theorem dX7_areRoomsConsistent_78 : decode cX7_areRoomsConsistent 78 = .ok (.istore_n 3, 1) := by decide +kernel
theorem dX7_areRoomsConsistent_79 : decode cX7_areRoomsConsistent 79 = .ok (.iload_n 3, 1) := by decide +kernel
theorem dX7_areRoomsConsistent_80 : decode cX7_areRoomsConsistent 80 = .ok (.ifCond .ne 5, 3) := by decide +kernel
theorem dX7_areRoomsConsistent_83 : decode cX7_areRoomsConsistent 83 = .ok (.iconst 0, 1) := by decide +kernel
theorem dX7_areRoomsConsistent_84 : decode cX7_areRoomsConsistent 84 = .ok (.ireturn, 1) := by decide +kernel
theorem dX7_areRoomsConsistent_85 : decode cX7_areRoomsConsistent 85 = .ok (.iinc 1 1, 3) := by decide +kernel
theorem dX7_areRoomsConsistent_88 : decode cX7_areRoomsConsistent 88 = .ok (.goto (-86), 3) := by decide +kernel
theorem dX7_areRoomsConsistent_91 : decode cX7_areRoomsConsistent 91 = .ok (.aload_n 0, 1) := by decide +kernel
theorem dX7_areRoomsConsistent_92 : decode cX7_areRoomsConsistent 92 = .ok (.getfield 10, 3) := by decide +kernel
theorem dX7_areRoomsConsistent_95 : decode cX7_areRoomsConsistent 95 = .ok (.invokevirtual 61, 3) := by decide +kernel
theorem dX7_areRoomsConsistent_98 : decode cX7_areRoomsConsistent 98 = .ok (.iconst 4, 1) := by decide +kernel
theorem dX7_areRoomsConsistent_99 : decode cX7_areRoomsConsistent 99 = .ok (.if_icmp .gt 7, 3) := by decide +kernel
theorem dX7_areRoomsConsistent_102 : decode cX7_areRoomsConsistent 102 = .ok (.iconst 1, 1) := by decide +kernel
theorem dX7_areRoomsConsistent_103 : decode cX7_areRoomsConsistent 103 = .ok (.goto 4, 3) := by decide +kernel
theorem dX7_areRoomsConsistent_106 : decode cX7_areRoomsConsistent 106 = .ok (.iconst 0, 1) := by decide +kernel
theorem dX7_areRoomsConsistent_107 : decode cX7_areRoomsConsistent 107 = .ok (.ireturn, 1) := by decide +kernel
set_option maxRecDepth 20000 in
theorem ggX7_arePalletsConsistent_Jx4a65c_size_8abf5 : GoodIn wsX7_arePalletsConsistent wsJx4a65c_size_8abf5 := goodIn_r _ [13, 14, 84, 85, 86] (by decide +kernel) (by decide +kernel)
set_option maxRecDepth 20000 in
theorem gX7_arePalletsConsistent_Jx4a65c_size_8abf5 : GoodIn wsX7_arePalletsConsistent (wsV RX7 61 RJx4a65c yJx4a65c_size_8abf5 wsJx4a65c_size_8abf5) := goodIn_app (goodIn_of _ (by decide +kernel)) ggX7_arePalletsConsistent_Jx4a65c_size_8abf5
set_option maxRecDepth 20000 in
theorem ggX7_arePalletsConsistent_Jx4a65c_get_915e3 : GoodIn wsX7_arePalletsConsistent wsJx4a65c_get_915e3 := goodIn_r _ [18, 14, 19, 20, 21, 22, 23, 24, 25, 26, 27, 28, 29, 12, 30, 31, 84, 85, 86] (by decide +kernel) (by decide +kernel)
set_option maxRecDepth 20000 in
theorem gX7_arePalletsConsistent_Jx4a65c_get_915e3 : GoodIn wsX7_arePalletsConsistent (wsV RX7 234 RJx4a65c yJx4a65c_get_915e3 wsJx4a65c_get_915e3) := goodIn_app (goodIn_of _ (by decide +kernel)) ggX7_arePalletsConsistent_Jx4a65c_get_915e3
set_option maxRecDepth 20000 in
theorem ggX7_arePalletsConsistent_X4_recordedLife : GoodIn wsX7_arePalletsConsistent wsX4_recordedLife := goodIn_ca (goodIn_r _ [36, 37, 38, 39, 40, 41, 42, 43, 44, 45, 46, 47, 48, 49, 50, 35, 51, 52, 53, 54, 55, 56, 57, 58, 59, 60, 61, 62, 63, 64, 65, 66, 75, 76, 77, 78, 79, 80, 87, 88, 89, 81, 82, 83, 90, 91, 92, 93, 94, 95, 96, 97, 98, 99, 100, 101, 102, 103, 104, 105, 106] (by decide +kernel) (by decide +kernel)) (goodIn_sub (fun _ h => List.mem_cons_of_mem _ (List.mem_append_right _ h)) (by decide +kernel))
set_option maxRecDepth 20000 in
theorem gX7_arePalletsConsistent_X4_recordedLife : GoodIn wsX7_arePalletsConsistent (wsV RX7 218 RX4 yX4_recordedLife wsX4_recordedLife) := goodIn_app (goodIn_of _ (by decide +kernel)) ggX7_arePalletsConsistent_X4_recordedLife
theorem dX7_arePalletsConsistent_0 : decode cX7_arePalletsConsistent 0 = .ok (.iconst 0, 1) := by decide +kernel
theorem dX7_arePalletsConsistent_1 : decode cX7_arePalletsConsistent 1 = .ok (.istore_n 1, 1) := by decide +kernel
theorem dX7_arePalletsConsistent_2 : decode cX7_arePalletsConsistent 2 = .ok (.iload_n 1, 1) := by decide +kernel
theorem dX7_arePalletsConsistent_3 : decode cX7_arePalletsConsistent 3 = .ok (.aload_n 0, 1) := by decide +kernel
theorem dX7_arePalletsConsistent_4 : decode cX7_arePalletsConsistent 4 = .ok (.getfield 19, 3) := by decide +kernel
theorem dX7_arePalletsConsistent_7 : decode cX7_arePalletsConsistent 7 = .ok (.invokevirtual 61, 3) := by decide +kernel
theorem dX7_arePalletsConsistent_10 : decode cX7_arePalletsConsistent 10 = .ok (.if_icmp .ge 77, 3) := by decide +kernel
theorem dX7_arePalletsConsistent_13 : decode cX7_arePalletsConsistent 13 = .ok (.aload_n 0, 1) := by decide +kernel
theorem dX7_arePalletsConsistent_14 : decode cX7_arePalletsConsistent 14 = .ok (.getfield 19, 3) := by decide +kernel
theorem dX7_arePalletsConsistent_17 : decode cX7_arePalletsConsistent 17 = .ok (.iload_n 1, 1) := by decide +kernel
theorem dX7_arePalletsConsistent_18 : decode cX7_arePalletsConsistent 18 = .ok (.invokevirtual 234, 3) := by decide +kernel
theorem dX7_arePalletsConsistent_21 : decode cX7_arePalletsConsistent 21 = .ok (.checkcast 178, 3) := by decide +kernel
theorem dX7_arePalletsConsistent_24 : decode cX7_arePalletsConsistent 24 = .ok (.astore_n 2, 1) := by decide +kernel
theorem dX7_arePalletsConsistent_25 : decode cX7_arePalletsConsistent 25 = .ok (.aload_n 2, 1) := by decide +kernel
theorem dX7_arePalletsConsistent_26 : decode cX7_arePalletsConsistent 26 = .ok (.getfield 248, 3) := by decide +kernel
theorem dX7_arePalletsConsistent_29 : decode cX7_arePalletsConsistent 29 = .ok (.iload_n 1, 1) := by decide +kernel
theorem dX7_arePalletsConsistent_30 : decode cX7_arePalletsConsistent 30 = .ok (.if_icmp .ne 43, 3) := by decide +kernel
theorem dX7_arePalletsConsistent_33 : decode cX7_arePalletsConsistent 33 = .ok (.aload_n 2, 1) := by decide +kernel
theorem dX7_arePalletsConsistent_34 : decode cX7_arePalletsConsistent 34 = .ok (.getfield 212, 3) := by decide +kernel
theorem dX7_arePalletsConsistent_37 : decode cX7_arePalletsConsistent 37 = .ok (.ifCond .lt 36, 3) := by decide +kernel
theorem dX7_arePalletsConsistent_40 : decode cX7_arePalletsConsistent 40 = .ok (.aload_n 2, 1) := by decide +kernel
theorem dX7_arePalletsConsistent_41 : decode cX7_arePalletsConsistent 41 = .ok (.getfield 212, 3) := by decide +kernel
theorem dX7_arePalletsConsistent_44 : decode cX7_arePalletsConsistent 44 = .ok (.aload_n 2, 1) := by decide +kernel
theorem dX7_arePalletsConsistent_45 : decode cX7_arePalletsConsistent 45 = .ok (.getfield 221, 3) := by decide +kernel
theorem dX7_arePalletsConsistent_48 : decode cX7_arePalletsConsistent 48 = .ok (.getfield 390, 3) := by decide +kernel
theorem dX7_arePalletsConsistent_51 : decode cX7_arePalletsConsistent 51 = .ok (.if_icmp .gt 22, 3) := by decide +kernel
theorem dX7_arePalletsConsistent_54 : decode cX7_arePalletsConsistent 54 = .ok (.aload_n 2, 1) := by decide +kernel
theorem dX7_arePalletsConsistent_55 : decode cX7_arePalletsConsistent 55 = .ok (.getfield 212, 3) := by decide +kernel
theorem dX7_arePalletsConsistent_58 : decode cX7_arePalletsConsistent 58 = .ok (.aload_n 2, 1) := by decide +kernel
theorem dX7_arePalletsConsistent_59 : decode cX7_arePalletsConsistent 59 = .ok (.aload_n 0, 1) := by decide +kernel
theorem dX7_arePalletsConsistent_60 : decode cX7_arePalletsConsistent 60 = .ok (.getfield 39, 3) := by decide +kernel
theorem dX7_arePalletsConsistent_63 : decode cX7_arePalletsConsistent 63 = .ok (.invokevirtual 218, 3) := by decide +kernel
theorem dX7_arePalletsConsistent_66 : decode cX7_arePalletsConsistent 66 = .ok (.if_icmp .ne 7, 3) := by decide +kernel
theorem dX7_arePalletsConsistent_69 : decode cX7_arePalletsConsistent 69 = .ok (.iconst 1, 1) := by decide +kernel
theorem dX7_arePalletsConsistent_70 : decode cX7_arePalletsConsistent 70 = .ok (.goto 4, 3) := by decide +kernel
theorem dX7_arePalletsConsistent_73 : decode cX7_arePalletsConsistent 73 = .ok (.iconst 0, 1) := by decide +kernel
theorem dX7_arePalletsConsistent_74 : decode cX7_arePalletsConsistent 74 = .ok (.istore_n 3, 1) := by decide +kernel
theorem dX7_arePalletsConsistent_75 : decode cX7_arePalletsConsistent 75 = .ok (.iload_n 3, 1) := by decide +kernel
theorem dX7_arePalletsConsistent_76 : decode cX7_arePalletsConsistent 76 = .ok (.ifCond .ne 5, 3) := by decide +kernel
theorem dX7_arePalletsConsistent_79 : decode cX7_arePalletsConsistent 79 = .ok (.iconst 0, 1) := by decide +kernel
theorem dX7_arePalletsConsistent_80 : decode cX7_arePalletsConsistent 80 = .ok (.ireturn, 1) := by decide +kernel
theorem dX7_arePalletsConsistent_81 : decode cX7_arePalletsConsistent 81 = .ok (.iinc 1 1, 3) := by decide +kernel
theorem dX7_arePalletsConsistent_84 : decode cX7_arePalletsConsistent 84 = .ok (.goto (-82), 3) := by decide +kernel
theorem dX7_arePalletsConsistent_87 : decode cX7_arePalletsConsistent 87 = .ok (.aload_n 0, 1) := by decide +kernel
theorem dX7_arePalletsConsistent_88 : decode cX7_arePalletsConsistent 88 = .ok (.getfield 19, 3) := by decide +kernel
theorem dX7_arePalletsConsistent_91 : decode cX7_arePalletsConsistent 91 = .ok (.invokevirtual 61, 3) := by decide +kernel
theorem dX7_arePalletsConsistent_94 : decode cX7_arePalletsConsistent 94 = .ok (.bipush 24, 2) := by decide +kernel
theorem dX7_arePalletsConsistent_96 : decode cX7_arePalletsConsistent 96 = .ok (.if_icmp .gt 18, 3) := by decide +kernel
theorem dX7_arePalletsConsistent_99 : decode cX7_arePalletsConsistent 99 = .ok (.aload_n 0, 1) := by decide +kernel
theorem dX7_arePalletsConsistent_100 : decode cX7_arePalletsConsistent 100 = .ok (.getfield 16, 3) := by decide +kernel
theorem dX7_arePalletsConsistent_103 : decode cX7_arePalletsConsistent 103 = .ok (.invokevirtual 61, 3) := by decide +kernel
theorem dX7_arePalletsConsistent_106 : decode cX7_arePalletsConsistent 106 = .ok (.iconst 5, 1) := by decide +kernel
theorem dX7_arePalletsConsistent_107 : decode cX7_arePalletsConsistent 107 = .ok (.if_icmp .gt 7, 3) := by decide +kernel
theorem dX7_arePalletsConsistent_110 : decode cX7_arePalletsConsistent 110 = .ok (.iconst 1, 1) := by decide +kernel
theorem dX7_arePalletsConsistent_111 : decode cX7_arePalletsConsistent 111 = .ok (.goto 4, 3) := by decide +kernel
theorem dX7_arePalletsConsistent_114 : decode cX7_arePalletsConsistent 114 = .ok (.iconst 0, 1) := by decide +kernel
theorem dX7_arePalletsConsistent_115 : decode cX7_arePalletsConsistent 115 = .ok (.ireturn, 1) := by decide +kernel
set_option maxRecDepth 20000 in
theorem ggX7_areOrdersConsistent_Jx4a65c_size_8abf5 : GoodIn wsX7_areOrdersConsistent wsJx4a65c_size_8abf5 := goodIn_r _ [10, 11, 43, 44, 45] (by decide +kernel) (by decide +kernel)
set_option maxRecDepth 20000 in
theorem gX7_areOrdersConsistent_Jx4a65c_size_8abf5 : GoodIn wsX7_areOrdersConsistent (wsV RX7 61 RJx4a65c yJx4a65c_size_8abf5 wsJx4a65c_size_8abf5) := goodIn_app (goodIn_of _ (by decide +kernel)) ggX7_areOrdersConsistent_Jx4a65c_size_8abf5
set_option maxRecDepth 20000 in
theorem ggX7_areOrdersConsistent_Jx4a65c_get_915e3 : GoodIn wsX7_areOrdersConsistent wsJx4a65c_get_915e3 := goodIn_r _ [15, 11, 16, 17, 18, 19, 20, 21, 22, 23, 24, 25, 26, 9, 27, 28, 43, 44, 45] (by decide +kernel) (by decide +kernel)
set_option maxRecDepth 20000 in
theorem gX7_areOrdersConsistent_Jx4a65c_get_915e3 : GoodIn wsX7_areOrdersConsistent (wsV RX7 234 RJx4a65c yJx4a65c_get_915e3 wsJx4a65c_get_915e3) := goodIn_app (goodIn_of _ (by decide +kernel)) ggX7_areOrdersConsistent_Jx4a65c_get_915e3
theorem dX7_areOrdersConsistent_0 : decode cX7_areOrdersConsistent 0 = .ok (.iconst 0, 1) := by decide +kernel
theorem dX7_areOrdersConsistent_1 : decode cX7_areOrdersConsistent 1 = .ok (.istore_n 1, 1) := by decide +kernel
theorem dX7_areOrdersConsistent_2 : decode cX7_areOrdersConsistent 2 = .ok (.iload_n 1, 1) := by decide +kernel
theorem dX7_areOrdersConsistent_3 : decode cX7_areOrdersConsistent 3 = .ok (.aload_n 0, 1) := by decide +kernel
theorem dX7_areOrdersConsistent_4 : decode cX7_areOrdersConsistent 4 = .ok (.getfield 22, 3) := by decide +kernel
theorem dX7_areOrdersConsistent_7 : decode cX7_areOrdersConsistent 7 = .ok (.invokevirtual 61, 3) := by decide +kernel
theorem dX7_areOrdersConsistent_10 : decode cX7_areOrdersConsistent 10 = .ok (.if_icmp .ge 43, 3) := by decide +kernel
theorem dX7_areOrdersConsistent_13 : decode cX7_areOrdersConsistent 13 = .ok (.aload_n 0, 1) := by decide +kernel
theorem dX7_areOrdersConsistent_14 : decode cX7_areOrdersConsistent 14 = .ok (.getfield 22, 3) := by decide +kernel
theorem dX7_areOrdersConsistent_17 : decode cX7_areOrdersConsistent 17 = .ok (.iload_n 1, 1) := by decide +kernel
theorem dX7_areOrdersConsistent_18 : decode cX7_areOrdersConsistent 18 = .ok (.invokevirtual 234, 3) := by decide +kernel
theorem dX7_areOrdersConsistent_21 : decode cX7_areOrdersConsistent 21 = .ok (.checkcast 256, 3) := by decide +kernel
theorem dX7_areOrdersConsistent_24 : decode cX7_areOrdersConsistent 24 = .ok (.astore_n 2, 1) := by decide +kernel
theorem dX7_areOrdersConsistent_25 : decode cX7_areOrdersConsistent 25 = .ok (.aload_n 2, 1) := by decide +kernel
theorem dX7_areOrdersConsistent_26 : decode cX7_areOrdersConsistent 26 = .ok (.getfield 269, 3) := by decide +kernel
theorem dX7_areOrdersConsistent_29 : decode cX7_areOrdersConsistent 29 = .ok (.bipush 111, 2) := by decide +kernel
theorem dX7_areOrdersConsistent_31 : decode cX7_areOrdersConsistent 31 = .ok (.if_icmp .ne 16, 3) := by decide +kernel
theorem dX7_areOrdersConsistent_34 : decode cX7_areOrdersConsistent 34 = .ok (.aload_n 2, 1) := by decide +kernel
theorem dX7_areOrdersConsistent_35 : decode cX7_areOrdersConsistent 35 = .ok (.getfield 370, 3) := by decide +kernel
theorem dX7_areOrdersConsistent_38 : decode cX7_areOrdersConsistent 38 = .ok (.aload_n 0, 1) := by decide +kernel
theorem dX7_areOrdersConsistent_39 : decode cX7_areOrdersConsistent 39 = .ok (.getfield 39, 3) := by decide +kernel
theorem dX7_areOrdersConsistent_42 : decode cX7_areOrdersConsistent 42 = .ok (.if_icmp .gt 5, 3) := by decide +kernel
theorem dX7_areOrdersConsistent_45 : decode cX7_areOrdersConsistent 45 = .ok (.iconst 0, 1) := by decide +kernel
theorem dX7_areOrdersConsistent_46 : decode cX7_areOrdersConsistent 46 = .ok (.ireturn, 1) := by decide +kernel
theorem dX7_areOrdersConsistent_47 : decode cX7_areOrdersConsistent 47 = .ok (.iinc 1 1, 3) := by decide +kernel
theorem dX7_areOrdersConsistent_50 : decode cX7_areOrdersConsistent 50 = .ok (.goto (-48), 3) := by decide +kernel
theorem dX7_areOrdersConsistent_53 : decode cX7_areOrdersConsistent 53 = .ok (.aload_n 0, 1) := by decide +kernel
theorem dX7_areOrdersConsistent_54 : decode cX7_areOrdersConsistent 54 = .ok (.getfield 22, 3) := by decide +kernel
theorem dX7_areOrdersConsistent_57 : decode cX7_areOrdersConsistent 57 = .ok (.invokevirtual 61, 3) := by decide +kernel
theorem dX7_areOrdersConsistent_60 : decode cX7_areOrdersConsistent 60 = .ok (.bipush 12, 2) := by decide +kernel
theorem dX7_areOrdersConsistent_62 : decode cX7_areOrdersConsistent 62 = .ok (.if_icmp .gt 7, 3) := by decide +kernel
theorem dX7_areOrdersConsistent_65 : decode cX7_areOrdersConsistent 65 = .ok (.iconst 1, 1) := by decide +kernel
theorem dX7_areOrdersConsistent_66 : decode cX7_areOrdersConsistent 66 = .ok (.goto 4, 3) := by decide +kernel
theorem dX7_areOrdersConsistent_69 : decode cX7_areOrdersConsistent 69 = .ok (.iconst 0, 1) := by decide +kernel
theorem dX7_areOrdersConsistent_70 : decode cX7_areOrdersConsistent 70 = .ok (.ireturn, 1) := by decide +kernel
