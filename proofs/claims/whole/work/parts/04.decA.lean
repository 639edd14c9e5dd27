theorem dX0_init_0 : decode cX0_init 0 = .ok (.aload_n 0, 1) := by decide +kernel
theorem dX0_init_1 : decode cX0_init 1 = .ok (.invokespecial 3, 3) := by decide +kernel
theorem dX0_init_4 : decode cX0_init 4 = .ok (.aload_n 0, 1) := by decide +kernel
theorem dX0_init_5 : decode cX0_init 5 = .ok (.bipush 6, 2) := by decide +kernel
theorem dX0_init_7 : decode cX0_init 7 = .ok (.newarray .int, 2) := by decide +kernel
theorem dX0_init_9 : decode cX0_init 9 = .ok (.putfield 9, 3) := by decide +kernel
theorem dX0_init_12 : decode cX0_init 12 = .ok (.aload_n 0, 1) := by decide +kernel
theorem dX0_init_13 : decode cX0_init 13 = .ok (.bipush 36, 2) := by decide +kernel
theorem dX0_init_15 : decode cX0_init 15 = .ok (.newarray .int, 2) := by decide +kernel
theorem dX0_init_17 : decode cX0_init 17 = .ok (.putfield 15, 3) := by decide +kernel
theorem dX0_init_20 : decode cX0_init 20 = .ok (.return_, 1) := by decide +kernel
theorem dX0_worth_0 : decode cX0_worth 0 = .ok (.iload_n 1, 1) := by decide +kernel
theorem dX0_worth_1 : decode cX0_worth 1 = .ok (.invokestatic 18, 3) := by decide +kernel
theorem dX0_worth_4 : decode cX0_worth 4 = .ok (.ifCond .eq 12, 3) := by decide +kernel
theorem dX0_worth_7 : decode cX0_worth 7 = .ok (.aload_n 0, 1) := by decide +kernel
theorem dX0_worth_8 : decode cX0_worth 8 = .ok (.getfield 9, 3) := by decide +kernel
theorem dX0_worth_11 : decode cX0_worth 11 = .ok (.iload_n 1, 1) := by decide +kernel
theorem dX0_worth_12 : decode cX0_worth 12 = .ok (.iaload, 1) := by decide +kernel
theorem dX0_worth_13 : decode cX0_worth 13 = .ok (.goto 4, 3) := by decide +kernel
theorem dX0_worth_16 : decode cX0_worth 16 = .ok (.iconst 0, 1) := by decide +kernel
theorem dX0_worth_17 : decode cX0_worth 17 = .ok (.ireturn, 1) := by decide +kernel
theorem dX0_spread_0 : decode cX0_spread 0 = .ok (.iload_n 1, 1) := by decide +kernel
theorem dX0_spread_1 : decode cX0_spread 1 = .ok (.invokestatic 18, 3) := by decide +kernel
theorem dX0_spread_4 : decode cX0_spread 4 = .ok (.ifCond .eq 24, 3) := by decide +kernel
theorem dX0_spread_7 : decode cX0_spread 7 = .ok (.iload_n 2, 1) := by decide +kernel
theorem dX0_spread_8 : decode cX0_spread 8 = .ok (.invokestatic 18, 3) := by decide +kernel
theorem dX0_spread_11 : decode cX0_spread 11 = .ok (.ifCond .eq 17, 3) := by decide +kernel
theorem dX0_spread_14 : decode cX0_spread 14 = .ok (.aload_n 0, 1) := by decide +kernel
theorem dX0_spread_15 : decode cX0_spread 15 = .ok (.getfield 15, 3) := by decide +kernel
theorem dX0_spread_18 : decode cX0_spread 18 = .ok (.iload_n 1, 1) := by decide +kernel
theorem dX0_spread_19 : decode cX0_spread 19 = .ok (.bipush 6, 2) := by decide +kernel
theorem dX0_spread_21 : decode cX0_spread 21 = .ok (.imul, 1) := by decide +kernel
theorem dX0_spread_22 : decode cX0_spread 22 = .ok (.iload_n 2, 1) := by decide +kernel
theorem dX0_spread_23 : decode cX0_spread 23 = .ok (.iadd, 1) := by decide +kernel
theorem dX0_spread_24 : decode cX0_spread 24 = .ok (.iaload, 1) := by decide +kernel
theorem dX0_spread_25 : decode cX0_spread 25 = .ok (.goto 4, 3) := by decide +kernel
theorem dX0_spread_28 : decode cX0_spread 28 = .ok (.iconst 0, 1) := by decide +kernel
theorem dX0_spread_29 : decode cX0_spread 29 = .ok (.ireturn, 1) := by decide +kernel
theorem dX0_setWorth_0 : decode cX0_setWorth 0 = .ok (.iload_n 1, 1) := by decide +kernel
theorem dX0_setWorth_1 : decode cX0_setWorth 1 = .ok (.invokestatic 18, 3) := by decide +kernel
theorem dX0_setWorth_4 : decode cX0_setWorth 4 = .ok (.ifCond .eq 10, 3) := by decide +kernel
theorem dX0_setWorth_7 : decode cX0_setWorth 7 = .ok (.aload_n 0, 1) := by decide +kernel
theorem dX0_setWorth_8 : decode cX0_setWorth 8 = .ok (.getfield 9, 3) := by decide +kernel
theorem dX0_setWorth_11 : decode cX0_setWorth 11 = .ok (.iload_n 1, 1) := by decide +kernel
theorem dX0_setWorth_12 : decode cX0_setWorth 12 = .ok (.iload_n 2, 1) := by decide +kernel
theorem dX0_setWorth_13 : decode cX0_setWorth 13 = .ok (.iastore, 1) := by decide +kernel
theorem dX0_setWorth_14 : decode cX0_setWorth 14 = .ok (.return_, 1) := by decide +kernel
theorem dX0_setSpread_0 : decode cX0_setSpread 0 = .ok (.iload_n 1, 1) := by decide +kernel
theorem dX0_setSpread_1 : decode cX0_setSpread 1 = .ok (.invokestatic 18, 3) := by decide +kernel
theorem dX0_setSpread_4 : decode cX0_setSpread 4 = .ok (.ifCond .eq 34, 3) := by decide +kernel
theorem dX0_setSpread_7 : decode cX0_setSpread 7 = .ok (.iload_n 2, 1) := by decide +kernel
theorem dX0_setSpread_8 : decode cX0_setSpread 8 = .ok (.invokestatic 18, 3) := by decide +kernel
theorem dX0_setSpread_11 : decode cX0_setSpread 11 = .ok (.ifCond .eq 27, 3) := by decide +kernel
theorem dX0_setSpread_14 : decode cX0_setSpread 14 = .ok (.aload_n 0, 1) := by decide +kernel
theorem dX0_setSpread_15 : decode cX0_setSpread 15 = .ok (.getfield 15, 3) := by decide +kernel
theorem dX0_setSpread_18 : decode cX0_setSpread 18 = .ok (.iload_n 1, 1) := by decide +kernel
theorem dX0_setSpread_19 : decode cX0_setSpread 19 = .ok (.bipush 6, 2) := by decide +kernel
theorem dX0_setSpread_21 : decode cX0_setSpread 21 = .ok (.imul, 1) := by decide +kernel
theorem dX0_setSpread_22 : decode cX0_setSpread 22 = .ok (.iload_n 2, 1) := by decide +kernel
theorem dX0_setSpread_23 : decode cX0_setSpread 23 = .ok (.iadd, 1) := by decide +kernel
theorem dX0_setSpread_24 : decode cX0_setSpread 24 = .ok (.iload_n 3, 1) := by decide +kernel
theorem dX0_setSpread_25 : decode cX0_setSpread 25 = .ok (.iastore, 1) := by decide +kernel
theorem dX0_setSpread_26 : decode cX0_setSpread 26 = .ok (.aload_n 0, 1) := by decide +kernel
theorem dX0_setSpread_27 : decode cX0_setSpread 27 = .ok (.getfield 15, 3) := by decide +kernel
theorem dX0_setSpread_30 : decode cX0_setSpread 30 = .ok (.iload_n 2, 1) := by decide +kernel
theorem dX0_setSpread_31 : decode cX0_setSpread 31 = .ok (.bipush 6, 2) := by decide +kernel
theorem dX0_setSpread_33 : decode cX0_setSpread 33 = .ok (.imul, 1) := by decide +kernel
theorem dX0_setSpread_34 : decode cX0_setSpread 34 = .ok (.iload_n 1, 1) := by decide +kernel
theorem dX0_setSpread_35 : decode cX0_setSpread 35 = .ok (.iadd, 1) := by decide +kernel
theorem dX0_setSpread_36 : decode cX0_setSpread 36 = .ok (.iload_n 3, 1) := by decide +kernel
theorem dX0_setSpread_37 : decode cX0_setSpread 37 = .ok (.iastore, 1) := by decide +kernel
theorem dX0_setSpread_38 : decode cX0_setSpread 38 = .ok (.return_, 1) := by decide +kernel
theorem dX0_reset_0 : decode cX0_reset 0 = .ok (.iconst 0, 1) := by decide +kernel
theorem dX0_reset_1 : decode cX0_reset 1 = .ok (.istore_n 1, 1) := by decide +kernel
theorem dX0_reset_2 : decode cX0_reset 2 = .ok (.iload_n 1, 1) := by decide +kernel
theorem dX0_reset_3 : decode cX0_reset 3 = .ok (.bipush 6, 2) := by decide +kernel
theorem dX0_reset_5 : decode cX0_reset 5 = .ok (.if_icmp .ge 16, 3) := by decide +kernel
theorem dX0_reset_8 : decode cX0_reset 8 = .ok (.aload_n 0, 1) := by decide +kernel
theorem dX0_reset_9 : decode cX0_reset 9 = .ok (.getfield 9, 3) := by decide +kernel
theorem dX0_reset_12 : decode cX0_reset 12 = .ok (.iload_n 1, 1) := by decide +kernel
theorem dX0_reset_13 : decode cX0_reset 13 = .ok (.iconst 0, 1) := by decide +kernel
theorem dX0_reset_14 : decode cX0_reset 14 = .ok (.iastore, 1) := by decide +kernel
theorem dX0_reset_15 : decode cX0_reset 15 = .ok (.iinc 1 1, 3) := by decide +kernel
theorem dX0_reset_18 : decode cX0_reset 18 = .ok (.goto (-16), 3) := by decide +kernel
theorem dX0_reset_21 : decode cX0_reset 21 = .ok (.iconst 0, 1) := by decide +kernel
theorem dX0_reset_22 : decode cX0_reset 22 = .ok (.istore_n 1, 1) := by decide +kernel
theorem dX0_reset_23 : decode cX0_reset 23 = .ok (.iload_n 1, 1) := by decide +kernel
theorem dX0_reset_24 : decode cX0_reset 24 = .ok (.bipush 36, 2) := by decide +kernel
theorem dX0_reset_26 : decode cX0_reset 26 = .ok (.if_icmp .ge 16, 3) := by decide +kernel
theorem dX0_reset_29 : decode cX0_reset 29 = .ok (.aload_n 0, 1) := by decide +kernel
theorem dX0_reset_30 : decode cX0_reset 30 = .ok (.getfield 15, 3) := by decide +kernel
theorem dX0_reset_33 : decode cX0_reset 33 = .ok (.iload_n 1, 1) := by decide +kernel
theorem dX0_reset_34 : decode cX0_reset 34 = .ok (.iconst 0, 1) := by decide +kernel
theorem dX0_reset_35 : decode cX0_reset 35 = .ok (.iastore, 1) := by decide +kernel
theorem dX0_reset_36 : decode cX0_reset 36 = .ok (.iinc 1 1, 3) := by decide +kernel
theorem dX0_reset_39 : decode cX0_reset 39 = .ok (.goto (-16), 3) := by decide +kernel
theorem dX0_reset_42 : decode cX0_reset 42 = .ok (.return_, 1) := by decide +kernel
theorem dX0_take_0 : decode cX0_take 0 = .ok (.iconst 0, 1) := by decide +kernel
theorem dX0_take_1 : decode cX0_take 1 = .ok (.istore_n 2, 1) := by decide +kernel
theorem dX0_take_2 : decode cX0_take 2 = .ok (.iload_n 2, 1) := by decide +kernel
theorem dX0_take_3 : decode cX0_take 3 = .ok (.bipush 6, 2) := by decide +kernel
theorem dX0_take_5 : decode cX0_take 5 = .ok (.if_icmp .ge 21, 3) := by decide +kernel
theorem dX0_take_8 : decode cX0_take 8 = .ok (.aload_n 0, 1) := by decide +kernel
theorem dX0_take_9 : decode cX0_take 9 = .ok (.getfield 9, 3) := by decide +kernel
theorem dX0_take_12 : decode cX0_take 12 = .ok (.iload_n 2, 1) := by decide +kernel
theorem dX0_take_13 : decode cX0_take 13 = .ok (.aload_n 1, 1) := by decide +kernel
theorem dX0_take_14 : decode cX0_take 14 = .ok (.getfield 9, 3) := by decide +kernel
theorem dX0_take_17 : decode cX0_take 17 = .ok (.iload_n 2, 1) := by decide +kernel
theorem dX0_take_18 : decode cX0_take 18 = .ok (.iaload, 1) := by decide +kernel
theorem dX0_take_19 : decode cX0_take 19 = .ok (.iastore, 1) := by decide +kernel
theorem dX0_take_20 : decode cX0_take 20 = .ok (.iinc 2 1, 3) := by decide +kernel
theorem dX0_take_23 : decode cX0_take 23 = .ok (.goto (-21), 3) := by decide +kernel
theorem dX0_take_26 : decode cX0_take 26 = .ok (.iconst 0, 1) := by decide +kernel
theorem dX0_take_27 : decode cX0_take 27 = .ok (.istore_n 2, 1) := by decide +kernel
theorem dX0_take_28 : decode cX0_take 28 = .ok (.iload_n 2, 1) := by decide +kernel
theorem dX0_take_29 : decode cX0_take 29 = .ok (.bipush 36, 2) := by decide +kernel
theorem dX0_take_31 : decode cX0_take 31 = .ok (.if_icmp .ge 21, 3) := by decide +kernel
theorem dX0_take_34 : decode cX0_take 34 = .ok (.aload_n 0, 1) := by decide +kernel
theorem dX0_take_35 : decode cX0_take 35 = .ok (.getfield 15, 3) := by decide +kernel
theorem dX0_take_38 : decode cX0_take 38 = .ok (.iload_n 2, 1) := by decide +kernel
theorem dX0_take_39 : decode cX0_take 39 = .ok (.aload_n 1, 1) := by decide +kernel
theorem dX0_take_40 : decode cX0_take 40 = .ok (.getfield 15, 3) := by decide +kernel
theorem dX0_take_43 : decode cX0_take 43 = .ok (.iload_n 2, 1) := by decide +kernel
theorem dX0_take_44 : decode cX0_take 44 = .ok (.iaload, 1) := by decide +kernel
theorem dX0_take_45 : decode cX0_take 45 = .ok (.iastore, 1) := by decide +kernel
theorem dX0_take_46 : decode cX0_take 46 = .ok (.iinc 2 1, 3) := by decide +kernel
theorem dX0_take_49 : decode cX0_take 49 = .ok (.goto (-21), 3) := by decide +kernel
theorem dX0_take_52 : decode cX0_take 52 = .ok (.return_, 1) := by decide +kernel
theorem dX1_init_0 : decode cX1_init 0 = .ok (.aload_n 0, 1) := by decide +kernel
theorem dX1_init_1 : decode cX1_init 1 = .ok (.invokespecial 3, 3) := by decide +kernel
theorem dX1_init_4 : decode cX1_init 4 = .ok (.aload_n 0, 1) := by decide +kernel
theorem dX1_init_5 : decode cX1_init 5 = .ok (.bipush 10, 2) := by decide +kernel
theorem dX1_init_7 : decode cX1_init 7 = .ok (.newarray .int, 2) := by decide +kernel
theorem dX1_init_9 : decode cX1_init 9 = .ok (.putfield 9, 3) := by decide +kernel
theorem dX1_init_12 : decode cX1_init 12 = .ok (.aload_n 0, 1) := by decide +kernel
theorem dX1_init_13 : decode cX1_init 13 = .ok (.bipush 10, 2) := by decide +kernel
theorem dX1_init_15 : decode cX1_init 15 = .ok (.newarray .int, 2) := by decide +kernel
theorem dX1_init_17 : decode cX1_init 17 = .ok (.putfield 15, 3) := by decide +kernel
theorem dX1_init_20 : decode cX1_init 20 = .ok (.aload_n 0, 1) := by decide +kernel
theorem dX1_init_21 : decode cX1_init 21 = .ok (.bipush 10, 2) := by decide +kernel
theorem dX1_init_23 : decode cX1_init 23 = .ok (.newarray .int, 2) := by decide +kernel
theorem dX1_init_25 : decode cX1_init 25 = .ok (.putfield 18, 3) := by decide +kernel
theorem dX1_init_28 : decode cX1_init 28 = .ok (.return_, 1) := by decide +kernel
theorem dX1_known_0 : decode cX1_known 0 = .ok (.aload_n 0, 1) := by decide +kernel
theorem dX1_known_1 : decode cX1_known 1 = .ok (.getfield 21, 3) := by decide +kernel
theorem dX1_known_4 : decode cX1_known 4 = .ok (.ireturn, 1) := by decide +kernel
theorem dX1_lose_0 : decode cX1_lose 0 = .ok (.aload_n 0, 1) := by decide +kernel
theorem dX1_lose_1 : decode cX1_lose 1 = .ok (.iconst 0, 1) := by decide +kernel
theorem dX1_lose_2 : decode cX1_lose 2 = .ok (.putfield 21, 3) := by decide +kernel
theorem dX1_lose_5 : decode cX1_lose 5 = .ok (.return_, 1) := by decide +kernel
theorem dX1_add_0 : decode cX1_add 0 = .ok (.aload_n 0, 1) := by decide +kernel
theorem dX1_add_1 : decode cX1_add 1 = .ok (.getfield 21, 3) := by decide +kernel
theorem dX1_add_4 : decode cX1_add 4 = .ok (.bipush 10, 2) := by decide +kernel
theorem dX1_add_6 : decode cX1_add 6 = .ok (.if_icmp .lt 7, 3) := by decide +kernel
theorem dX1_add_9 : decode cX1_add 9 = .ok (.aload_n 0, 1) := by decide +kernel
theorem dX1_add_10 : decode cX1_add 10 = .ok (.invokevirtual 25, 3) := by decide +kernel
theorem dX1_add_13 : decode cX1_add 13 = .ok (.aload_n 0, 1) := by decide +kernel
theorem dX1_add_14 : decode cX1_add 14 = .ok (.getfield 21, 3) := by decide +kernel
theorem dX1_add_17 : decode cX1_add 17 = .ok (.ifCond .lt 52, 3) := by decide +kernel
theorem dX1_add_20 : decode cX1_add 20 = .ok (.aload_n 0, 1) := by decide +kernel
theorem dX1_add_21 : decode cX1_add 21 = .ok (.getfield 21, 3) := by decide +kernel
theorem dX1_add_24 : decode cX1_add 24 = .ok (.bipush 10, 2) := by decide +kernel
theorem dX1_add_26 : decode cX1_add 26 = .ok (.if_icmp .ge 43, 3) := by decide +kernel
theorem dX1_add_29 : decode cX1_add 29 = .ok (.aload_n 0, 1) := by decide +kernel
theorem dX1_add_30 : decode cX1_add 30 = .ok (.getfield 9, 3) := by decide +kernel
theorem dX1_add_33 : decode cX1_add 33 = .ok (.aload_n 0, 1) := by decide +kernel
theorem dX1_add_34 : decode cX1_add 34 = .ok (.getfield 21, 3) := by decide +kernel
theorem dX1_add_37 : decode cX1_add 37 = .ok (.iload_n 1, 1) := by decide +kernel
theorem dX1_add_38 : decode cX1_add 38 = .ok (.iastore, 1) := by decide +kernel
theorem dX1_add_39 : decode cX1_add 39 = .ok (.aload_n 0, 1) := by decide +kernel
theorem dX1_add_40 : decode cX1_add 40 = .ok (.getfield 15, 3) := by decide +kernel
theorem dX1_add_43 : decode cX1_add 43 = .ok (.aload_n 0, 1) := by decide +kernel
theorem dX1_add_44 : decode cX1_add 44 = .ok (.getfield 21, 3) := by decide +kernel
theorem dX1_add_47 : decode cX1_add 47 = .ok (.iload_n 2, 1) := by decide +kernel
theorem dX1_add_48 : decode cX1_add 48 = .ok (.iastore, 1) := by decide +kernel
theorem dX1_add_49 : decode cX1_add 49 = .ok (.aload_n 0, 1) := by decide +kernel
theorem dX1_add_50 : decode cX1_add 50 = .ok (.getfield 18, 3) := by decide +kernel
theorem dX1_add_53 : decode cX1_add 53 = .ok (.aload_n 0, 1) := by decide +kernel
theorem dX1_add_54 : decode cX1_add 54 = .ok (.getfield 21, 3) := by decide +kernel
theorem dX1_add_57 : decode cX1_add 57 = .ok (.iload_n 3, 1) := by decide +kernel
theorem dX1_add_58 : decode cX1_add 58 = .ok (.iastore, 1) := by decide +kernel
theorem dX1_add_59 : decode cX1_add 59 = .ok (.aload_n 0, 1) := by decide +kernel
theorem dX1_add_60 : decode cX1_add 60 = .ok (.dup, 1) := by decide +kernel
theorem dX1_add_61 : decode cX1_add 61 = .ok (.getfield 21, 3) := by decide +kernel
theorem dX1_add_64 : decode cX1_add 64 = .ok (.iconst 1, 1) := by decide +kernel
theorem dX1_add_65 : decode cX1_add 65 = .ok (.iadd, 1) := by decide +kernel
theorem dX1_add_66 : decode cX1_add 66 = .ok (.putfield 21, 3) := by decide +kernel
theorem dX1_add_69 : decode cX1_add 69 = .ok (.return_, 1) := by decide +kernel
theorem dX1_takeBack_0 : decode cX1_takeBack 0 = .ok (.aload_n 0, 1) := by decide +kernel
theorem dX1_takeBack_1 : decode cX1_takeBack 1 = .ok (.getfield 21, 3) := by decide +kernel
theorem dX1_takeBack_4 : decode cX1_takeBack 4 = .ok (.iconst 1, 1) := by decide +kernel
theorem dX1_takeBack_5 : decode cX1_takeBack 5 = .ok (.isub, 1) := by decide +kernel
theorem dX1_takeBack_6 : decode cX1_takeBack 6 = .ok (.istore_n 2, 1) := by decide +kernel
theorem dX1_takeBack_7 : decode cX1_takeBack 7 = .ok (.iload_n 2, 1) := by decide +kernel
theorem dX1_takeBack_8 : decode cX1_takeBack 8 = .ok (.ifCond .lt 9, 3) := by decide +kernel
theorem dX1_takeBack_11 : decode cX1_takeBack 11 = .ok (.iload_n 2, 1) := by decide +kernel
theorem dX1_takeBack_12 : decode cX1_takeBack 12 = .ok (.bipush 10, 2) := by decide +kernel
theorem dX1_takeBack_14 : decode cX1_takeBack 14 = .ok (.if_icmp .lt 5, 3) := by decide +kernel
theorem dX1_takeBack_17 : decode cX1_takeBack 17 = .ok (.iconst 0, 1) := by decide +kernel
theorem dX1_takeBack_18 : decode cX1_takeBack 18 = .ok (.ireturn, 1) := by decide +kernel
theorem dX1_takeBack_19 : decode cX1_takeBack 19 = .ok (.aload_n 0, 1) := by decide +kernel
theorem dX1_takeBack_20 : decode cX1_takeBack 20 = .ok (.iload_n 2, 1) := by decide +kernel
theorem dX1_takeBack_21 : decode cX1_takeBack 21 = .ok (.putfield 21, 3) := by decide +kernel
theorem dX1_takeBack_24 : decode cX1_takeBack 24 = .ok (.aload_n 0, 1) := by decide +kernel
theorem dX1_takeBack_25 : decode cX1_takeBack 25 = .ok (.getfield 15, 3) := by decide +kernel
theorem dX1_takeBack_28 : decode cX1_takeBack 28 = .ok (.iload_n 2, 1) := by decide +kernel
theorem dX1_takeBack_29 : decode cX1_takeBack 29 = .ok (.iaload, 1) := by decide +kernel
theorem dX1_takeBack_30 : decode cX1_takeBack 30 = .ok (.iconst (-1), 1) := by decide +kernel
theorem dX1_takeBack_31 : decode cX1_takeBack 31 = .ok (.if_icmp .ne 22, 3) := by decide +kernel
theorem dX1_takeBack_34 : decode cX1_takeBack 34 = .ok (.aload_n 1, 1) := by decide +kernel
theorem dX1_takeBack_35 : decode cX1_takeBack 35 = .ok (.aload_n 0, 1) := by decide +kernel
theorem dX1_takeBack_36 : decode cX1_takeBack 36 = .ok (.getfield 9, 3) := by decide +kernel
theorem dX1_takeBack_39 : decode cX1_takeBack 39 = .ok (.iload_n 2, 1) := by decide +kernel
theorem dX1_takeBack_40 : decode cX1_takeBack 40 = .ok (.iaload, 1) := by decide +kernel
theorem dX1_takeBack_41 : decode cX1_takeBack 41 = .ok (.aload_n 0, 1) := by decide +kernel
theorem dX1_takeBack_42 : decode cX1_takeBack 42 = .ok (.getfield 18, 3) := by decide +kernel
theorem dX1_takeBack_45 : decode cX1_takeBack 45 = .ok (.iload_n 2, 1) := by decide +kernel
theorem dX1_takeBack_46 : decode cX1_takeBack 46 = .ok (.iaload, 1) := by decide +kernel
theorem dX1_takeBack_47 : decode cX1_takeBack 47 = .ok (.invokevirtual 28, 3) := by decide +kernel
theorem dX1_takeBack_50 : decode cX1_takeBack 50 = .ok (.goto 25, 3) := by decide +kernel
theorem dX1_takeBack_53 : decode cX1_takeBack 53 = .ok (.aload_n 1, 1) := by decide +kernel
theorem dX1_takeBack_54 : decode cX1_takeBack 54 = .ok (.aload_n 0, 1) := by decide +kernel
theorem dX1_takeBack_55 : decode cX1_takeBack 55 = .ok (.getfield 9, 3) := by decide +kernel
theorem dX1_takeBack_58 : decode cX1_takeBack 58 = .ok (.iload_n 2, 1) := by decide +kernel
theorem dX1_takeBack_59 : decode cX1_takeBack 59 = .ok (.iaload, 1) := by decide +kernel
theorem dX1_takeBack_60 : decode cX1_takeBack 60 = .ok (.aload_n 0, 1) := by decide +kernel
theorem dX1_takeBack_61 : decode cX1_takeBack 61 = .ok (.getfield 15, 3) := by decide +kernel
theorem dX1_takeBack_64 : decode cX1_takeBack 64 = .ok (.iload_n 2, 1) := by decide +kernel
theorem dX1_takeBack_65 : decode cX1_takeBack 65 = .ok (.iaload, 1) := by decide +kernel
theorem dX1_takeBack_66 : decode cX1_takeBack 66 = .ok (.aload_n 0, 1) := by decide +kernel
theorem dX1_takeBack_67 : decode cX1_takeBack 67 = .ok (.getfield 18, 3) := by decide +kernel
theorem dX1_takeBack_70 : decode cX1_takeBack 70 = .ok (.iload_n 2, 1) := by decide +kernel
theorem dX1_takeBack_71 : decode cX1_takeBack 71 = .ok (.iaload, 1) := by decide +kernel
theorem dX1_takeBack_72 : decode cX1_takeBack 72 = .ok (.invokevirtual 34, 3) := by decide +kernel
theorem dX1_takeBack_75 : decode cX1_takeBack 75 = .ok (.iconst 1, 1) := by decide +kernel
theorem dX1_takeBack_76 : decode cX1_takeBack 76 = .ok (.ireturn, 1) := by decide +kernel
theorem dX1_loseOldest_0 : decode cX1_loseOldest 0 = .ok (.iconst 1, 1) := by decide +kernel
theorem dX1_loseOldest_1 : decode cX1_loseOldest 1 = .ok (.istore_n 1, 1) := by decide +kernel
theorem dX1_loseOldest_2 : decode cX1_loseOldest 2 = .ok (.iload_n 1, 1) := by decide +kernel
theorem dX1_loseOldest_3 : decode cX1_loseOldest 3 = .ok (.bipush 10, 2) := by decide +kernel
theorem dX1_loseOldest_5 : decode cX1_loseOldest 5 = .ok (.if_icmp .ge 51, 3) := by decide +kernel
theorem dX1_loseOldest_8 : decode cX1_loseOldest 8 = .ok (.aload_n 0, 1) := by decide +kernel
theorem dX1_loseOldest_9 : decode cX1_loseOldest 9 = .ok (.getfield 9, 3) := by decide +kernel
theorem dX1_loseOldest_12 : decode cX1_loseOldest 12 = .ok (.iload_n 1, 1) := by decide +kernel
theorem dX1_loseOldest_13 : decode cX1_loseOldest 13 = .ok (.iconst 1, 1) := by decide +kernel
theorem dX1_loseOldest_14 : decode cX1_loseOldest 14 = .ok (.isub, 1) := by decide +kernel
theorem dX1_loseOldest_15 : decode cX1_loseOldest 15 = .ok (.aload_n 0, 1) := by decide +kernel
theorem dX1_loseOldest_16 : decode cX1_loseOldest 16 = .ok (.getfield 9, 3) := by decide +kernel
theorem dX1_loseOldest_19 : decode cX1_loseOldest 19 = .ok (.iload_n 1, 1) := by decide +kernel
theorem dX1_loseOldest_20 : decode cX1_loseOldest 20 = .ok (.iaload, 1) := by decide +kernel
theorem dX1_loseOldest_21 : decode cX1_loseOldest 21 = .ok (.iastore, 1) := by decide +kernel
theorem dX1_loseOldest_22 : decode cX1_loseOldest 22 = .ok (.aload_n 0, 1) := by decide +kernel
theorem dX1_loseOldest_23 : decode cX1_loseOldest 23 = .ok (.getfield 15, 3) := by decide +kernel
theorem dX1_loseOldest_26 : decode cX1_loseOldest 26 = .ok (.iload_n 1, 1) := by decide +kernel
theorem dX1_loseOldest_27 : decode cX1_loseOldest 27 = .ok (.iconst 1, 1) := by decide +kernel
theorem dX1_loseOldest_28 : decode cX1_loseOldest 28 = .ok (.isub, 1) := by decide +kernel
theorem dX1_loseOldest_29 : decode cX1_loseOldest 29 = .ok (.aload_n 0, 1) := by decide +kernel
theorem dX1_loseOldest_30 : decode cX1_loseOldest 30 = .ok (.getfield 15, 3) := by decide +kernel
theorem dX1_loseOldest_33 : decode cX1_loseOldest 33 = .ok (.iload_n 1, 1) := by decide +kernel
theorem dX1_loseOldest_34 : decode cX1_loseOldest 34 = .ok (.iaload, 1) := by decide +kernel
theorem dX1_loseOldest_35 : decode cX1_loseOldest 35 = .ok (.iastore, 1) := by decide +kernel
theorem dX1_loseOldest_36 : decode cX1_loseOldest 36 = .ok (.aload_n 0, 1) := by decide +kernel
theorem dX1_loseOldest_37 : decode cX1_loseOldest 37 = .ok (.getfield 18, 3) := by decide +kernel
theorem dX1_loseOldest_40 : decode cX1_loseOldest 40 = .ok (.iload_n 1, 1) := by decide +kernel
theorem dX1_loseOldest_41 : decode cX1_loseOldest 41 = .ok (.iconst 1, 1) := by decide +kernel
theorem dX1_loseOldest_42 : decode cX1_loseOldest 42 = .ok (.isub, 1) := by decide +kernel
theorem dX1_loseOldest_43 : decode cX1_loseOldest 43 = .ok (.aload_n 0, 1) := by decide +kernel
theorem dX1_loseOldest_44 : decode cX1_loseOldest 44 = .ok (.getfield 18, 3) := by decide +kernel
theorem dX1_loseOldest_47 : decode cX1_loseOldest 47 = .ok (.iload_n 1, 1) := by decide +kernel
theorem dX1_loseOldest_48 : decode cX1_loseOldest 48 = .ok (.iaload, 1) := by decide +kernel
theorem dX1_loseOldest_49 : decode cX1_loseOldest 49 = .ok (.iastore, 1) := by decide +kernel
theorem dX1_loseOldest_50 : decode cX1_loseOldest 50 = .ok (.iinc 1 1, 3) := by decide +kernel
theorem dX1_loseOldest_53 : decode cX1_loseOldest 53 = .ok (.goto (-51), 3) := by decide +kernel
theorem dX1_loseOldest_56 : decode cX1_loseOldest 56 = .ok (.aload_n 0, 1) := by decide +kernel
theorem dX1_loseOldest_57 : decode cX1_loseOldest 57 = .ok (.bipush 9, 2) := by decide +kernel
theorem dX1_loseOldest_59 : decode cX1_loseOldest 59 = .ok (.putfield 21, 3) := by decide +kernel
theorem dX1_loseOldest_62 : decode cX1_loseOldest 62 = .ok (.return_, 1) := by decide +kernel
theorem dX2_init_0 : decode cX2_init 0 = .ok (.aload_n 0, 1) := by decide +kernel
theorem dX2_init_1 : decode cX2_init 1 = .ok (.invokespecial 3, 3) := by decide +kernel
theorem dX2_init_4 : decode cX2_init 4 = .ok (.aload_n 0, 1) := by decide +kernel
theorem dX2_init_5 : decode cX2_init 5 = .ok (.new 9, 3) := by decide +kernel
theorem dX2_init_8 : decode cX2_init 8 = .ok (.dup, 1) := by decide +kernel
theorem dX2_init_9 : decode cX2_init 9 = .ok (.invokespecial 11, 3) := by decide +kernel
theorem dX2_init_12 : decode cX2_init 12 = .ok (.putfield 12, 3) := by decide +kernel
theorem dX2_init_15 : decode cX2_init 15 = .ok (.aload_n 0, 1) := by decide +kernel
theorem dX2_init_16 : decode cX2_init 16 = .ok (.new 18, 3) := by decide +kernel
theorem dX2_init_19 : decode cX2_init 19 = .ok (.dup, 1) := by decide +kernel
theorem dX2_init_20 : decode cX2_init 20 = .ok (.invokespecial 20, 3) := by decide +kernel
theorem dX2_init_23 : decode cX2_init 23 = .ok (.putfield 21, 3) := by decide +kernel
theorem dX2_init_26 : decode cX2_init 26 = .ok (.aload_n 0, 1) := by decide +kernel
theorem dX2_init_27 : decode cX2_init 27 = .ok (.bipush 100, 2) := by decide +kernel
theorem dX2_init_29 : decode cX2_init 29 = .ok (.newarray .int, 2) := by decide +kernel
theorem dX2_init_31 : decode cX2_init 31 = .ok (.putfield 25, 3) := by decide +kernel
theorem dX2_init_34 : decode cX2_init 34 = .ok (.return_, 1) := by decide +kernel
theorem dX2_letters_0 : decode cX2_letters 0 = .ok (.aload_n 0, 1) := by decide +kernel
theorem dX2_letters_1 : decode cX2_letters 1 = .ok (.getfield 29, 3) := by decide +kernel
theorem dX2_letters_4 : decode cX2_letters 4 = .ok (.ireturn, 1) := by decide +kernel
theorem dX2_drop_0 : decode cX2_drop 0 = .ok (.aload_n 0, 1) := by decide +kernel
theorem dX2_drop_1 : decode cX2_drop 1 = .ok (.iconst 0, 1) := by decide +kernel
theorem dX2_drop_2 : decode cX2_drop 2 = .ok (.putfield 29, 3) := by decide +kernel
theorem dX2_drop_5 : decode cX2_drop 5 = .ok (.return_, 1) := by decide +kernel
theorem dX2_add_0 : decode cX2_add 0 = .ok (.aload_n 0, 1) := by decide +kernel
theorem dX2_add_1 : decode cX2_add 1 = .ok (.getfield 29, 3) := by decide +kernel
theorem dX2_add_4 : decode cX2_add 4 = .ok (.ifCond .lt 12, 3) := by decide +kernel
theorem dX2_add_7 : decode cX2_add 7 = .ok (.aload_n 0, 1) := by decide +kernel
theorem dX2_add_8 : decode cX2_add 8 = .ok (.getfield 29, 3) := by decide +kernel
theorem dX2_add_11 : decode cX2_add 11 = .ok (.bipush 100, 2) := by decide +kernel
theorem dX2_add_13 : decode cX2_add 13 = .ok (.if_icmp .lt 5, 3) := by decide +kernel
theorem dX2_add_16 : decode cX2_add 16 = .ok (.iconst 0, 1) := by decide +kernel
theorem dX2_add_17 : decode cX2_add 17 = .ok (.ireturn, 1) := by decide +kernel
theorem dX2_add_18 : decode cX2_add 18 = .ok (.aload_n 0, 1) := by decide +kernel
theorem dX2_add_19 : decode cX2_add 19 = .ok (.getfield 25, 3) := by decide +kernel
theorem dX2_add_22 : decode cX2_add 22 = .ok (.aload_n 0, 1) := by decide +kernel
theorem dX2_add_23 : decode cX2_add 23 = .ok (.getfield 29, 3) := by decide +kernel
theorem dX2_add_26 : decode cX2_add 26 = .ok (.iload_n 1, 1) := by decide +kernel
theorem dX2_add_27 : decode cX2_add 27 = .ok (.iastore, 1) := by decide +kernel
theorem dX2_add_28 : decode cX2_add 28 = .ok (.aload_n 0, 1) := by decide +kernel
theorem dX2_add_29 : decode cX2_add 29 = .ok (.dup, 1) := by decide +kernel
theorem dX2_add_30 : decode cX2_add 30 = .ok (.getfield 29, 3) := by decide +kernel
theorem dX2_add_33 : decode cX2_add 33 = .ok (.iconst 1, 1) := by decide +kernel
theorem dX2_add_34 : decode cX2_add 34 = .ok (.iadd, 1) := by decide +kernel
theorem dX2_add_35 : decode cX2_add 35 = .ok (.putfield 29, 3) := by decide +kernel
theorem dX2_add_38 : decode cX2_add 38 = .ok (.iconst 1, 1) := by decide +kernel
theorem dX2_add_39 : decode cX2_add 39 = .ok (.ireturn, 1) := by decide +kernel
theorem dX2_read_0 : decode cX2_read 0 = .ok (.aload_n 0, 1) := by decide +kernel
theorem dX2_read_1 : decode cX2_read 1 = .ok (.getfield 12, 3) := by decide +kernel
theorem dX2_read_4 : decode cX2_read 4 = .ok (.invokevirtual 33, 3) := by decide +kernel
theorem dX2_read_7 : decode cX2_read 7 = .ok (.aload_n 0, 1) := by decide +kernel
theorem dX2_read_8 : decode cX2_read 8 = .ok (.getfield 21, 3) := by decide +kernel
theorem dX2_read_11 : decode cX2_read 11 = .ok (.invokevirtual 36, 3) := by decide +kernel
theorem dX2_read_14 : decode cX2_read 14 = .ok (.aload_n 0, 1) := by decide +kernel
theorem dX2_read_15 : decode cX2_read 15 = .ok (.iconst 0, 1) := by decide +kernel
theorem dX2_read_16 : decode cX2_read 16 = .ok (.putfield 37, 3) := by decide +kernel
theorem dX2_read_19 : decode cX2_read 19 = .ok (.aload_n 0, 1) := by decide +kernel
theorem dX2_read_20 : decode cX2_read 20 = .ok (.invokevirtual 40, 3) := by decide +kernel
theorem dX2_read_23 : decode cX2_read 23 = .ok (.iconst 0, 1) := by decide +kernel
theorem dX2_read_24 : decode cX2_read 24 = .ok (.istore_n 1, 1) := by decide +kernel
theorem dX2_read_25 : decode cX2_read 25 = .ok (.aload_n 0, 1) := by decide +kernel
theorem dX2_read_26 : decode cX2_read 26 = .ok (.getfield 43, 3) := by decide +kernel
theorem dX2_read_29 : decode cX2_read 29 = .ok (.iconst (-1), 1) := by decide +kernel
theorem dX2_read_30 : decode cX2_read 30 = .ok (.if_icmp .eq 30, 3) := by decide +kernel
theorem dX2_read_33 : decode cX2_read 33 = .ok (.iload_n 1, 1) := by decide +kernel
theorem dX2_read_34 : decode cX2_read 34 = .ok (.bipush 100, 2) := by decide +kernel
theorem dX2_read_36 : decode cX2_read 36 = .ok (.if_icmp .ge 24, 3) := by decide +kernel
theorem dX2_read_39 : decode cX2_read 39 = .ok (.aload_n 0, 1) := by decide +kernel
theorem dX2_read_40 : decode cX2_read 40 = .ok (.invokevirtual 46, 3) := by decide +kernel
theorem dX2_read_43 : decode cX2_read 43 = .ok (.ifCond .ne 11, 3) := by decide +kernel
theorem dX2_read_46 : decode cX2_read 46 = .ok (.bipush (-10), 2) := by decide +kernel
theorem dX2_read_48 : decode cX2_read 48 = .ok (.aload_n 0, 1) := by decide +kernel
theorem dX2_read_49 : decode cX2_read 49 = .ok (.getfield 50, 3) := by decide +kernel
theorem dX2_read_52 : decode cX2_read 52 = .ok (.isub, 1) := by decide +kernel
theorem dX2_read_53 : decode cX2_read 53 = .ok (.ireturn, 1) := by decide +kernel
theorem dX2_read_54 : decode cX2_read 54 = .ok (.iinc 1 1, 3) := by decide +kernel
theorem dX2_read_57 : decode cX2_read 57 = .ok (.goto (-32), 3) := by decide +kernel
theorem dX2_read_60 : decode cX2_read 60 = .ok (.iload_n 1, 1) := by decide +kernel
theorem dX2_read_61 : decode cX2_read 61 = .ok (.ireturn, 1) := by decide +kernel
theorem dX2_readItem_0 : decode cX2_readItem 0 = .ok (.iconst 0, 1) := by decide +kernel
theorem dX2_readItem_1 : decode cX2_readItem 1 = .ok (.istore_n 1, 1) := by decide +kernel
theorem dX2_readItem_2 : decode cX2_readItem 2 = .ok (.aload_n 0, 1) := by decide +kernel
theorem dX2_readItem_3 : decode cX2_readItem 3 = .ok (.getfield 43, 3) := by decide +kernel
theorem dX2_readItem_6 : decode cX2_readItem 6 = .ok (.bipush 83, 2) := by decide +kernel
theorem dX2_readItem_8 : decode cX2_readItem 8 = .ok (.if_icmp .ne 11, 3) := by decide +kernel
theorem dX2_readItem_11 : decode cX2_readItem 11 = .ok (.aload_n 0, 1) := by decide +kernel
theorem dX2_readItem_12 : decode cX2_readItem 12 = .ok (.invokevirtual 53, 3) := by decide +kernel
theorem dX2_readItem_15 : decode cX2_readItem 15 = .ok (.istore_n 1, 1) := by decide +kernel
theorem dX2_readItem_16 : decode cX2_readItem 16 = .ok (.goto 34, 3) := by decide +kernel
theorem dX2_readItem_19 : decode cX2_readItem 19 = .ok (.aload_n 0, 1) := by decide +kernel
theorem dX2_readItem_20 : decode cX2_readItem 20 = .ok (.getfield 43, 3) := by decide +kernel
theorem dX2_readItem_23 : decode cX2_readItem 23 = .ok (.bipush 67, 2) := by decide +kernel
theorem dX2_readItem_25 : decode cX2_readItem 25 = .ok (.if_icmp .ne 11, 3) := by decide +kernel
theorem dX2_readItem_28 : decode cX2_readItem 28 = .ok (.aload_n 0, 1) := by decide +kernel
theorem dX2_readItem_29 : decode cX2_readItem 29 = .ok (.invokevirtual 56, 3) := by decide +kernel
theorem dX2_readItem_32 : decode cX2_readItem 32 = .ok (.istore_n 1, 1) := by decide +kernel
theorem dX2_readItem_33 : decode cX2_readItem 33 = .ok (.goto 17, 3) := by decide +kernel
theorem dX2_readItem_36 : decode cX2_readItem 36 = .ok (.aload_n 0, 1) := by decide +kernel
theorem dX2_readItem_37 : decode cX2_readItem 37 = .ok (.getfield 43, 3) := by decide +kernel
theorem dX2_readItem_40 : decode cX2_readItem 40 = .ok (.bipush 70, 2) := by decide +kernel
theorem dX2_readItem_42 : decode cX2_readItem 42 = .ok (.if_icmp .ne 8, 3) := by decide +kernel
theorem dX2_readItem_45 : decode cX2_readItem 45 = .ok (.aload_n 0, 1) := by decide +kernel
theorem dX2_readItem_46 : decode cX2_readItem 46 = .ok (.invokevirtual 59, 3) := by decide +kernel
theorem dX2_readItem_49 : decode cX2_readItem 49 = .ok (.istore_n 1, 1) := by decide +kernel
theorem dX2_readItem_50 : decode cX2_readItem 50 = .ok (.iload_n 1, 1) := by decide +kernel
theorem dX2_readItem_51 : decode cX2_readItem 51 = .ok (.ifCond .eq 12, 3) := by decide +kernel
theorem dX2_readItem_54 : decode cX2_readItem 54 = .ok (.aload_n 0, 1) := by decide +kernel
theorem dX2_readItem_55 : decode cX2_readItem 55 = .ok (.getfield 43, 3) := by decide +kernel
theorem dX2_readItem_58 : decode cX2_readItem 58 = .ok (.bipush 59, 2) := by decide +kernel
theorem dX2_readItem_60 : decode cX2_readItem 60 = .ok (.if_icmp .eq 5, 3) := by decide +kernel
theorem dX2_readItem_63 : decode cX2_readItem 63 = .ok (.iconst 0, 1) := by decide +kernel
theorem dX2_readItem_64 : decode cX2_readItem 64 = .ok (.ireturn, 1) := by decide +kernel
theorem dX2_readItem_65 : decode cX2_readItem 65 = .ok (.aload_n 0, 1) := by decide +kernel
theorem dX2_readItem_66 : decode cX2_readItem 66 = .ok (.invokevirtual 40, 3) := by decide +kernel
theorem dX2_readItem_69 : decode cX2_readItem 69 = .ok (.iconst 1, 1) := by decide +kernel
theorem dX2_readItem_70 : decode cX2_readItem 70 = .ok (.ireturn, 1) := by decide +kernel
theorem dX2_readSource_0 : decode cX2_readSource 0 = .ok (.aload_n 0, 1) := by decide +kernel
theorem dX2_readSource_1 : decode cX2_readSource 1 = .ok (.invokevirtual 40, 3) := by decide +kernel
theorem dX2_readSource_4 : decode cX2_readSource 4 = .ok (.aload_n 0, 1) := by decide +kernel
theorem dX2_readSource_5 : decode cX2_readSource 5 = .ok (.invokevirtual 62, 3) := by decide +kernel
theorem dX2_readSource_8 : decode cX2_readSource 8 = .ok (.istore_n 1, 1) := by decide +kernel
theorem dX2_readSource_9 : decode cX2_readSource 9 = .ok (.iload_n 1, 1) := by decide +kernel
theorem dX2_readSource_10 : decode cX2_readSource 10 = .ok (.invokestatic 66, 3) := by decide +kernel
theorem dX2_readSource_13 : decode cX2_readSource 13 = .ok (.ifCond .ne 5, 3) := by decide +kernel
theorem dX2_readSource_16 : decode cX2_readSource 16 = .ok (.iconst 0, 1) := by decide +kernel
theorem dX2_readSource_17 : decode cX2_readSource 17 = .ok (.ireturn, 1) := by decide +kernel
theorem dX2_readSource_18 : decode cX2_readSource 18 = .ok (.aload_n 0, 1) := by decide +kernel
theorem dX2_readSource_19 : decode cX2_readSource 19 = .ok (.invokevirtual 40, 3) := by decide +kernel
theorem dX2_readSource_22 : decode cX2_readSource 22 = .ok (.aload_n 0, 1) := by decide +kernel
theorem dX2_readSource_23 : decode cX2_readSource 23 = .ok (.invokevirtual 70, 3) := by decide +kernel
theorem dX2_readSource_26 : decode cX2_readSource 26 = .ok (.istore_n 2, 1) := by decide +kernel
theorem dX2_readSource_27 : decode cX2_readSource 27 = .ok (.aload_n 0, 1) := by decide +kernel
theorem dX2_readSource_28 : decode cX2_readSource 28 = .ok (.getfield 43, 3) := by decide +kernel
theorem dX2_readSource_31 : decode cX2_readSource 31 = .ok (.bipush (-2), 2) := by decide +kernel
theorem dX2_readSource_33 : decode cX2_readSource 33 = .ok (.if_icmp .eq 5, 3) := by decide +kernel
theorem dX2_readSource_36 : decode cX2_readSource 36 = .ok (.iconst 0, 1) := by decide +kernel
theorem dX2_readSource_37 : decode cX2_readSource 37 = .ok (.ireturn, 1) := by decide +kernel
theorem dX2_readSource_38 : decode cX2_readSource 38 = .ok (.aload_n 0, 1) := by decide +kernel
theorem dX2_readSource_39 : decode cX2_readSource 39 = .ok (.getfield 12, 3) := by decide +kernel
theorem dX2_readSource_42 : decode cX2_readSource 42 = .ok (.iload_n 1, 1) := by decide +kernel
theorem dX2_readSource_43 : decode cX2_readSource 43 = .ok (.iload_n 2, 1) := by decide +kernel
theorem dX2_readSource_44 : decode cX2_readSource 44 = .ok (.aload_n 0, 1) := by decide +kernel
theorem dX2_readSource_45 : decode cX2_readSource 45 = .ok (.getfield 73, 3) := by decide +kernel
theorem dX2_readSource_48 : decode cX2_readSource 48 = .ok (.imul, 1) := by decide +kernel
theorem dX2_readSource_49 : decode cX2_readSource 49 = .ok (.invokevirtual 76, 3) := by decide +kernel
theorem dX2_readSource_52 : decode cX2_readSource 52 = .ok (.aload_n 0, 1) := by decide +kernel
theorem dX2_readSource_53 : decode cX2_readSource 53 = .ok (.invokevirtual 40, 3) := by decide +kernel
theorem dX2_readSource_56 : decode cX2_readSource 56 = .ok (.aload_n 0, 1) := by decide +kernel
theorem dX2_readSource_57 : decode cX2_readSource 57 = .ok (.getfield 43, 3) := by decide +kernel
theorem dX2_readSource_60 : decode cX2_readSource 60 = .ok (.bipush (-2), 2) := by decide +kernel
theorem dX2_readSource_62 : decode cX2_readSource 62 = .ok (.if_icmp .eq 5, 3) := by decide +kernel
theorem dX2_readSource_65 : decode cX2_readSource 65 = .ok (.iconst 0, 1) := by decide +kernel
theorem dX2_readSource_66 : decode cX2_readSource 66 = .ok (.ireturn, 1) := by decide +kernel
theorem dX2_readSource_67 : decode cX2_readSource 67 = .ok (.aload_n 0, 1) := by decide +kernel
theorem dX2_readSource_68 : decode cX2_readSource 68 = .ok (.getfield 12, 3) := by decide +kernel
theorem dX2_readSource_71 : decode cX2_readSource 71 = .ok (.iload_n 1, 1) := by decide +kernel
theorem dX2_readSource_72 : decode cX2_readSource 72 = .ok (.iload_n 1, 1) := by decide +kernel
theorem dX2_readSource_73 : decode cX2_readSource 73 = .ok (.aload_n 0, 1) := by decide +kernel
theorem dX2_readSource_74 : decode cX2_readSource 74 = .ok (.getfield 73, 3) := by decide +kernel
theorem dX2_readSource_77 : decode cX2_readSource 77 = .ok (.invokevirtual 80, 3) := by decide +kernel
theorem dX2_readSource_80 : decode cX2_readSource 80 = .ok (.aload_n 0, 1) := by decide +kernel
theorem dX2_readSource_81 : decode cX2_readSource 81 = .ok (.invokevirtual 40, 3) := by decide +kernel
theorem dX2_readSource_84 : decode cX2_readSource 84 = .ok (.iconst 1, 1) := by decide +kernel
theorem dX2_readSource_85 : decode cX2_readSource 85 = .ok (.ireturn, 1) := by decide +kernel
theorem dX2_readJoint_0 : decode cX2_readJoint 0 = .ok (.aload_n 0, 1) := by decide +kernel
theorem dX2_readJoint_1 : decode cX2_readJoint 1 = .ok (.invokevirtual 40, 3) := by decide +kernel
theorem dX2_readJoint_4 : decode cX2_readJoint 4 = .ok (.aload_n 0, 1) := by decide +kernel
theorem dX2_readJoint_5 : decode cX2_readJoint 5 = .ok (.invokevirtual 62, 3) := by decide +kernel
theorem dX2_readJoint_8 : decode cX2_readJoint 8 = .ok (.istore_n 1, 1) := by decide +kernel
theorem dX2_readJoint_9 : decode cX2_readJoint 9 = .ok (.iload_n 1, 1) := by decide +kernel
theorem dX2_readJoint_10 : decode cX2_readJoint 10 = .ok (.invokestatic 66, 3) := by decide +kernel
theorem dX2_readJoint_13 : decode cX2_readJoint 13 = .ok (.ifCond .ne 5, 3) := by decide +kernel
theorem dX2_readJoint_16 : decode cX2_readJoint 16 = .ok (.iconst 0, 1) := by decide +kernel
theorem dX2_readJoint_17 : decode cX2_readJoint 17 = .ok (.ireturn, 1) := by decide +kernel
theorem dX2_readJoint_18 : decode cX2_readJoint 18 = .ok (.aload_n 0, 1) := by decide +kernel
theorem dX2_readJoint_19 : decode cX2_readJoint 19 = .ok (.invokevirtual 40, 3) := by decide +kernel
theorem dX2_readJoint_22 : decode cX2_readJoint 22 = .ok (.aload_n 0, 1) := by decide +kernel
theorem dX2_readJoint_23 : decode cX2_readJoint 23 = .ok (.invokevirtual 62, 3) := by decide +kernel
theorem dX2_readJoint_26 : decode cX2_readJoint 26 = .ok (.istore_n 2, 1) := by decide +kernel
theorem dX2_readJoint_27 : decode cX2_readJoint 27 = .ok (.iload_n 2, 1) := by decide +kernel
theorem dX2_readJoint_28 : decode cX2_readJoint 28 = .ok (.invokestatic 66, 3) := by decide +kernel
theorem dX2_readJoint_31 : decode cX2_readJoint 31 = .ok (.ifCond .eq 8, 3) := by decide +kernel
theorem dX2_readJoint_34 : decode cX2_readJoint 34 = .ok (.iload_n 2, 1) := by decide +kernel
theorem dX2_readJoint_35 : decode cX2_readJoint 35 = .ok (.iload_n 1, 1) := by decide +kernel
theorem dX2_readJoint_36 : decode cX2_readJoint 36 = .ok (.if_icmp .ne 5, 3) := by decide +kernel
theorem dX2_readJoint_39 : decode cX2_readJoint 39 = .ok (.iconst 0, 1) := by decide +kernel
theorem dX2_readJoint_40 : decode cX2_readJoint 40 = .ok (.ireturn, 1) := by decide +kernel
theorem dX2_readJoint_41 : decode cX2_readJoint 41 = .ok (.aload_n 0, 1) := by decide +kernel
theorem dX2_readJoint_42 : decode cX2_readJoint 42 = .ok (.invokevirtual 40, 3) := by decide +kernel
theorem dX2_readJoint_45 : decode cX2_readJoint 45 = .ok (.aload_n 0, 1) := by decide +kernel
theorem dX2_readJoint_46 : decode cX2_readJoint 46 = .ok (.invokevirtual 70, 3) := by decide +kernel
theorem dX2_readJoint_49 : decode cX2_readJoint 49 = .ok (.istore_n 3, 1) := by decide +kernel
theorem dX2_readJoint_50 : decode cX2_readJoint 50 = .ok (.aload_n 0, 1) := by decide +kernel
theorem dX2_readJoint_51 : decode cX2_readJoint 51 = .ok (.getfield 43, 3) := by decide +kernel
theorem dX2_readJoint_54 : decode cX2_readJoint 54 = .ok (.bipush (-2), 2) := by decide +kernel
theorem dX2_readJoint_56 : decode cX2_readJoint 56 = .ok (.if_icmp .eq 5, 3) := by decide +kernel
theorem dX2_readJoint_59 : decode cX2_readJoint 59 = .ok (.iconst 0, 1) := by decide +kernel
theorem dX2_readJoint_60 : decode cX2_readJoint 60 = .ok (.ireturn, 1) := by decide +kernel
theorem dX2_readJoint_61 : decode cX2_readJoint 61 = .ok (.aload_n 0, 1) := by decide +kernel
theorem dX2_readJoint_62 : decode cX2_readJoint 62 = .ok (.getfield 12, 3) := by decide +kernel
theorem dX2_readJoint_65 : decode cX2_readJoint 65 = .ok (.iload_n 1, 1) := by decide +kernel
theorem dX2_readJoint_66 : decode cX2_readJoint 66 = .ok (.iload_n 2, 1) := by decide +kernel
theorem dX2_readJoint_67 : decode cX2_readJoint 67 = .ok (.iload_n 3, 1) := by decide +kernel
theorem dX2_readJoint_68 : decode cX2_readJoint 68 = .ok (.aload_n 0, 1) := by decide +kernel
theorem dX2_readJoint_69 : decode cX2_readJoint 69 = .ok (.getfield 73, 3) := by decide +kernel
theorem dX2_readJoint_72 : decode cX2_readJoint 72 = .ok (.imul, 1) := by decide +kernel
theorem dX2_readJoint_73 : decode cX2_readJoint 73 = .ok (.invokevirtual 80, 3) := by decide +kernel
theorem dX2_readJoint_76 : decode cX2_readJoint 76 = .ok (.aload_n 0, 1) := by decide +kernel
theorem dX2_readJoint_77 : decode cX2_readJoint 77 = .ok (.invokevirtual 40, 3) := by decide +kernel
theorem dX2_readJoint_80 : decode cX2_readJoint 80 = .ok (.iconst 1, 1) := by decide +kernel
theorem dX2_readJoint_81 : decode cX2_readJoint 81 = .ok (.ireturn, 1) := by decide +kernel
theorem dX2_readFormula_0 : decode cX2_readFormula 0 = .ok (.aload_n 0, 1) := by decide +kernel
theorem dX2_readFormula_1 : decode cX2_readFormula 1 = .ok (.getfield 21, 3) := by decide +kernel
theorem dX2_readFormula_4 : decode cX2_readFormula 4 = .ok (.invokevirtual 84, 3) := by decide +kernel
theorem dX2_readFormula_7 : decode cX2_readFormula 7 = .ok (.iconst 4, 1) := by decide +kernel
theorem dX2_readFormula_8 : decode cX2_readFormula 8 = .ok (.if_icmp .lt 5, 3) := by decide +kernel
theorem dX2_readFormula_11 : decode cX2_readFormula 11 = .ok (.iconst 0, 1) := by decide +kernel
theorem dX2_readFormula_12 : decode cX2_readFormula 12 = .ok (.ireturn, 1) := by decide +kernel
theorem dX2_readFormula_13 : decode cX2_readFormula 13 = .ok (.aload_n 0, 1) := by decide +kernel
theorem dX2_readFormula_14 : decode cX2_readFormula 14 = .ok (.invokevirtual 40, 3) := by decide +kernel
theorem dX2_readFormula_17 : decode cX2_readFormula 17 = .ok (.aload_n 0, 1) := by decide +kernel
theorem dX2_readFormula_18 : decode cX2_readFormula 18 = .ok (.iconst 0, 1) := by decide +kernel
theorem dX2_readFormula_19 : decode cX2_readFormula 19 = .ok (.putfield 87, 3) := by decide +kernel
theorem dX2_readFormula_22 : decode cX2_readFormula 22 = .ok (.aload_n 0, 1) := by decide +kernel
theorem dX2_readFormula_23 : decode cX2_readFormula 23 = .ok (.iconst 0, 1) := by decide +kernel
theorem dX2_readFormula_24 : decode cX2_readFormula 24 = .ok (.invokevirtual 90, 3) := by decide +kernel
theorem dX2_readFormula_27 : decode cX2_readFormula 27 = .ok (.iconst (-1), 1) := by decide +kernel
theorem dX2_readFormula_28 : decode cX2_readFormula 28 = .ok (.if_icmp .eq 12, 3) := by decide +kernel
theorem dX2_readFormula_31 : decode cX2_readFormula 31 = .ok (.aload_n 0, 1) := by decide +kernel
theorem dX2_readFormula_32 : decode cX2_readFormula 32 = .ok (.getfield 43, 3) := by decide +kernel
theorem dX2_readFormula_35 : decode cX2_readFormula 35 = .ok (.bipush 59, 2) := by decide +kernel
theorem dX2_readFormula_37 : decode cX2_readFormula 37 = .ok (.if_icmp .eq 5, 3) := by decide +kernel
theorem dX2_readFormula_40 : decode cX2_readFormula 40 = .ok (.iconst 0, 1) := by decide +kernel
theorem dX2_readFormula_41 : decode cX2_readFormula 41 = .ok (.ireturn, 1) := by decide +kernel
theorem dX2_readFormula_42 : decode cX2_readFormula 42 = .ok (.aload_n 0, 1) := by decide +kernel
theorem dX2_readFormula_43 : decode cX2_readFormula 43 = .ok (.getfield 21, 3) := by decide +kernel
theorem dX2_readFormula_46 : decode cX2_readFormula 46 = .ok (.invokevirtual 94, 3) := by decide +kernel
theorem dX2_readFormula_49 : decode cX2_readFormula 49 = .ok (.iconst 1, 1) := by decide +kernel
theorem dX2_readFormula_50 : decode cX2_readFormula 50 = .ok (.ireturn, 1) := by decide +kernel
theorem dX2_readSum_0 : decode cX2_readSum 0 = .ok (.aload_n 0, 1) := by decide +kernel
theorem dX2_readSum_1 : decode cX2_readSum 1 = .ok (.iload_n 1, 1) := by decide +kernel
theorem dX2_readSum_2 : decode cX2_readSum 2 = .ok (.invokevirtual 97, 3) := by decide +kernel
theorem dX2_readSum_5 : decode cX2_readSum 5 = .ok (.istore_n 2, 1) := by decide +kernel
theorem dX2_readSum_6 : decode cX2_readSum 6 = .ok (.iconst 0, 1) := by decide +kernel
theorem dX2_readSum_7 : decode cX2_readSum 7 = .ok (.istore_n 3, 1) := by decide +kernel
theorem dX2_readSum_8 : decode cX2_readSum 8 = .ok (.iload_n 3, 1) := by decide +kernel
theorem dX2_readSum_9 : decode cX2_readSum 9 = .ok (.bipush 20, 2) := by decide +kernel
theorem dX2_readSum_11 : decode cX2_readSum 11 = .ok (.if_icmp .ge 91, 3) := by decide +kernel
theorem dX2_readSum_14 : decode cX2_readSum 14 = .ok (.iload_n 2, 1) := by decide +kernel
theorem dX2_readSum_15 : decode cX2_readSum 15 = .ok (.iconst (-1), 1) := by decide +kernel
theorem dX2_readSum_16 : decode cX2_readSum 16 = .ok (.if_icmp .eq 86, 3) := by decide +kernel
theorem dX2_readSum_19 : decode cX2_readSum 19 = .ok (.aload_n 0, 1) := by decide +kernel
theorem dX2_readSum_20 : decode cX2_readSum 20 = .ok (.getfield 43, 3) := by decide +kernel
theorem dX2_readSum_23 : decode cX2_readSum 23 = .ok (.bipush 43, 2) := by decide +kernel
theorem dX2_readSum_25 : decode cX2_readSum 25 = .ok (.if_icmp .eq 12, 3) := by decide +kernel
theorem dX2_readSum_28 : decode cX2_readSum 28 = .ok (.aload_n 0, 1) := by decide +kernel
theorem dX2_readSum_29 : decode cX2_readSum 29 = .ok (.getfield 43, 3) := by decide +kernel
theorem dX2_readSum_32 : decode cX2_readSum 32 = .ok (.bipush 45, 2) := by decide +kernel
theorem dX2_readSum_34 : decode cX2_readSum 34 = .ok (.if_icmp .ne 68, 3) := by decide +kernel
theorem dX2_readSum_37 : decode cX2_readSum 37 = .ok (.aload_n 0, 1) := by decide +kernel
theorem dX2_readSum_38 : decode cX2_readSum 38 = .ok (.getfield 43, 3) := by decide +kernel
theorem dX2_readSum_41 : decode cX2_readSum 41 = .ok (.bipush 43, 2) := by decide +kernel
theorem dX2_readSum_43 : decode cX2_readSum 43 = .ok (.if_icmp .ne 7, 3) := by decide +kernel
theorem dX2_readSum_46 : decode cX2_readSum 46 = .ok (.iconst 3, 1) := by decide +kernel
theorem dX2_readSum_47 : decode cX2_readSum 47 = .ok (.goto 4, 3) := by decide +kernel
theorem dX2_readSum_50 : decode cX2_readSum 50 = .ok (.iconst 4, 1) := by decide +kernel
theorem dX2_readSum_51 : decode cX2_readSum 51 = .ok (.istore 4, 2) := by decide +kernel
theorem dX2_readSum_53 : decode cX2_readSum 53 = .ok (.aload_n 0, 1) := by decide +kernel
theorem dX2_readSum_54 : decode cX2_readSum 54 = .ok (.invokevirtual 100, 3) := by decide +kernel
theorem dX2_readSum_57 : decode cX2_readSum 57 = .ok (.ifCond .ne 5, 3) := by decide +kernel
theorem dX2_readSum_60 : decode cX2_readSum 60 = .ok (.iconst (-1), 1) := by decide +kernel
theorem dX2_readSum_61 : decode cX2_readSum 61 = .ok (.ireturn, 1) := by decide +kernel
theorem dX2_readSum_62 : decode cX2_readSum 62 = .ok (.aload_n 0, 1) := by decide +kernel
theorem dX2_readSum_63 : decode cX2_readSum 63 = .ok (.invokevirtual 40, 3) := by decide +kernel
theorem dX2_readSum_66 : decode cX2_readSum 66 = .ok (.aload_n 0, 1) := by decide +kernel
theorem dX2_readSum_67 : decode cX2_readSum 67 = .ok (.iload_n 1, 1) := by decide +kernel
theorem dX2_readSum_68 : decode cX2_readSum 68 = .ok (.invokevirtual 97, 3) := by decide +kernel
theorem dX2_readSum_71 : decode cX2_readSum 71 = .ok (.istore 5, 2) := by decide +kernel
theorem dX2_readSum_73 : decode cX2_readSum 73 = .ok (.iload 5, 2) := by decide +kernel
theorem dX2_readSum_75 : decode cX2_readSum 75 = .ok (.iconst (-1), 1) := by decide +kernel
theorem dX2_readSum_76 : decode cX2_readSum 76 = .ok (.if_icmp .ne 7, 3) := by decide +kernel
theorem dX2_readSum_79 : decode cX2_readSum 79 = .ok (.iconst (-1), 1) := by decide +kernel
theorem dX2_readSum_80 : decode cX2_readSum 80 = .ok (.goto 15, 3) := by decide +kernel
theorem dX2_readSum_83 : decode cX2_readSum 83 = .ok (.aload_n 0, 1) := by decide +kernel
theorem dX2_readSum_84 : decode cX2_readSum 84 = .ok (.getfield 21, 3) := by decide +kernel
theorem dX2_readSum_87 : decode cX2_readSum 87 = .ok (.iload 4, 2) := by decide +kernel
theorem dX2_readSum_89 : decode cX2_readSum 89 = .ok (.iload_n 2, 1) := by decide +kernel
theorem dX2_readSum_90 : decode cX2_readSum 90 = .ok (.iload 5, 2) := by decide +kernel
theorem dX2_readSum_92 : decode cX2_readSum 92 = .ok (.invokevirtual 103, 3) := by decide +kernel
theorem dX2_readSum_95 : decode cX2_readSum 95 = .ok (.istore_n 2, 1) := by decide +kernel
theorem dX2_readSum_96 : decode cX2_readSum 96 = .ok (.iinc 3 1, 3) := by decide +kernel
theorem dX2_readSum_99 : decode cX2_readSum 99 = .ok (.goto (-91), 3) := by decide +kernel
theorem dX2_readSum_102 : decode cX2_readSum 102 = .ok (.iload_n 2, 1) := by decide +kernel
theorem dX2_readSum_103 : decode cX2_readSum 103 = .ok (.ireturn, 1) := by decide +kernel
theorem dX2_readProduct_0 : decode cX2_readProduct 0 = .ok (.aload_n 0, 1) := by decide +kernel
theorem dX2_readProduct_1 : decode cX2_readProduct 1 = .ok (.iload_n 1, 1) := by decide +kernel
theorem dX2_readProduct_2 : decode cX2_readProduct 2 = .ok (.invokevirtual 107, 3) := by decide +kernel
theorem dX2_readProduct_5 : decode cX2_readProduct 5 = .ok (.istore_n 2, 1) := by decide +kernel
theorem dX2_readProduct_6 : decode cX2_readProduct 6 = .ok (.iconst 0, 1) := by decide +kernel
theorem dX2_readProduct_7 : decode cX2_readProduct 7 = .ok (.istore_n 3, 1) := by decide +kernel
theorem dX2_readProduct_8 : decode cX2_readProduct 8 = .ok (.iload_n 3, 1) := by decide +kernel
theorem dX2_readProduct_9 : decode cX2_readProduct 9 = .ok (.bipush 20, 2) := by decide +kernel
theorem dX2_readProduct_11 : decode cX2_readProduct 11 = .ok (.if_icmp .ge 65, 3) := by decide +kernel
theorem dX2_readProduct_14 : decode cX2_readProduct 14 = .ok (.iload_n 2, 1) := by decide +kernel
theorem dX2_readProduct_15 : decode cX2_readProduct 15 = .ok (.iconst (-1), 1) := by decide +kernel
theorem dX2_readProduct_16 : decode cX2_readProduct 16 = .ok (.if_icmp .eq 60, 3) := by decide +kernel
theorem dX2_readProduct_19 : decode cX2_readProduct 19 = .ok (.aload_n 0, 1) := by decide +kernel
theorem dX2_readProduct_20 : decode cX2_readProduct 20 = .ok (.getfield 43, 3) := by decide +kernel
theorem dX2_readProduct_23 : decode cX2_readProduct 23 = .ok (.bipush 42, 2) := by decide +kernel
theorem dX2_readProduct_25 : decode cX2_readProduct 25 = .ok (.if_icmp .ne 51, 3) := by decide +kernel
theorem dX2_readProduct_28 : decode cX2_readProduct 28 = .ok (.aload_n 0, 1) := by decide +kernel
theorem dX2_readProduct_29 : decode cX2_readProduct 29 = .ok (.invokevirtual 100, 3) := by decide +kernel
theorem dX2_readProduct_32 : decode cX2_readProduct 32 = .ok (.ifCond .ne 5, 3) := by decide +kernel
theorem dX2_readProduct_35 : decode cX2_readProduct 35 = .ok (.iconst (-1), 1) := by decide +kernel
theorem dX2_readProduct_36 : decode cX2_readProduct 36 = .ok (.ireturn, 1) := by decide +kernel
theorem dX2_readProduct_37 : decode cX2_readProduct 37 = .ok (.aload_n 0, 1) := by decide +kernel
theorem dX2_readProduct_38 : decode cX2_readProduct 38 = .ok (.invokevirtual 40, 3) := by decide +kernel
theorem dX2_readProduct_41 : decode cX2_readProduct 41 = .ok (.aload_n 0, 1) := by decide +kernel
theorem dX2_readProduct_42 : decode cX2_readProduct 42 = .ok (.iload_n 1, 1) := by decide +kernel
theorem dX2_readProduct_43 : decode cX2_readProduct 43 = .ok (.invokevirtual 107, 3) := by decide +kernel
theorem dX2_readProduct_46 : decode cX2_readProduct 46 = .ok (.istore 4, 2) := by decide +kernel
theorem dX2_readProduct_48 : decode cX2_readProduct 48 = .ok (.iload 4, 2) := by decide +kernel
theorem dX2_readProduct_50 : decode cX2_readProduct 50 = .ok (.iconst (-1), 1) := by decide +kernel
theorem dX2_readProduct_51 : decode cX2_readProduct 51 = .ok (.if_icmp .ne 7, 3) := by decide +kernel
theorem dX2_readProduct_54 : decode cX2_readProduct 54 = .ok (.iconst (-1), 1) := by decide +kernel
theorem dX2_readProduct_55 : decode cX2_readProduct 55 = .ok (.goto 14, 3) := by decide +kernel
theorem dX2_readProduct_58 : decode cX2_readProduct 58 = .ok (.aload_n 0, 1) := by decide +kernel
theorem dX2_readProduct_59 : decode cX2_readProduct 59 = .ok (.getfield 21, 3) := by decide +kernel
theorem dX2_readProduct_62 : decode cX2_readProduct 62 = .ok (.iconst 5, 1) := by decide +kernel
theorem dX2_readProduct_63 : decode cX2_readProduct 63 = .ok (.iload_n 2, 1) := by decide +kernel
theorem dX2_readProduct_64 : decode cX2_readProduct 64 = .ok (.iload 4, 2) := by decide +kernel
theorem dX2_readProduct_66 : decode cX2_readProduct 66 = .ok (.invokevirtual 103, 3) := by decide +kernel
theorem dX2_readProduct_69 : decode cX2_readProduct 69 = .ok (.istore_n 2, 1) := by decide +kernel
theorem dX2_readProduct_70 : decode cX2_readProduct 70 = .ok (.iinc 3 1, 3) := by decide +kernel
theorem dX2_readProduct_73 : decode cX2_readProduct 73 = .ok (.goto (-65), 3) := by decide +kernel
theorem dX2_readProduct_76 : decode cX2_readProduct 76 = .ok (.iload_n 2, 1) := by decide +kernel
theorem dX2_readProduct_77 : decode cX2_readProduct 77 = .ok (.ireturn, 1) := by decide +kernel
theorem dX2_readPower_0 : decode cX2_readPower 0 = .ok (.aload_n 0, 1) := by decide +kernel
theorem dX2_readPower_1 : decode cX2_readPower 1 = .ok (.iload_n 1, 1) := by decide +kernel
theorem dX2_readPower_2 : decode cX2_readPower 2 = .ok (.invokevirtual 110, 3) := by decide +kernel
theorem dX2_readPower_5 : decode cX2_readPower 5 = .ok (.istore_n 2, 1) := by decide +kernel
theorem dX2_readPower_6 : decode cX2_readPower 6 = .ok (.iload_n 2, 1) := by decide +kernel
theorem dX2_readPower_7 : decode cX2_readPower 7 = .ok (.iconst (-1), 1) := by decide +kernel
theorem dX2_readPower_8 : decode cX2_readPower 8 = .ok (.if_icmp .eq 12, 3) := by decide +kernel
theorem dX2_readPower_11 : decode cX2_readPower 11 = .ok (.aload_n 0, 1) := by decide +kernel
theorem dX2_readPower_12 : decode cX2_readPower 12 = .ok (.getfield 43, 3) := by decide +kernel
theorem dX2_readPower_15 : decode cX2_readPower 15 = .ok (.bipush 94, 2) := by decide +kernel
theorem dX2_readPower_17 : decode cX2_readPower 17 = .ok (.if_icmp .eq 5, 3) := by decide +kernel
theorem dX2_readPower_20 : decode cX2_readPower 20 = .ok (.iload_n 2, 1) := by decide +kernel
theorem dX2_readPower_21 : decode cX2_readPower 21 = .ok (.ireturn, 1) := by decide +kernel
theorem dX2_readPower_22 : decode cX2_readPower 22 = .ok (.aload_n 0, 1) := by decide +kernel
theorem dX2_readPower_23 : decode cX2_readPower 23 = .ok (.invokevirtual 100, 3) := by decide +kernel
theorem dX2_readPower_26 : decode cX2_readPower 26 = .ok (.ifCond .ne 5, 3) := by decide +kernel
theorem dX2_readPower_29 : decode cX2_readPower 29 = .ok (.iconst (-1), 1) := by decide +kernel
theorem dX2_readPower_30 : decode cX2_readPower 30 = .ok (.ireturn, 1) := by decide +kernel
theorem dX2_readPower_31 : decode cX2_readPower 31 = .ok (.aload_n 0, 1) := by decide +kernel
theorem dX2_readPower_32 : decode cX2_readPower 32 = .ok (.invokevirtual 40, 3) := by decide +kernel
theorem dX2_readPower_35 : decode cX2_readPower 35 = .ok (.aload_n 0, 1) := by decide +kernel
theorem dX2_readPower_36 : decode cX2_readPower 36 = .ok (.getfield 43, 3) := by decide +kernel
theorem dX2_readPower_39 : decode cX2_readPower 39 = .ok (.bipush (-2), 2) := by decide +kernel
theorem dX2_readPower_41 : decode cX2_readPower 41 = .ok (.if_icmp .ne 11, 3) := by decide +kernel
theorem dX2_readPower_44 : decode cX2_readPower 44 = .ok (.aload_n 0, 1) := by decide +kernel
theorem dX2_readPower_45 : decode cX2_readPower 45 = .ok (.getfield 73, 3) := by decide +kernel
theorem dX2_readPower_48 : decode cX2_readPower 48 = .ok (.iconst 4, 1) := by decide +kernel
theorem dX2_readPower_49 : decode cX2_readPower 49 = .ok (.if_icmp .le 5, 3) := by decide +kernel
theorem dX2_readPower_52 : decode cX2_readPower 52 = .ok (.iconst (-1), 1) := by decide +kernel
theorem dX2_readPower_53 : decode cX2_readPower 53 = .ok (.ireturn, 1) := by decide +kernel
theorem dX2_readPower_54 : decode cX2_readPower 54 = .ok (.aload_n 0, 1) := by decide +kernel
theorem dX2_readPower_55 : decode cX2_readPower 55 = .ok (.getfield 21, 3) := by decide +kernel
theorem dX2_readPower_58 : decode cX2_readPower 58 = .ok (.bipush 6, 2) := by decide +kernel
theorem dX2_readPower_60 : decode cX2_readPower 60 = .ok (.iload_n 2, 1) := by decide +kernel
theorem dX2_readPower_61 : decode cX2_readPower 61 = .ok (.aload_n 0, 1) := by decide +kernel
theorem dX2_readPower_62 : decode cX2_readPower 62 = .ok (.getfield 73, 3) := by decide +kernel
theorem dX2_readPower_65 : decode cX2_readPower 65 = .ok (.invokevirtual 113, 3) := by decide +kernel
theorem dX2_readPower_68 : decode cX2_readPower 68 = .ok (.istore_n 2, 1) := by decide +kernel
theorem dX2_readPower_69 : decode cX2_readPower 69 = .ok (.aload_n 0, 1) := by decide +kernel
theorem dX2_readPower_70 : decode cX2_readPower 70 = .ok (.invokevirtual 40, 3) := by decide +kernel
theorem dX2_readPower_73 : decode cX2_readPower 73 = .ok (.iload_n 2, 1) := by decide +kernel
theorem dX2_readPower_74 : decode cX2_readPower 74 = .ok (.ireturn, 1) := by decide +kernel
theorem dX2_readPart_0 : decode cX2_readPart 0 = .ok (.iconst 0, 1) := by decide +kernel
theorem dX2_readPart_1 : decode cX2_readPart 1 = .ok (.istore_n 2, 1) := by decide +kernel
theorem dX2_readPart_2 : decode cX2_readPart 2 = .ok (.aload_n 0, 1) := by decide +kernel
theorem dX2_readPart_3 : decode cX2_readPart 3 = .ok (.getfield 43, 3) := by decide +kernel
theorem dX2_readPart_6 : decode cX2_readPart 6 = .ok (.bipush 45, 2) := by decide +kernel
theorem dX2_readPart_8 : decode cX2_readPart 8 = .ok (.if_icmp .ne 28, 3) := by decide +kernel
theorem dX2_readPart_11 : decode cX2_readPart 11 = .ok (.iload_n 2, 1) := by decide +kernel
theorem dX2_readPart_12 : decode cX2_readPart 12 = .ok (.bipush 20, 2) := by decide +kernel
theorem dX2_readPart_14 : decode cX2_readPart 14 = .ok (.if_icmp .ge 22, 3) := by decide +kernel
theorem dX2_readPart_17 : decode cX2_readPart 17 = .ok (.aload_n 0, 1) := by decide +kernel
theorem dX2_readPart_18 : decode cX2_readPart 18 = .ok (.invokevirtual 100, 3) := by decide +kernel
theorem dX2_readPart_21 : decode cX2_readPart 21 = .ok (.ifCond .ne 5, 3) := by decide +kernel
theorem dX2_readPart_24 : decode cX2_readPart 24 = .ok (.iconst (-1), 1) := by decide +kernel
theorem dX2_readPart_25 : decode cX2_readPart 25 = .ok (.ireturn, 1) := by decide +kernel
theorem dX2_readPart_26 : decode cX2_readPart 26 = .ok (.iinc 2 1, 3) := by decide +kernel
theorem dX2_readPart_29 : decode cX2_readPart 29 = .ok (.aload_n 0, 1) := by decide +kernel
theorem dX2_readPart_30 : decode cX2_readPart 30 = .ok (.invokevirtual 40, 3) := by decide +kernel
theorem dX2_readPart_33 : decode cX2_readPart 33 = .ok (.goto (-31), 3) := by decide +kernel
theorem dX2_readPart_36 : decode cX2_readPart 36 = .ok (.aload_n 0, 1) := by decide +kernel
theorem dX2_readPart_37 : decode cX2_readPart 37 = .ok (.iload_n 1, 1) := by decide +kernel
theorem dX2_readPart_38 : decode cX2_readPart 38 = .ok (.invokevirtual 116, 3) := by decide +kernel
theorem dX2_readPart_41 : decode cX2_readPart 41 = .ok (.istore_n 3, 1) := by decide +kernel
theorem dX2_readPart_42 : decode cX2_readPart 42 = .ok (.iconst 0, 1) := by decide +kernel
theorem dX2_readPart_43 : decode cX2_readPart 43 = .ok (.istore 4, 2) := by decide +kernel
theorem dX2_readPart_45 : decode cX2_readPart 45 = .ok (.iload 4, 2) := by decide +kernel
theorem dX2_readPart_47 : decode cX2_readPart 47 = .ok (.iload_n 2, 1) := by decide +kernel
theorem dX2_readPart_48 : decode cX2_readPart 48 = .ok (.if_icmp .ge 26, 3) := by decide +kernel
theorem dX2_readPart_51 : decode cX2_readPart 51 = .ok (.iload_n 3, 1) := by decide +kernel
theorem dX2_readPart_52 : decode cX2_readPart 52 = .ok (.iconst (-1), 1) := by decide +kernel
theorem dX2_readPart_53 : decode cX2_readPart 53 = .ok (.if_icmp .eq 21, 3) := by decide +kernel
theorem dX2_readPart_56 : decode cX2_readPart 56 = .ok (.aload_n 0, 1) := by decide +kernel
theorem dX2_readPart_57 : decode cX2_readPart 57 = .ok (.getfield 21, 3) := by decide +kernel
theorem dX2_readPart_60 : decode cX2_readPart 60 = .ok (.bipush 7, 2) := by decide +kernel
theorem dX2_readPart_62 : decode cX2_readPart 62 = .ok (.iload_n 3, 1) := by decide +kernel
theorem dX2_readPart_63 : decode cX2_readPart 63 = .ok (.iconst 0, 1) := by decide +kernel
theorem dX2_readPart_64 : decode cX2_readPart 64 = .ok (.invokevirtual 113, 3) := by decide +kernel
theorem dX2_readPart_67 : decode cX2_readPart 67 = .ok (.istore_n 3, 1) := by decide +kernel
theorem dX2_readPart_68 : decode cX2_readPart 68 = .ok (.iinc 4 1, 3) := by decide +kernel
theorem dX2_readPart_71 : decode cX2_readPart 71 = .ok (.goto (-26), 3) := by decide +kernel
theorem dX2_readPart_74 : decode cX2_readPart 74 = .ok (.iload_n 3, 1) := by decide +kernel
theorem dX2_readPart_75 : decode cX2_readPart 75 = .ok (.ireturn, 1) := by decide +kernel
theorem dX2_readBarePart_0 : decode cX2_readBarePart 0 = .ok (.aload_n 0, 1) := by decide +kernel
theorem dX2_readBarePart_1 : decode cX2_readBarePart 1 = .ok (.getfield 43, 3) := by decide +kernel
theorem dX2_readBarePart_4 : decode cX2_readBarePart 4 = .ok (.bipush 40, 2) := by decide +kernel
theorem dX2_readBarePart_6 : decode cX2_readBarePart 6 = .ok (.if_icmp .ne 9, 3) := by decide +kernel
theorem dX2_readBarePart_9 : decode cX2_readBarePart 9 = .ok (.aload_n 0, 1) := by decide +kernel
theorem dX2_readBarePart_10 : decode cX2_readBarePart 10 = .ok (.iload_n 1, 1) := by decide +kernel
theorem dX2_readBarePart_11 : decode cX2_readBarePart 11 = .ok (.invokevirtual 119, 3) := by decide +kernel
theorem dX2_readBarePart_14 : decode cX2_readBarePart 14 = .ok (.ireturn, 1) := by decide +kernel
theorem dX2_readBarePart_15 : decode cX2_readBarePart 15 = .ok (.aload_n 0, 1) := by decide +kernel
theorem dX2_readBarePart_16 : decode cX2_readBarePart 16 = .ok (.getfield 43, 3) := by decide +kernel
theorem dX2_readBarePart_19 : decode cX2_readBarePart 19 = .ok (.bipush 64, 2) := by decide +kernel
theorem dX2_readBarePart_21 : decode cX2_readBarePart 21 = .ok (.if_icmp .ne 8, 3) := by decide +kernel
theorem dX2_readBarePart_24 : decode cX2_readBarePart 24 = .ok (.aload_n 0, 1) := by decide +kernel
theorem dX2_readBarePart_25 : decode cX2_readBarePart 25 = .ok (.invokevirtual 122, 3) := by decide +kernel
theorem dX2_readBarePart_28 : decode cX2_readBarePart 28 = .ok (.ireturn, 1) := by decide +kernel
theorem dX2_readBarePart_29 : decode cX2_readBarePart 29 = .ok (.aload_n 0, 1) := by decide +kernel
theorem dX2_readBarePart_30 : decode cX2_readBarePart 30 = .ok (.invokevirtual 62, 3) := by decide +kernel
theorem dX2_readBarePart_33 : decode cX2_readBarePart 33 = .ok (.istore_n 2, 1) := by decide +kernel
theorem dX2_readBarePart_34 : decode cX2_readBarePart 34 = .ok (.aload_n 0, 1) := by decide +kernel
theorem dX2_readBarePart_35 : decode cX2_readBarePart 35 = .ok (.getfield 43, 3) := by decide +kernel
theorem dX2_readBarePart_38 : decode cX2_readBarePart 38 = .ok (.bipush (-2), 2) := by decide +kernel
theorem dX2_readBarePart_40 : decode cX2_readBarePart 40 = .ok (.if_icmp .eq 10, 3) := by decide +kernel
theorem dX2_readBarePart_43 : decode cX2_readBarePart 43 = .ok (.iload_n 2, 1) := by decide +kernel
theorem dX2_readBarePart_44 : decode cX2_readBarePart 44 = .ok (.invokestatic 66, 3) := by decide +kernel
theorem dX2_readBarePart_47 : decode cX2_readBarePart 47 = .ok (.ifCond .eq 10, 3) := by decide +kernel
theorem dX2_readBarePart_50 : decode cX2_readBarePart 50 = .ok (.aload_n 0, 1) := by decide +kernel
theorem dX2_readBarePart_51 : decode cX2_readBarePart 51 = .ok (.invokevirtual 100, 3) := by decide +kernel
theorem dX2_readBarePart_54 : decode cX2_readBarePart 54 = .ok (.ifCond .ne 5, 3) := by decide +kernel
theorem dX2_readBarePart_57 : decode cX2_readBarePart 57 = .ok (.iconst (-1), 1) := by decide +kernel
theorem dX2_readBarePart_58 : decode cX2_readBarePart 58 = .ok (.ireturn, 1) := by decide +kernel
theorem dX2_readBarePart_59 : decode cX2_readBarePart 59 = .ok (.aload_n 0, 1) := by decide +kernel
theorem dX2_readBarePart_60 : decode cX2_readBarePart 60 = .ok (.getfield 43, 3) := by decide +kernel
theorem dX2_readBarePart_63 : decode cX2_readBarePart 63 = .ok (.bipush (-2), 2) := by decide +kernel
theorem dX2_readBarePart_65 : decode cX2_readBarePart 65 = .ok (.if_icmp .ne 17, 3) := by decide +kernel
theorem dX2_readBarePart_68 : decode cX2_readBarePart 68 = .ok (.aload_n 0, 1) := by decide +kernel
theorem dX2_readBarePart_69 : decode cX2_readBarePart 69 = .ok (.getfield 21, 3) := by decide +kernel
theorem dX2_readBarePart_72 : decode cX2_readBarePart 72 = .ok (.aload_n 0, 1) := by decide +kernel
theorem dX2_readBarePart_73 : decode cX2_readBarePart 73 = .ok (.getfield 73, 3) := by decide +kernel
theorem dX2_readBarePart_76 : decode cX2_readBarePart 76 = .ok (.invokevirtual 125, 3) := by decide +kernel
theorem dX2_readBarePart_79 : decode cX2_readBarePart 79 = .ok (.goto 11, 3) := by decide +kernel
theorem dX2_readBarePart_82 : decode cX2_readBarePart 82 = .ok (.aload_n 0, 1) := by decide +kernel
theorem dX2_readBarePart_83 : decode cX2_readBarePart 83 = .ok (.getfield 21, 3) := by decide +kernel
theorem dX2_readBarePart_86 : decode cX2_readBarePart 86 = .ok (.iload_n 2, 1) := by decide +kernel
theorem dX2_readBarePart_87 : decode cX2_readBarePart 87 = .ok (.invokevirtual 128, 3) := by decide +kernel
theorem dX2_readBarePart_90 : decode cX2_readBarePart 90 = .ok (.istore_n 3, 1) := by decide +kernel
theorem dX2_readBarePart_91 : decode cX2_readBarePart 91 = .ok (.aload_n 0, 1) := by decide +kernel
theorem dX2_readBarePart_92 : decode cX2_readBarePart 92 = .ok (.invokevirtual 40, 3) := by decide +kernel
theorem dX2_readBarePart_95 : decode cX2_readBarePart 95 = .ok (.iload_n 3, 1) := by decide +kernel
theorem dX2_readBarePart_96 : decode cX2_readBarePart 96 = .ok (.ireturn, 1) := by decide +kernel
theorem dX2_readInner_0 : decode cX2_readInner 0 = .ok (.iload_n 1, 1) := by decide +kernel
theorem dX2_readInner_1 : decode cX2_readInner 1 = .ok (.bipush 8, 2) := by decide +kernel
theorem dX2_readInner_3 : decode cX2_readInner 3 = .ok (.if_icmp .lt 5, 3) := by decide +kernel
theorem dX2_readInner_6 : decode cX2_readInner 6 = .ok (.iconst (-1), 1) := by decide +kernel
theorem dX2_readInner_7 : decode cX2_readInner 7 = .ok (.ireturn, 1) := by decide +kernel
theorem dX2_readInner_8 : decode cX2_readInner 8 = .ok (.aload_n 0, 1) := by decide +kernel
theorem dX2_readInner_9 : decode cX2_readInner 9 = .ok (.invokevirtual 40, 3) := by decide +kernel
theorem dX2_readInner_12 : decode cX2_readInner 12 = .ok (.aload_n 0, 1) := by decide +kernel
theorem dX2_readInner_13 : decode cX2_readInner 13 = .ok (.iload_n 1, 1) := by decide +kernel
theorem dX2_readInner_14 : decode cX2_readInner 14 = .ok (.iconst 1, 1) := by decide +kernel
theorem dX2_readInner_15 : decode cX2_readInner 15 = .ok (.iadd, 1) := by decide +kernel
theorem dX2_readInner_16 : decode cX2_readInner 16 = .ok (.invokevirtual 90, 3) := by decide +kernel
theorem dX2_readInner_19 : decode cX2_readInner 19 = .ok (.istore_n 2, 1) := by decide +kernel
theorem dX2_readInner_20 : decode cX2_readInner 20 = .ok (.iload_n 2, 1) := by decide +kernel
theorem dX2_readInner_21 : decode cX2_readInner 21 = .ok (.iconst (-1), 1) := by decide +kernel
theorem dX2_readInner_22 : decode cX2_readInner 22 = .ok (.if_icmp .eq 12, 3) := by decide +kernel
theorem dX2_readInner_25 : decode cX2_readInner 25 = .ok (.aload_n 0, 1) := by decide +kernel
theorem dX2_readInner_26 : decode cX2_readInner 26 = .ok (.getfield 43, 3) := by decide +kernel
theorem dX2_readInner_29 : decode cX2_readInner 29 = .ok (.bipush 41, 2) := by decide +kernel
theorem dX2_readInner_31 : decode cX2_readInner 31 = .ok (.if_icmp .eq 5, 3) := by decide +kernel
theorem dX2_readInner_34 : decode cX2_readInner 34 = .ok (.iconst (-1), 1) := by decide +kernel
theorem dX2_readInner_35 : decode cX2_readInner 35 = .ok (.ireturn, 1) := by decide +kernel
theorem dX2_readInner_36 : decode cX2_readInner 36 = .ok (.aload_n 0, 1) := by decide +kernel
theorem dX2_readInner_37 : decode cX2_readInner 37 = .ok (.invokevirtual 40, 3) := by decide +kernel
theorem dX2_readInner_40 : decode cX2_readInner 40 = .ok (.iload_n 2, 1) := by decide +kernel
theorem dX2_readInner_41 : decode cX2_readInner 41 = .ok (.ireturn, 1) := by decide +kernel
theorem dX2_readEarlier_0 : decode cX2_readEarlier 0 = .ok (.aload_n 0, 1) := by decide +kernel
theorem dX2_readEarlier_1 : decode cX2_readEarlier 1 = .ok (.invokevirtual 100, 3) := by decide +kernel
theorem dX2_readEarlier_4 : decode cX2_readEarlier 4 = .ok (.ifCond .ne 5, 3) := by decide +kernel
theorem dX2_readEarlier_7 : decode cX2_readEarlier 7 = .ok (.iconst (-1), 1) := by decide +kernel
theorem dX2_readEarlier_8 : decode cX2_readEarlier 8 = .ok (.ireturn, 1) := by decide +kernel
theorem dX2_readEarlier_9 : decode cX2_readEarlier 9 = .ok (.aload_n 0, 1) := by decide +kernel
theorem dX2_readEarlier_10 : decode cX2_readEarlier 10 = .ok (.invokevirtual 40, 3) := by decide +kernel
theorem dX2_readEarlier_13 : decode cX2_readEarlier 13 = .ok (.aload_n 0, 1) := by decide +kernel
theorem dX2_readEarlier_14 : decode cX2_readEarlier 14 = .ok (.getfield 43, 3) := by decide +kernel
theorem dX2_readEarlier_17 : decode cX2_readEarlier 17 = .ok (.bipush (-2), 2) := by decide +kernel
theorem dX2_readEarlier_19 : decode cX2_readEarlier 19 = .ok (.if_icmp .ne 17, 3) := by decide +kernel
theorem dX2_readEarlier_22 : decode cX2_readEarlier 22 = .ok (.aload_n 0, 1) := by decide +kernel
theorem dX2_readEarlier_23 : decode cX2_readEarlier 23 = .ok (.getfield 73, 3) := by decide +kernel
theorem dX2_readEarlier_26 : decode cX2_readEarlier 26 = .ok (.aload_n 0, 1) := by decide +kernel
theorem dX2_readEarlier_27 : decode cX2_readEarlier 27 = .ok (.getfield 21, 3) := by decide +kernel
theorem dX2_readEarlier_30 : decode cX2_readEarlier 30 = .ok (.invokevirtual 84, 3) := by decide +kernel
theorem dX2_readEarlier_33 : decode cX2_readEarlier 33 = .ok (.if_icmp .lt 5, 3) := by decide +kernel
theorem dX2_readEarlier_36 : decode cX2_readEarlier 36 = .ok (.iconst (-1), 1) := by decide +kernel
theorem dX2_readEarlier_37 : decode cX2_readEarlier 37 = .ok (.ireturn, 1) := by decide +kernel
theorem dX2_readEarlier_38 : decode cX2_readEarlier 38 = .ok (.aload_n 0, 1) := by decide +kernel
theorem dX2_readEarlier_39 : decode cX2_readEarlier 39 = .ok (.getfield 21, 3) := by decide +kernel
theorem dX2_readEarlier_42 : decode cX2_readEarlier 42 = .ok (.iconst 2, 1) := by decide +kernel
theorem dX2_readEarlier_43 : decode cX2_readEarlier 43 = .ok (.aload_n 0, 1) := by decide +kernel
theorem dX2_readEarlier_44 : decode cX2_readEarlier 44 = .ok (.getfield 21, 3) := by decide +kernel
theorem dX2_readEarlier_47 : decode cX2_readEarlier 47 = .ok (.aload_n 0, 1) := by decide +kernel
theorem dX2_readEarlier_48 : decode cX2_readEarlier 48 = .ok (.getfield 73, 3) := by decide +kernel
theorem dX2_readEarlier_51 : decode cX2_readEarlier 51 = .ok (.invokevirtual 131, 3) := by decide +kernel
theorem dX2_readEarlier_54 : decode cX2_readEarlier 54 = .ok (.iconst 0, 1) := by decide +kernel
theorem dX2_readEarlier_55 : decode cX2_readEarlier 55 = .ok (.invokevirtual 113, 3) := by decide +kernel
theorem dX2_readEarlier_58 : decode cX2_readEarlier 58 = .ok (.istore_n 1, 1) := by decide +kernel
theorem dX2_readEarlier_59 : decode cX2_readEarlier 59 = .ok (.aload_n 0, 1) := by decide +kernel
theorem dX2_readEarlier_60 : decode cX2_readEarlier 60 = .ok (.invokevirtual 40, 3) := by decide +kernel
theorem dX2_readEarlier_63 : decode cX2_readEarlier 63 = .ok (.iload_n 1, 1) := by decide +kernel
theorem dX2_readEarlier_64 : decode cX2_readEarlier 64 = .ok (.ireturn, 1) := by decide +kernel
theorem dX2_countNode_0 : decode cX2_countNode 0 = .ok (.aload_n 0, 1) := by decide +kernel
theorem dX2_countNode_1 : decode cX2_countNode 1 = .ok (.getfield 87, 3) := by decide +kernel
theorem dX2_countNode_4 : decode cX2_countNode 4 = .ok (.bipush 20, 2) := by decide +kernel
theorem dX2_countNode_6 : decode cX2_countNode 6 = .ok (.if_icmp .lt 5, 3) := by decide +kernel
theorem dX2_countNode_9 : decode cX2_countNode 9 = .ok (.iconst 0, 1) := by decide +kernel
theorem dX2_countNode_10 : decode cX2_countNode 10 = .ok (.ireturn, 1) := by decide +kernel
theorem dX2_countNode_11 : decode cX2_countNode 11 = .ok (.aload_n 0, 1) := by decide +kernel
theorem dX2_countNode_12 : decode cX2_countNode 12 = .ok (.dup, 1) := by decide +kernel
theorem dX2_countNode_13 : decode cX2_countNode 13 = .ok (.getfield 87, 3) := by decide +kernel
theorem dX2_countNode_16 : decode cX2_countNode 16 = .ok (.iconst 1, 1) := by decide +kernel
theorem dX2_countNode_17 : decode cX2_countNode 17 = .ok (.iadd, 1) := by decide +kernel
theorem dX2_countNode_18 : decode cX2_countNode 18 = .ok (.putfield 87, 3) := by decide +kernel
theorem dX2_countNode_21 : decode cX2_countNode 21 = .ok (.iconst 1, 1) := by decide +kernel
theorem dX2_countNode_22 : decode cX2_countNode 22 = .ok (.ireturn, 1) := by decide +kernel
theorem dX2_passSign_0 : decode cX2_passSign 0 = .ok (.aload_n 0, 1) := by decide +kernel
theorem dX2_passSign_1 : decode cX2_passSign 1 = .ok (.getfield 43, 3) := by decide +kernel
theorem dX2_passSign_4 : decode cX2_passSign 4 = .ok (.bipush 45, 2) := by decide +kernel
theorem dX2_passSign_6 : decode cX2_passSign 6 = .ok (.if_icmp .eq 5, 3) := by decide +kernel
theorem dX2_passSign_9 : decode cX2_passSign 9 = .ok (.iconst 1, 1) := by decide +kernel
theorem dX2_passSign_10 : decode cX2_passSign 10 = .ok (.ireturn, 1) := by decide +kernel
theorem dX2_passSign_11 : decode cX2_passSign 11 = .ok (.aload_n 0, 1) := by decide +kernel
theorem dX2_passSign_12 : decode cX2_passSign 12 = .ok (.invokevirtual 40, 3) := by decide +kernel
theorem dX2_passSign_15 : decode cX2_passSign 15 = .ok (.iconst (-1), 1) := by decide +kernel
theorem dX2_passSign_16 : decode cX2_passSign 16 = .ok (.ireturn, 1) := by decide +kernel
theorem dX2_sourceAtHand_0 : decode cX2_sourceAtHand 0 = .ok (.aload_n 0, 1) := by decide +kernel
theorem dX2_sourceAtHand_1 : decode cX2_sourceAtHand 1 = .ok (.getfield 43, 3) := by decide +kernel
theorem dX2_sourceAtHand_4 : decode cX2_sourceAtHand 4 = .ok (.bipush 97, 2) := by decide +kernel
theorem dX2_sourceAtHand_6 : decode cX2_sourceAtHand 6 = .ok (.isub, 1) := by decide +kernel
theorem dX2_sourceAtHand_7 : decode cX2_sourceAtHand 7 = .ok (.ireturn, 1) := by decide +kernel
theorem dX2_pass_0 : decode cX2_pass 0 = .ok (.aload_n 0, 1) := by decide +kernel
theorem dX2_pass_1 : decode cX2_pass 1 = .ok (.getfield 37, 3) := by decide +kernel
theorem dX2_pass_4 : decode cX2_pass 4 = .ok (.istore_n 1, 1) := by decide +kernel
theorem dX2_pass_5 : decode cX2_pass 5 = .ok (.iload_n 1, 1) := by decide +kernel
theorem dX2_pass_6 : decode cX2_pass 6 = .ok (.ifCond .lt 34, 3) := by decide +kernel
theorem dX2_pass_9 : decode cX2_pass 9 = .ok (.iload_n 1, 1) := by decide +kernel
theorem dX2_pass_10 : decode cX2_pass 10 = .ok (.aload_n 0, 1) := by decide +kernel
theorem dX2_pass_11 : decode cX2_pass 11 = .ok (.getfield 29, 3) := by decide +kernel
theorem dX2_pass_14 : decode cX2_pass 14 = .ok (.if_icmp .ge 26, 3) := by decide +kernel
theorem dX2_pass_17 : decode cX2_pass 17 = .ok (.iload_n 1, 1) := by decide +kernel
theorem dX2_pass_18 : decode cX2_pass 18 = .ok (.bipush 100, 2) := by decide +kernel
theorem dX2_pass_20 : decode cX2_pass 20 = .ok (.if_icmp .ge 20, 3) := by decide +kernel
theorem dX2_pass_23 : decode cX2_pass 23 = .ok (.aload_n 0, 1) := by decide +kernel
theorem dX2_pass_24 : decode cX2_pass 24 = .ok (.getfield 25, 3) := by decide +kernel
theorem dX2_pass_27 : decode cX2_pass 27 = .ok (.iload_n 1, 1) := by decide +kernel
theorem dX2_pass_28 : decode cX2_pass 28 = .ok (.iaload, 1) := by decide +kernel
theorem dX2_pass_29 : decode cX2_pass 29 = .ok (.bipush 32, 2) := by decide +kernel
theorem dX2_pass_31 : decode cX2_pass 31 = .ok (.if_icmp .ne 9, 3) := by decide +kernel
theorem dX2_pass_34 : decode cX2_pass 34 = .ok (.iinc 1 1, 3) := by decide +kernel
theorem dX2_pass_37 : decode cX2_pass 37 = .ok (.goto (-32), 3) := by decide +kernel
theorem dX2_pass_40 : decode cX2_pass 40 = .ok (.aload_n 0, 1) := by decide +kernel
theorem dX2_pass_41 : decode cX2_pass 41 = .ok (.iload_n 1, 1) := by decide +kernel
theorem dX2_pass_42 : decode cX2_pass 42 = .ok (.putfield 50, 3) := by decide +kernel
theorem dX2_pass_45 : decode cX2_pass 45 = .ok (.aload_n 0, 1) := by decide +kernel
theorem dX2_pass_46 : decode cX2_pass 46 = .ok (.iload_n 1, 1) := by decide +kernel
theorem dX2_pass_47 : decode cX2_pass 47 = .ok (.iconst 1, 1) := by decide +kernel
theorem dX2_pass_48 : decode cX2_pass 48 = .ok (.iadd, 1) := by decide +kernel
theorem dX2_pass_49 : decode cX2_pass 49 = .ok (.putfield 37, 3) := by decide +kernel
theorem dX2_pass_52 : decode cX2_pass 52 = .ok (.iload_n 1, 1) := by decide +kernel
theorem dX2_pass_53 : decode cX2_pass 53 = .ok (.ifCond .lt 17, 3) := by decide +kernel
theorem dX2_pass_56 : decode cX2_pass 56 = .ok (.iload_n 1, 1) := by decide +kernel
theorem dX2_pass_57 : decode cX2_pass 57 = .ok (.aload_n 0, 1) := by decide +kernel
theorem dX2_pass_58 : decode cX2_pass 58 = .ok (.getfield 29, 3) := by decide +kernel
theorem dX2_pass_61 : decode cX2_pass 61 = .ok (.if_icmp .ge 9, 3) := by decide +kernel
theorem dX2_pass_64 : decode cX2_pass 64 = .ok (.iload_n 1, 1) := by decide +kernel
theorem dX2_pass_65 : decode cX2_pass 65 = .ok (.bipush 100, 2) := by decide +kernel
theorem dX2_pass_67 : decode cX2_pass 67 = .ok (.if_icmp .lt 16, 3) := by decide +kernel
theorem dX2_pass_70 : decode cX2_pass 70 = .ok (.aload_n 0, 1) := by decide +kernel
theorem dX2_pass_71 : decode cX2_pass 71 = .ok (.iconst (-1), 1) := by decide +kernel
theorem dX2_pass_72 : decode cX2_pass 72 = .ok (.putfield 43, 3) := by decide +kernel
theorem dX2_pass_75 : decode cX2_pass 75 = .ok (.aload_n 0, 1) := by decide +kernel
theorem dX2_pass_76 : decode cX2_pass 76 = .ok (.iload_n 1, 1) := by decide +kernel
theorem dX2_pass_77 : decode cX2_pass 77 = .ok (.putfield 37, 3) := by decide +kernel
theorem dX2_pass_80 : decode cX2_pass 80 = .ok (.goto 41, 3) := by decide +kernel
theorem dX2_pass_83 : decode cX2_pass 83 = .ok (.aload_n 0, 1) := by decide +kernel
theorem dX2_pass_84 : decode cX2_pass 84 = .ok (.getfield 25, 3) := by decide +kernel
theorem dX2_pass_87 : decode cX2_pass 87 = .ok (.iload_n 1, 1) := by decide +kernel
theorem dX2_pass_88 : decode cX2_pass 88 = .ok (.iaload, 1) := by decide +kernel
theorem dX2_pass_89 : decode cX2_pass 89 = .ok (.invokestatic 134, 3) := by decide +kernel
theorem dX2_pass_92 : decode cX2_pass 92 = .ok (.ifCond .eq 19, 3) := by decide +kernel
theorem dX2_pass_95 : decode cX2_pass 95 = .ok (.aload_n 0, 1) := by decide +kernel
theorem dX2_pass_96 : decode cX2_pass 96 = .ok (.aload_n 0, 1) := by decide +kernel
theorem dX2_pass_97 : decode cX2_pass 97 = .ok (.getfield 25, 3) := by decide +kernel
theorem dX2_pass_100 : decode cX2_pass 100 = .ok (.iload_n 1, 1) := by decide +kernel
theorem dX2_pass_101 : decode cX2_pass 101 = .ok (.iaload, 1) := by decide +kernel
theorem dX2_pass_102 : decode cX2_pass 102 = .ok (.bipush 48, 2) := by decide +kernel
theorem dX2_pass_104 : decode cX2_pass 104 = .ok (.isub, 1) := by decide +kernel
theorem dX2_pass_105 : decode cX2_pass 105 = .ok (.invokevirtual 137, 3) := by decide +kernel
theorem dX2_pass_108 : decode cX2_pass 108 = .ok (.goto 13, 3) := by decide +kernel
theorem dX2_pass_111 : decode cX2_pass 111 = .ok (.aload_n 0, 1) := by decide +kernel
theorem dX2_pass_112 : decode cX2_pass 112 = .ok (.aload_n 0, 1) := by decide +kernel
theorem dX2_pass_113 : decode cX2_pass 113 = .ok (.getfield 25, 3) := by decide +kernel
theorem dX2_pass_116 : decode cX2_pass 116 = .ok (.iload_n 1, 1) := by decide +kernel
theorem dX2_pass_117 : decode cX2_pass 117 = .ok (.iaload, 1) := by decide +kernel
theorem dX2_pass_118 : decode cX2_pass 118 = .ok (.putfield 43, 3) := by decide +kernel
theorem dX2_pass_121 : decode cX2_pass 121 = .ok (.return_, 1) := by decide +kernel
theorem dX2_passDigits_0 : decode cX2_passDigits 0 = .ok (.iconst 1, 1) := by decide +kernel
theorem dX2_passDigits_1 : decode cX2_passDigits 1 = .ok (.istore_n 2, 1) := by decide +kernel
theorem dX2_passDigits_2 : decode cX2_passDigits 2 = .ok (.aload_n 0, 1) := by decide +kernel
theorem dX2_passDigits_3 : decode cX2_passDigits 3 = .ok (.iload_n 1, 1) := by decide +kernel
theorem dX2_passDigits_4 : decode cX2_passDigits 4 = .ok (.putfield 73, 3) := by decide +kernel
theorem dX2_passDigits_7 : decode cX2_passDigits 7 = .ok (.aload_n 0, 1) := by decide +kernel
theorem dX2_passDigits_8 : decode cX2_passDigits 8 = .ok (.getfield 37, 3) := by decide +kernel
theorem dX2_passDigits_11 : decode cX2_passDigits 11 = .ok (.ifCond .lt 75, 3) := by decide +kernel
theorem dX2_passDigits_14 : decode cX2_passDigits 14 = .ok (.aload_n 0, 1) := by decide +kernel
theorem dX2_passDigits_15 : decode cX2_passDigits 15 = .ok (.getfield 37, 3) := by decide +kernel
theorem dX2_passDigits_18 : decode cX2_passDigits 18 = .ok (.aload_n 0, 1) := by decide +kernel
theorem dX2_passDigits_19 : decode cX2_passDigits 19 = .ok (.getfield 29, 3) := by decide +kernel
theorem dX2_passDigits_22 : decode cX2_passDigits 22 = .ok (.if_icmp .ge 64, 3) := by decide +kernel
theorem dX2_passDigits_25 : decode cX2_passDigits 25 = .ok (.aload_n 0, 1) := by decide +kernel
theorem dX2_passDigits_26 : decode cX2_passDigits 26 = .ok (.getfield 37, 3) := by decide +kernel
theorem dX2_passDigits_29 : decode cX2_passDigits 29 = .ok (.bipush 100, 2) := by decide +kernel
theorem dX2_passDigits_31 : decode cX2_passDigits 31 = .ok (.if_icmp .ge 55, 3) := by decide +kernel
theorem dX2_passDigits_34 : decode cX2_passDigits 34 = .ok (.aload_n 0, 1) := by decide +kernel
theorem dX2_passDigits_35 : decode cX2_passDigits 35 = .ok (.getfield 25, 3) := by decide +kernel
theorem dX2_passDigits_38 : decode cX2_passDigits 38 = .ok (.aload_n 0, 1) := by decide +kernel
theorem dX2_passDigits_39 : decode cX2_passDigits 39 = .ok (.getfield 37, 3) := by decide +kernel
theorem dX2_passDigits_42 : decode cX2_passDigits 42 = .ok (.iaload, 1) := by decide +kernel
theorem dX2_passDigits_43 : decode cX2_passDigits 43 = .ok (.invokestatic 134, 3) := by decide +kernel
theorem dX2_passDigits_46 : decode cX2_passDigits 46 = .ok (.ifCond .eq 40, 3) := by decide +kernel
theorem dX2_passDigits_49 : decode cX2_passDigits 49 = .ok (.aload_n 0, 1) := by decide +kernel
theorem dX2_passDigits_50 : decode cX2_passDigits 50 = .ok (.iload_n 1, 1) := by decide +kernel
theorem dX2_passDigits_51 : decode cX2_passDigits 51 = .ok (.bipush 10, 2) := by decide +kernel
theorem dX2_passDigits_53 : decode cX2_passDigits 53 = .ok (.imul, 1) := by decide +kernel
theorem dX2_passDigits_54 : decode cX2_passDigits 54 = .ok (.aload_n 0, 1) := by decide +kernel
theorem dX2_passDigits_55 : decode cX2_passDigits 55 = .ok (.getfield 25, 3) := by decide +kernel
theorem dX2_passDigits_58 : decode cX2_passDigits 58 = .ok (.aload_n 0, 1) := by decide +kernel
theorem dX2_passDigits_59 : decode cX2_passDigits 59 = .ok (.getfield 37, 3) := by decide +kernel
theorem dX2_passDigits_62 : decode cX2_passDigits 62 = .ok (.iaload, 1) := by decide +kernel
theorem dX2_passDigits_63 : decode cX2_passDigits 63 = .ok (.iadd, 1) := by decide +kernel
theorem dX2_passDigits_64 : decode cX2_passDigits 64 = .ok (.bipush 48, 2) := by decide +kernel
theorem dX2_passDigits_66 : decode cX2_passDigits 66 = .ok (.isub, 1) := by decide +kernel
theorem dX2_passDigits_67 : decode cX2_passDigits 67 = .ok (.putfield 73, 3) := by decide +kernel
theorem dX2_passDigits_70 : decode cX2_passDigits 70 = .ok (.iinc 2 1, 3) := by decide +kernel
theorem dX2_passDigits_73 : decode cX2_passDigits 73 = .ok (.aload_n 0, 1) := by decide +kernel
theorem dX2_passDigits_74 : decode cX2_passDigits 74 = .ok (.dup, 1) := by decide +kernel
theorem dX2_passDigits_75 : decode cX2_passDigits 75 = .ok (.getfield 37, 3) := by decide +kernel
theorem dX2_passDigits_78 : decode cX2_passDigits 78 = .ok (.iconst 1, 1) := by decide +kernel
theorem dX2_passDigits_79 : decode cX2_passDigits 79 = .ok (.iadd, 1) := by decide +kernel
theorem dX2_passDigits_80 : decode cX2_passDigits 80 = .ok (.putfield 37, 3) := by decide +kernel
theorem dX2_passDigits_83 : decode cX2_passDigits 83 = .ok (.goto (-76), 3) := by decide +kernel
theorem dX2_passDigits_86 : decode cX2_passDigits 86 = .ok (.aload_n 0, 1) := by decide +kernel
theorem dX2_passDigits_87 : decode cX2_passDigits 87 = .ok (.iload_n 2, 1) := by decide +kernel
theorem dX2_passDigits_88 : decode cX2_passDigits 88 = .ok (.iconst 1, 1) := by decide +kernel
theorem dX2_passDigits_89 : decode cX2_passDigits 89 = .ok (.if_icmp .eq 12, 3) := by decide +kernel
theorem dX2_passDigits_92 : decode cX2_passDigits 92 = .ok (.iload_n 2, 1) := by decide +kernel
theorem dX2_passDigits_93 : decode cX2_passDigits 93 = .ok (.iconst 2, 1) := by decide +kernel
theorem dX2_passDigits_94 : decode cX2_passDigits 94 = .ok (.if_icmp .ne 12, 3) := by decide +kernel
theorem dX2_passDigits_97 : decode cX2_passDigits 97 = .ok (.iload_n 1, 1) := by decide +kernel
theorem dX2_passDigits_98 : decode cX2_passDigits 98 = .ok (.ifCond .eq 8, 3) := by decide +kernel
theorem dX2_passDigits_101 : decode cX2_passDigits 101 = .ok (.bipush (-2), 2) := by decide +kernel
theorem dX2_passDigits_103 : decode cX2_passDigits 103 = .ok (.goto 5, 3) := by decide +kernel
theorem dX2_passDigits_106 : decode cX2_passDigits 106 = .ok (.bipush (-3), 2) := by decide +kernel
theorem dX2_passDigits_108 : decode cX2_passDigits 108 = .ok (.putfield 43, 3) := by decide +kernel
theorem dX2_passDigits_111 : decode cX2_passDigits 111 = .ok (.return_, 1) := by decide +kernel
theorem dX2_isDigit_0 : decode cX2_isDigit 0 = .ok (.iload_n 0, 1) := by decide +kernel
theorem dX2_isDigit_1 : decode cX2_isDigit 1 = .ok (.bipush 48, 2) := by decide +kernel
theorem dX2_isDigit_3 : decode cX2_isDigit 3 = .ok (.if_icmp .lt 13, 3) := by decide +kernel
theorem dX2_isDigit_6 : decode cX2_isDigit 6 = .ok (.iload_n 0, 1) := by decide +kernel
theorem dX2_isDigit_7 : decode cX2_isDigit 7 = .ok (.bipush 57, 2) := by decide +kernel
theorem dX2_isDigit_9 : decode cX2_isDigit 9 = .ok (.if_icmp .gt 7, 3) := by decide +kernel
theorem dX2_isDigit_12 : decode cX2_isDigit 12 = .ok (.iconst 1, 1) := by decide +kernel
theorem dX2_isDigit_13 : decode cX2_isDigit 13 = .ok (.goto 4, 3) := by decide +kernel
theorem dX2_isDigit_16 : decode cX2_isDigit 16 = .ok (.iconst 0, 1) := by decide +kernel
theorem dX2_isDigit_17 : decode cX2_isDigit 17 = .ok (.ireturn, 1) := by decide +kernel
theorem dX4_init_0 : decode cX4_init 0 = .ok (.aload_n 0, 1) := by decide +kernel
theorem dX4_init_1 : decode cX4_init 1 = .ok (.invokespecial 3, 3) := by decide +kernel
theorem dX4_init_4 : decode cX4_init 4 = .ok (.aload_n 0, 1) := by decide +kernel
theorem dX4_init_5 : decode cX4_init 5 = .ok (.bipush 80, 2) := by decide +kernel
theorem dX4_init_7 : decode cX4_init 7 = .ok (.newarray .int, 2) := by decide +kernel
theorem dX4_init_9 : decode cX4_init 9 = .ok (.putfield 9, 3) := by decide +kernel
theorem dX4_init_12 : decode cX4_init 12 = .ok (.aload_n 0, 1) := by decide +kernel
theorem dX4_init_13 : decode cX4_init 13 = .ok (.bipush 80, 2) := by decide +kernel
theorem dX4_init_15 : decode cX4_init 15 = .ok (.newarray .int, 2) := by decide +kernel
theorem dX4_init_17 : decode cX4_init 17 = .ok (.putfield 15, 3) := by decide +kernel
theorem dX4_init_20 : decode cX4_init 20 = .ok (.aload_n 0, 1) := by decide +kernel
theorem dX4_init_21 : decode cX4_init 21 = .ok (.bipush 80, 2) := by decide +kernel
theorem dX4_init_23 : decode cX4_init 23 = .ok (.newarray .int, 2) := by decide +kernel
theorem dX4_init_25 : decode cX4_init 25 = .ok (.putfield 18, 3) := by decide +kernel
theorem dX4_init_28 : decode cX4_init 28 = .ok (.aload_n 0, 1) := by decide +kernel
theorem dX4_init_29 : decode cX4_init 29 = .ok (.bipush 80, 2) := by decide +kernel
theorem dX4_init_31 : decode cX4_init 31 = .ok (.newarray .int, 2) := by decide +kernel
theorem dX4_init_33 : decode cX4_init 33 = .ok (.putfield 21, 3) := by decide +kernel
theorem dX4_init_36 : decode cX4_init 36 = .ok (.aload_n 0, 1) := by decide +kernel
theorem dX4_init_37 : decode cX4_init 37 = .ok (.bipush 80, 2) := by decide +kernel
theorem dX4_init_39 : decode cX4_init 39 = .ok (.newarray .int, 2) := by decide +kernel
theorem dX4_init_41 : decode cX4_init 41 = .ok (.putfield 24, 3) := by decide +kernel
theorem dX4_init_44 : decode cX4_init 44 = .ok (.aload_n 0, 1) := by decide +kernel
theorem dX4_init_45 : decode cX4_init 45 = .ok (.iconst 4, 1) := by decide +kernel
theorem dX4_init_46 : decode cX4_init 46 = .ok (.newarray .int, 2) := by decide +kernel
theorem dX4_init_48 : decode cX4_init 48 = .ok (.putfield 27, 3) := by decide +kernel
theorem dX4_init_51 : decode cX4_init 51 = .ok (.return_, 1) := by decide +kernel
theorem dX4_formulas_0 : decode cX4_formulas 0 = .ok (.aload_n 0, 1) := by decide +kernel
theorem dX4_formulas_1 : decode cX4_formulas 1 = .ok (.getfield 30, 3) := by decide +kernel
theorem dX4_formulas_4 : decode cX4_formulas 4 = .ok (.ireturn, 1) := by decide +kernel
theorem dX4_start_0 : decode cX4_start 0 = .ok (.aload_n 0, 1) := by decide +kernel
theorem dX4_start_1 : decode cX4_start 1 = .ok (.iload_n 1, 1) := by decide +kernel
theorem dX4_start_2 : decode cX4_start 2 = .ok (.iconst 1, 1) := by decide +kernel
theorem dX4_start_3 : decode cX4_start 3 = .ok (.isub, 1) := by decide +kernel
theorem dX4_start_4 : decode cX4_start 4 = .ok (.invokevirtual 34, 3) := by decide +kernel
theorem dX4_start_7 : decode cX4_start 7 = .ok (.ireturn, 1) := by decide +kernel
theorem dX4_stop_0 : decode cX4_stop 0 = .ok (.iload_n 1, 1) := by decide +kernel
theorem dX4_stop_1 : decode cX4_stop 1 = .ok (.ifCond .lt 17, 3) := by decide +kernel
theorem dX4_stop_4 : decode cX4_stop 4 = .ok (.iload_n 1, 1) := by decide +kernel
theorem dX4_stop_5 : decode cX4_stop 5 = .ok (.iconst 4, 1) := by decide +kernel
theorem dX4_stop_6 : decode cX4_stop 6 = .ok (.if_icmp .ge 12, 3) := by decide +kernel
theorem dX4_stop_9 : decode cX4_stop 9 = .ok (.aload_n 0, 1) := by decide +kernel
theorem dX4_stop_10 : decode cX4_stop 10 = .ok (.getfield 27, 3) := by decide +kernel
theorem dX4_stop_13 : decode cX4_stop 13 = .ok (.iload_n 1, 1) := by decide +kernel
theorem dX4_stop_14 : decode cX4_stop 14 = .ok (.iaload, 1) := by decide +kernel
theorem dX4_stop_15 : decode cX4_stop 15 = .ok (.goto 4, 3) := by decide +kernel
theorem dX4_stop_18 : decode cX4_stop 18 = .ok (.iconst 0, 1) := by decide +kernel
theorem dX4_stop_19 : decode cX4_stop 19 = .ok (.ireturn, 1) := by decide +kernel
theorem dX4_root_0 : decode cX4_root 0 = .ok (.aload_n 0, 1) := by decide +kernel
theorem dX4_root_1 : decode cX4_root 1 = .ok (.iload_n 1, 1) := by decide +kernel
theorem dX4_root_2 : decode cX4_root 2 = .ok (.invokevirtual 34, 3) := by decide +kernel
theorem dX4_root_5 : decode cX4_root 5 = .ok (.iconst 1, 1) := by decide +kernel
theorem dX4_root_6 : decode cX4_root 6 = .ok (.isub, 1) := by decide +kernel
theorem dX4_root_7 : decode cX4_root 7 = .ok (.ireturn, 1) := by decide +kernel
theorem dX4_steps_0 : decode cX4_steps 0 = .ok (.iload_n 1, 1) := by decide +kernel
theorem dX4_steps_1 : decode cX4_steps 1 = .ok (.ifCond .lt 18, 3) := by decide +kernel
theorem dX4_steps_4 : decode cX4_steps 4 = .ok (.iload_n 1, 1) := by decide +kernel
theorem dX4_steps_5 : decode cX4_steps 5 = .ok (.bipush 80, 2) := by decide +kernel
theorem dX4_steps_7 : decode cX4_steps 7 = .ok (.if_icmp .ge 12, 3) := by decide +kernel
theorem dX4_steps_10 : decode cX4_steps 10 = .ok (.aload_n 0, 1) := by decide +kernel
theorem dX4_steps_11 : decode cX4_steps 11 = .ok (.getfield 21, 3) := by decide +kernel
theorem dX4_steps_14 : decode cX4_steps 14 = .ok (.iload_n 1, 1) := by decide +kernel
theorem dX4_steps_15 : decode cX4_steps 15 = .ok (.iaload, 1) := by decide +kernel
theorem dX4_steps_16 : decode cX4_steps 16 = .ok (.goto 4, 3) := by decide +kernel
theorem dX4_steps_19 : decode cX4_steps 19 = .ok (.iconst 0, 1) := by decide +kernel
theorem dX4_steps_20 : decode cX4_steps 20 = .ok (.ireturn, 1) := by decide +kernel
theorem dX4_names_0 : decode cX4_names 0 = .ok (.iload_n 1, 1) := by decide +kernel
theorem dX4_names_1 : decode cX4_names 1 = .ok (.ifCond .lt 18, 3) := by decide +kernel
theorem dX4_names_4 : decode cX4_names 4 = .ok (.iload_n 1, 1) := by decide +kernel
theorem dX4_names_5 : decode cX4_names 5 = .ok (.bipush 80, 2) := by decide +kernel
theorem dX4_names_7 : decode cX4_names 7 = .ok (.if_icmp .ge 12, 3) := by decide +kernel
theorem dX4_names_10 : decode cX4_names 10 = .ok (.aload_n 0, 1) := by decide +kernel
theorem dX4_names_11 : decode cX4_names 11 = .ok (.getfield 24, 3) := by decide +kernel
theorem dX4_names_14 : decode cX4_names 14 = .ok (.iload_n 1, 1) := by decide +kernel
theorem dX4_names_15 : decode cX4_names 15 = .ok (.iaload, 1) := by decide +kernel
theorem dX4_names_16 : decode cX4_names 16 = .ok (.goto 4, 3) := by decide +kernel
theorem dX4_names_19 : decode cX4_names 19 = .ok (.iconst 0, 1) := by decide +kernel
theorem dX4_names_20 : decode cX4_names 20 = .ok (.ireturn, 1) := by decide +kernel
theorem dX4_reset_0 : decode cX4_reset 0 = .ok (.aload_n 0, 1) := by decide +kernel
theorem dX4_reset_1 : decode cX4_reset 1 = .ok (.iconst 0, 1) := by decide +kernel
theorem dX4_reset_2 : decode cX4_reset 2 = .ok (.putfield 30, 3) := by decide +kernel
theorem dX4_reset_5 : decode cX4_reset 5 = .ok (.aload_n 0, 1) := by decide +kernel
theorem dX4_reset_6 : decode cX4_reset 6 = .ok (.iconst 0, 1) := by decide +kernel
theorem dX4_reset_7 : decode cX4_reset 7 = .ok (.putfield 37, 3) := by decide +kernel
theorem dX4_reset_10 : decode cX4_reset 10 = .ok (.return_, 1) := by decide +kernel
theorem dX4_endFormula_0 : decode cX4_endFormula 0 = .ok (.aload_n 0, 1) := by decide +kernel
theorem dX4_endFormula_1 : decode cX4_endFormula 1 = .ok (.getfield 30, 3) := by decide +kernel
theorem dX4_endFormula_4 : decode cX4_endFormula 4 = .ok (.ifCond .lt 34, 3) := by decide +kernel
theorem dX4_endFormula_7 : decode cX4_endFormula 7 = .ok (.aload_n 0, 1) := by decide +kernel
theorem dX4_endFormula_8 : decode cX4_endFormula 8 = .ok (.getfield 30, 3) := by decide +kernel
theorem dX4_endFormula_11 : decode cX4_endFormula 11 = .ok (.iconst 4, 1) := by decide +kernel
theorem dX4_endFormula_12 : decode cX4_endFormula 12 = .ok (.if_icmp .ge 26, 3) := by decide +kernel
theorem dX4_endFormula_15 : decode cX4_endFormula 15 = .ok (.aload_n 0, 1) := by decide +kernel
theorem dX4_endFormula_16 : decode cX4_endFormula 16 = .ok (.getfield 27, 3) := by decide +kernel
theorem dX4_endFormula_19 : decode cX4_endFormula 19 = .ok (.aload_n 0, 1) := by decide +kernel
theorem dX4_endFormula_20 : decode cX4_endFormula 20 = .ok (.getfield 30, 3) := by decide +kernel
theorem dX4_endFormula_23 : decode cX4_endFormula 23 = .ok (.aload_n 0, 1) := by decide +kernel
theorem dX4_endFormula_24 : decode cX4_endFormula 24 = .ok (.getfield 37, 3) := by decide +kernel
theorem dX4_endFormula_27 : decode cX4_endFormula 27 = .ok (.iastore, 1) := by decide +kernel
theorem dX4_endFormula_28 : decode cX4_endFormula 28 = .ok (.aload_n 0, 1) := by decide +kernel
theorem dX4_endFormula_29 : decode cX4_endFormula 29 = .ok (.dup, 1) := by decide +kernel
theorem dX4_endFormula_30 : decode cX4_endFormula 30 = .ok (.getfield 30, 3) := by decide +kernel
theorem dX4_endFormula_33 : decode cX4_endFormula 33 = .ok (.iconst 1, 1) := by decide +kernel
theorem dX4_endFormula_34 : decode cX4_endFormula 34 = .ok (.iadd, 1) := by decide +kernel
theorem dX4_endFormula_35 : decode cX4_endFormula 35 = .ok (.putfield 30, 3) := by decide +kernel
theorem dX4_endFormula_38 : decode cX4_endFormula 38 = .ok (.return_, 1) := by decide +kernel
theorem dX4_addNumber_0 : decode cX4_addNumber 0 = .ok (.aload_n 0, 1) := by decide +kernel
theorem dX4_addNumber_1 : decode cX4_addNumber 1 = .ok (.iconst 0, 1) := by decide +kernel
theorem dX4_addNumber_2 : decode cX4_addNumber 2 = .ok (.iload_n 1, 1) := by decide +kernel
theorem dX4_addNumber_3 : decode cX4_addNumber 3 = .ok (.iconst 0, 1) := by decide +kernel
theorem dX4_addNumber_4 : decode cX4_addNumber 4 = .ok (.iconst 1, 1) := by decide +kernel
theorem dX4_addNumber_5 : decode cX4_addNumber 5 = .ok (.iconst 0, 1) := by decide +kernel
theorem dX4_addNumber_6 : decode cX4_addNumber 6 = .ok (.invokevirtual 40, 3) := by decide +kernel
theorem dX4_addNumber_9 : decode cX4_addNumber 9 = .ok (.ireturn, 1) := by decide +kernel
theorem dX4_addSource_0 : decode cX4_addSource 0 = .ok (.aload_n 0, 1) := by decide +kernel
theorem dX4_addSource_1 : decode cX4_addSource 1 = .ok (.iconst 1, 1) := by decide +kernel
theorem dX4_addSource_2 : decode cX4_addSource 2 = .ok (.iload_n 1, 1) := by decide +kernel
theorem dX4_addSource_3 : decode cX4_addSource 3 = .ok (.iconst 0, 1) := by decide +kernel
theorem dX4_addSource_4 : decode cX4_addSource 4 = .ok (.iconst 1, 1) := by decide +kernel
theorem dX4_addSource_5 : decode cX4_addSource 5 = .ok (.iconst 1, 1) := by decide +kernel
theorem dX4_addSource_6 : decode cX4_addSource 6 = .ok (.iload_n 1, 1) := by decide +kernel
theorem dX4_addSource_7 : decode cX4_addSource 7 = .ok (.ishl, 1) := by decide +kernel
theorem dX4_addSource_8 : decode cX4_addSource 8 = .ok (.invokevirtual 40, 3) := by decide +kernel
theorem dX4_addSource_11 : decode cX4_addSource 11 = .ok (.ireturn, 1) := by decide +kernel
theorem dX4_addOver_0 : decode cX4_addOver 0 = .ok (.aload_n 0, 1) := by decide +kernel
theorem dX4_addOver_1 : decode cX4_addOver 1 = .ok (.iload_n 1, 1) := by decide +kernel
theorem dX4_addOver_2 : decode cX4_addOver 2 = .ok (.iload_n 2, 1) := by decide +kernel
theorem dX4_addOver_3 : decode cX4_addOver 3 = .ok (.iload_n 3, 1) := by decide +kernel
theorem dX4_addOver_4 : decode cX4_addOver 4 = .ok (.iconst 1, 1) := by decide +kernel
theorem dX4_addOver_5 : decode cX4_addOver 5 = .ok (.aload_n 0, 1) := by decide +kernel
theorem dX4_addOver_6 : decode cX4_addOver 6 = .ok (.iload_n 2, 1) := by decide +kernel
theorem dX4_addOver_7 : decode cX4_addOver 7 = .ok (.invokevirtual 44, 3) := by decide +kernel
theorem dX4_addOver_10 : decode cX4_addOver 10 = .ok (.iadd, 1) := by decide +kernel
theorem dX4_addOver_11 : decode cX4_addOver 11 = .ok (.aload_n 0, 1) := by decide +kernel
theorem dX4_addOver_12 : decode cX4_addOver 12 = .ok (.iload_n 2, 1) := by decide +kernel
theorem dX4_addOver_13 : decode cX4_addOver 13 = .ok (.invokevirtual 46, 3) := by decide +kernel
theorem dX4_addOver_16 : decode cX4_addOver 16 = .ok (.invokevirtual 40, 3) := by decide +kernel
theorem dX4_addOver_19 : decode cX4_addOver 19 = .ok (.ireturn, 1) := by decide +kernel
theorem dX4_addBoth_0 : decode cX4_addBoth 0 = .ok (.aload_n 0, 1) := by decide +kernel
theorem dX4_addBoth_1 : decode cX4_addBoth 1 = .ok (.iload_n 1, 1) := by decide +kernel
theorem dX4_addBoth_2 : decode cX4_addBoth 2 = .ok (.iload_n 2, 1) := by decide +kernel
theorem dX4_addBoth_3 : decode cX4_addBoth 3 = .ok (.iload_n 3, 1) := by decide +kernel
theorem dX4_addBoth_4 : decode cX4_addBoth 4 = .ok (.iconst 1, 1) := by decide +kernel
theorem dX4_addBoth_5 : decode cX4_addBoth 5 = .ok (.aload_n 0, 1) := by decide +kernel
theorem dX4_addBoth_6 : decode cX4_addBoth 6 = .ok (.iload_n 2, 1) := by decide +kernel
theorem dX4_addBoth_7 : decode cX4_addBoth 7 = .ok (.invokevirtual 44, 3) := by decide +kernel
theorem dX4_addBoth_10 : decode cX4_addBoth 10 = .ok (.iadd, 1) := by decide +kernel
theorem dX4_addBoth_11 : decode cX4_addBoth 11 = .ok (.aload_n 0, 1) := by decide +kernel
theorem dX4_addBoth_12 : decode cX4_addBoth 12 = .ok (.iload_n 3, 1) := by decide +kernel
theorem dX4_addBoth_13 : decode cX4_addBoth 13 = .ok (.invokevirtual 44, 3) := by decide +kernel
theorem dX4_addBoth_16 : decode cX4_addBoth 16 = .ok (.iadd, 1) := by decide +kernel
theorem dX4_addBoth_17 : decode cX4_addBoth 17 = .ok (.aload_n 0, 1) := by decide +kernel
theorem dX4_addBoth_18 : decode cX4_addBoth 18 = .ok (.iload_n 2, 1) := by decide +kernel
theorem dX4_addBoth_19 : decode cX4_addBoth 19 = .ok (.invokevirtual 46, 3) := by decide +kernel
theorem dX4_addBoth_22 : decode cX4_addBoth 22 = .ok (.aload_n 0, 1) := by decide +kernel
theorem dX4_addBoth_23 : decode cX4_addBoth 23 = .ok (.iload_n 3, 1) := by decide +kernel
theorem dX4_addBoth_24 : decode cX4_addBoth 24 = .ok (.invokevirtual 46, 3) := by decide +kernel
theorem dX4_addBoth_27 : decode cX4_addBoth 27 = .ok (.ior, 1) := by decide +kernel
theorem dX4_addBoth_28 : decode cX4_addBoth 28 = .ok (.invokevirtual 40, 3) := by decide +kernel
theorem dX4_addBoth_31 : decode cX4_addBoth 31 = .ok (.ireturn, 1) := by decide +kernel
theorem dX4_take_0 : decode cX4_take 0 = .ok (.iconst 0, 1) := by decide +kernel
theorem dX4_take_1 : decode cX4_take 1 = .ok (.istore_n 2, 1) := by decide +kernel
theorem dX4_take_2 : decode cX4_take 2 = .ok (.iload_n 2, 1) := by decide +kernel
theorem dX4_take_3 : decode cX4_take 3 = .ok (.bipush 80, 2) := by decide +kernel
theorem dX4_take_5 : decode cX4_take 5 = .ok (.if_icmp .ge 69, 3) := by decide +kernel
theorem dX4_take_8 : decode cX4_take 8 = .ok (.aload_n 0, 1) := by decide +kernel
theorem dX4_take_9 : decode cX4_take 9 = .ok (.getfield 9, 3) := by decide +kernel
theorem dX4_take_12 : decode cX4_take 12 = .ok (.iload_n 2, 1) := by decide +kernel
theorem dX4_take_13 : decode cX4_take 13 = .ok (.aload_n 1, 1) := by decide +kernel
theorem dX4_take_14 : decode cX4_take 14 = .ok (.getfield 9, 3) := by decide +kernel
theorem dX4_take_17 : decode cX4_take 17 = .ok (.iload_n 2, 1) := by decide +kernel
theorem dX4_take_18 : decode cX4_take 18 = .ok (.iaload, 1) := by decide +kernel
theorem dX4_take_19 : decode cX4_take 19 = .ok (.iastore, 1) := by decide +kernel
theorem dX4_take_20 : decode cX4_take 20 = .ok (.aload_n 0, 1) := by decide +kernel
theorem dX4_take_21 : decode cX4_take 21 = .ok (.getfield 15, 3) := by decide +kernel
theorem dX4_take_24 : decode cX4_take 24 = .ok (.iload_n 2, 1) := by decide +kernel
theorem dX4_take_25 : decode cX4_take 25 = .ok (.aload_n 1, 1) := by decide +kernel
theorem dX4_take_26 : decode cX4_take 26 = .ok (.getfield 15, 3) := by decide +kernel
theorem dX4_take_29 : decode cX4_take 29 = .ok (.iload_n 2, 1) := by decide +kernel
theorem dX4_take_30 : decode cX4_take 30 = .ok (.iaload, 1) := by decide +kernel
theorem dX4_take_31 : decode cX4_take 31 = .ok (.iastore, 1) := by decide +kernel
theorem dX4_take_32 : decode cX4_take 32 = .ok (.aload_n 0, 1) := by decide +kernel
theorem dX4_take_33 : decode cX4_take 33 = .ok (.getfield 18, 3) := by decide +kernel
theorem dX4_take_36 : decode cX4_take 36 = .ok (.iload_n 2, 1) := by decide +kernel
theorem dX4_take_37 : decode cX4_take 37 = .ok (.aload_n 1, 1) := by decide +kernel
theorem dX4_take_38 : decode cX4_take 38 = .ok (.getfield 18, 3) := by decide +kernel
theorem dX4_take_41 : decode cX4_take 41 = .ok (.iload_n 2, 1) := by decide +kernel
theorem dX4_take_42 : decode cX4_take 42 = .ok (.iaload, 1) := by decide +kernel
theorem dX4_take_43 : decode cX4_take 43 = .ok (.iastore, 1) := by decide +kernel
theorem dX4_take_44 : decode cX4_take 44 = .ok (.aload_n 0, 1) := by decide +kernel
theorem dX4_take_45 : decode cX4_take 45 = .ok (.getfield 21, 3) := by decide +kernel
theorem dX4_take_48 : decode cX4_take 48 = .ok (.iload_n 2, 1) := by decide +kernel
theorem dX4_take_49 : decode cX4_take 49 = .ok (.aload_n 1, 1) := by decide +kernel
theorem dX4_take_50 : decode cX4_take 50 = .ok (.getfield 21, 3) := by decide +kernel
theorem dX4_take_53 : decode cX4_take 53 = .ok (.iload_n 2, 1) := by decide +kernel
theorem dX4_take_54 : decode cX4_take 54 = .ok (.iaload, 1) := by decide +kernel
theorem dX4_take_55 : decode cX4_take 55 = .ok (.iastore, 1) := by decide +kernel
theorem dX4_take_56 : decode cX4_take 56 = .ok (.aload_n 0, 1) := by decide +kernel
theorem dX4_take_57 : decode cX4_take 57 = .ok (.getfield 24, 3) := by decide +kernel
theorem dX4_take_60 : decode cX4_take 60 = .ok (.iload_n 2, 1) := by decide +kernel
theorem dX4_take_61 : decode cX4_take 61 = .ok (.aload_n 1, 1) := by decide +kernel
theorem dX4_take_62 : decode cX4_take 62 = .ok (.getfield 24, 3) := by decide +kernel
theorem dX4_take_65 : decode cX4_take 65 = .ok (.iload_n 2, 1) := by decide +kernel
theorem dX4_take_66 : decode cX4_take 66 = .ok (.iaload, 1) := by decide +kernel
theorem dX4_take_67 : decode cX4_take 67 = .ok (.iastore, 1) := by decide +kernel
theorem dX4_take_68 : decode cX4_take 68 = .ok (.iinc 2 1, 3) := by decide +kernel
theorem dX4_take_71 : decode cX4_take 71 = .ok (.goto (-69), 3) := by decide +kernel
theorem dX4_take_74 : decode cX4_take 74 = .ok (.iconst 0, 1) := by decide +kernel
theorem dX4_take_75 : decode cX4_take 75 = .ok (.istore_n 2, 1) := by decide +kernel
theorem dX4_take_76 : decode cX4_take 76 = .ok (.iload_n 2, 1) := by decide +kernel
theorem dX4_take_77 : decode cX4_take 77 = .ok (.iconst 4, 1) := by decide +kernel
theorem dX4_take_78 : decode cX4_take 78 = .ok (.if_icmp .ge 21, 3) := by decide +kernel
theorem dX4_take_81 : decode cX4_take 81 = .ok (.aload_n 0, 1) := by decide +kernel
theorem dX4_take_82 : decode cX4_take 82 = .ok (.getfield 27, 3) := by decide +kernel
theorem dX4_take_85 : decode cX4_take 85 = .ok (.iload_n 2, 1) := by decide +kernel
theorem dX4_take_86 : decode cX4_take 86 = .ok (.aload_n 1, 1) := by decide +kernel
theorem dX4_take_87 : decode cX4_take 87 = .ok (.getfield 27, 3) := by decide +kernel
theorem dX4_take_90 : decode cX4_take 90 = .ok (.iload_n 2, 1) := by decide +kernel
theorem dX4_take_91 : decode cX4_take 91 = .ok (.iaload, 1) := by decide +kernel
theorem dX4_take_92 : decode cX4_take 92 = .ok (.iastore, 1) := by decide +kernel
theorem dX4_take_93 : decode cX4_take 93 = .ok (.iinc 2 1, 3) := by decide +kernel
theorem dX4_take_96 : decode cX4_take 96 = .ok (.goto (-20), 3) := by decide +kernel
theorem dX4_take_99 : decode cX4_take 99 = .ok (.aload_n 0, 1) := by decide +kernel
theorem dX4_take_100 : decode cX4_take 100 = .ok (.aload_n 1, 1) := by decide +kernel
theorem dX4_take_101 : decode cX4_take 101 = .ok (.getfield 30, 3) := by decide +kernel
theorem dX4_take_104 : decode cX4_take 104 = .ok (.putfield 30, 3) := by decide +kernel
theorem dX4_take_107 : decode cX4_take 107 = .ok (.aload_n 0, 1) := by decide +kernel
theorem dX4_take_108 : decode cX4_take 108 = .ok (.aload_n 1, 1) := by decide +kernel
theorem dX4_take_109 : decode cX4_take 109 = .ok (.getfield 37, 3) := by decide +kernel
theorem dX4_take_112 : decode cX4_take 112 = .ok (.putfield 37, 3) := by decide +kernel
theorem dX4_take_115 : decode cX4_take 115 = .ok (.return_, 1) := by decide +kernel
theorem dX4_add_0 : decode cX4_add 0 = .ok (.aload_n 0, 1) := by decide +kernel
theorem dX4_add_1 : decode cX4_add 1 = .ok (.getfield 37, 3) := by decide +kernel
theorem dX4_add_4 : decode cX4_add 4 = .ok (.istore 6, 2) := by decide +kernel
theorem dX4_add_6 : decode cX4_add 6 = .ok (.iload 6, 2) := by decide +kernel
theorem dX4_add_8 : decode cX4_add 8 = .ok (.ifCond .lt 10, 3) := by decide +kernel
theorem dX4_add_11 : decode cX4_add 11 = .ok (.iload 6, 2) := by decide +kernel
theorem dX4_add_13 : decode cX4_add 13 = .ok (.bipush 80, 2) := by decide +kernel
theorem dX4_add_15 : decode cX4_add 15 = .ok (.if_icmp .lt 5, 3) := by decide +kernel
theorem dX4_add_18 : decode cX4_add 18 = .ok (.iconst (-1), 1) := by decide +kernel
theorem dX4_add_19 : decode cX4_add 19 = .ok (.ireturn, 1) := by decide +kernel
theorem dX4_add_20 : decode cX4_add 20 = .ok (.aload_n 0, 1) := by decide +kernel
theorem dX4_add_21 : decode cX4_add 21 = .ok (.getfield 9, 3) := by decide +kernel
theorem dX4_add_24 : decode cX4_add 24 = .ok (.iload 6, 2) := by decide +kernel
theorem dX4_add_26 : decode cX4_add 26 = .ok (.iload_n 1, 1) := by decide +kernel
theorem dX4_add_27 : decode cX4_add 27 = .ok (.iastore, 1) := by decide +kernel
theorem dX4_add_28 : decode cX4_add 28 = .ok (.aload_n 0, 1) := by decide +kernel
theorem dX4_add_29 : decode cX4_add 29 = .ok (.getfield 15, 3) := by decide +kernel
theorem dX4_add_32 : decode cX4_add 32 = .ok (.iload 6, 2) := by decide +kernel
theorem dX4_add_34 : decode cX4_add 34 = .ok (.iload_n 2, 1) := by decide +kernel
theorem dX4_add_35 : decode cX4_add 35 = .ok (.iastore, 1) := by decide +kernel
theorem dX4_add_36 : decode cX4_add 36 = .ok (.aload_n 0, 1) := by decide +kernel
theorem dX4_add_37 : decode cX4_add 37 = .ok (.getfield 18, 3) := by decide +kernel
theorem dX4_add_40 : decode cX4_add 40 = .ok (.iload 6, 2) := by decide +kernel
theorem dX4_add_42 : decode cX4_add 42 = .ok (.iload_n 3, 1) := by decide +kernel
theorem dX4_add_43 : decode cX4_add 43 = .ok (.iastore, 1) := by decide +kernel
theorem dX4_add_44 : decode cX4_add 44 = .ok (.aload_n 0, 1) := by decide +kernel
theorem dX4_add_45 : decode cX4_add 45 = .ok (.getfield 21, 3) := by decide +kernel
theorem dX4_add_48 : decode cX4_add 48 = .ok (.iload 6, 2) := by decide +kernel
theorem dX4_add_50 : decode cX4_add 50 = .ok (.iload 4, 2) := by decide +kernel
theorem dX4_add_52 : decode cX4_add 52 = .ok (.iastore, 1) := by decide +kernel
theorem dX4_add_53 : decode cX4_add 53 = .ok (.aload_n 0, 1) := by decide +kernel
theorem dX4_add_54 : decode cX4_add 54 = .ok (.getfield 24, 3) := by decide +kernel
theorem dX4_add_57 : decode cX4_add 57 = .ok (.iload 6, 2) := by decide +kernel
theorem dX4_add_59 : decode cX4_add 59 = .ok (.iload 5, 2) := by decide +kernel
theorem dX4_add_61 : decode cX4_add 61 = .ok (.iastore, 1) := by decide +kernel
theorem dX4_add_62 : decode cX4_add 62 = .ok (.aload_n 0, 1) := by decide +kernel
theorem dX4_add_63 : decode cX4_add 63 = .ok (.iload 6, 2) := by decide +kernel
theorem dX4_add_65 : decode cX4_add 65 = .ok (.iconst 1, 1) := by decide +kernel
theorem dX4_add_66 : decode cX4_add 66 = .ok (.iadd, 1) := by decide +kernel
theorem dX4_add_67 : decode cX4_add 67 = .ok (.putfield 37, 3) := by decide +kernel
theorem dX4_add_70 : decode cX4_add 70 = .ok (.iload 6, 2) := by decide +kernel
theorem dX4_add_72 : decode cX4_add 72 = .ok (.ireturn, 1) := by decide +kernel
