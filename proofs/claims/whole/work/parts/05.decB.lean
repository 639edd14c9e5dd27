theorem dX3_init_0 : decode cX3_init 0 = .ok (.aload_n 0, 1) := by decide +kernel
theorem dX3_init_1 : decode cX3_init 1 = .ok (.invokespecial 3, 3) := by decide +kernel
theorem dX3_init_4 : decode cX3_init 4 = .ok (.aload_n 0, 1) := by decide +kernel
theorem dX3_init_5 : decode cX3_init 5 = .ok (.aload_n 1, 1) := by decide +kernel
theorem dX3_init_6 : decode cX3_init 6 = .ok (.putfield 9, 3) := by decide +kernel
theorem dX3_init_9 : decode cX3_init 9 = .ok (.aload_n 0, 1) := by decide +kernel
theorem dX3_init_10 : decode cX3_init 10 = .ok (.aload_n 2, 1) := by decide +kernel
theorem dX3_init_11 : decode cX3_init 11 = .ok (.putfield 15, 3) := by decide +kernel
theorem dX3_init_14 : decode cX3_init 14 = .ok (.aload_n 0, 1) := by decide +kernel
theorem dX3_init_15 : decode cX3_init 15 = .ok (.bipush 80, 2) := by decide +kernel
theorem dX3_init_17 : decode cX3_init 17 = .ok (.newarray .long, 2) := by decide +kernel
theorem dX3_init_19 : decode cX3_init 19 = .ok (.putfield 19, 3) := by decide +kernel
theorem dX3_init_22 : decode cX3_init 22 = .ok (.aload_n 0, 1) := by decide +kernel
theorem dX3_init_23 : decode cX3_init 23 = .ok (.bipush 80, 2) := by decide +kernel
theorem dX3_init_25 : decode cX3_init 25 = .ok (.newarray .long, 2) := by decide +kernel
theorem dX3_init_27 : decode cX3_init 27 = .ok (.putfield 23, 3) := by decide +kernel
theorem dX3_init_30 : decode cX3_init 30 = .ok (.aload_n 0, 1) := by decide +kernel
theorem dX3_init_31 : decode cX3_init 31 = .ok (.bipush 80, 2) := by decide +kernel
theorem dX3_init_33 : decode cX3_init 33 = .ok (.newarray .long, 2) := by decide +kernel
theorem dX3_init_35 : decode cX3_init 35 = .ok (.putfield 26, 3) := by decide +kernel
theorem dX3_init_38 : decode cX3_init 38 = .ok (.aload_n 0, 1) := by decide +kernel
theorem dX3_init_39 : decode cX3_init 39 = .ok (.bipush 80, 2) := by decide +kernel
theorem dX3_init_41 : decode cX3_init 41 = .ok (.newarray .long, 2) := by decide +kernel
theorem dX3_init_43 : decode cX3_init 43 = .ok (.putfield 29, 3) := by decide +kernel
theorem dX3_init_46 : decode cX3_init 46 = .ok (.return_, 1) := by decide +kernel
theorem dX3_worth_0 : decode cX3_worth 0 = .ok (.aload_n 0, 1) := by decide +kernel
theorem dX3_worth_1 : decode cX3_worth 1 = .ok (.aload_n 0, 1) := by decide +kernel
theorem dX3_worth_2 : decode cX3_worth 2 = .ok (.getfield 9, 3) := by decide +kernel
theorem dX3_worth_5 : decode cX3_worth 5 = .ok (.iload_n 1, 1) := by decide +kernel
theorem dX3_worth_6 : decode cX3_worth 6 = .ok (.invokevirtual 32, 3) := by decide +kernel
theorem dX3_worth_9 : decode cX3_worth 9 = .ok (.iload_n 2, 1) := by decide +kernel
theorem dX3_worth_10 : decode cX3_worth 10 = .ok (.iload_n 3, 1) := by decide +kernel
theorem dX3_worth_11 : decode cX3_worth 11 = .ok (.invokevirtual 38, 3) := by decide +kernel
theorem dX3_worth_14 : decode cX3_worth 14 = .ok (.aload_n 0, 1) := by decide +kernel
theorem dX3_worth_15 : decode cX3_worth 15 = .ok (.getfield 19, 3) := by decide +kernel
theorem dX3_worth_18 : decode cX3_worth 18 = .ok (.aload_n 0, 1) := by decide +kernel
theorem dX3_worth_19 : decode cX3_worth 19 = .ok (.getfield 9, 3) := by decide +kernel
theorem dX3_worth_22 : decode cX3_worth 22 = .ok (.iload_n 1, 1) := by decide +kernel
theorem dX3_worth_23 : decode cX3_worth 23 = .ok (.invokevirtual 42, 3) := by decide +kernel
theorem dX3_worth_26 : decode cX3_worth 26 = .ok (.invokestatic 45, 3) := by decide +kernel
theorem dX3_worth_29 : decode cX3_worth 29 = .ok (.lreturn, 1) := by decide +kernel
theorem dX3_slopeBy_0 : decode cX3_slopeBy 0 = .ok (.aload_n 0, 1) := by decide +kernel
theorem dX3_slopeBy_1 : decode cX3_slopeBy 1 = .ok (.aload_n 0, 1) := by decide +kernel
theorem dX3_slopeBy_2 : decode cX3_slopeBy 2 = .ok (.getfield 9, 3) := by decide +kernel
theorem dX3_slopeBy_5 : decode cX3_slopeBy 5 = .ok (.iload_n 1, 1) := by decide +kernel
theorem dX3_slopeBy_6 : decode cX3_slopeBy 6 = .ok (.invokevirtual 32, 3) := by decide +kernel
theorem dX3_slopeBy_9 : decode cX3_slopeBy 9 = .ok (.iload_n 2, 1) := by decide +kernel
theorem dX3_slopeBy_10 : decode cX3_slopeBy 10 = .ok (.iconst 0, 1) := by decide +kernel
theorem dX3_slopeBy_11 : decode cX3_slopeBy 11 = .ok (.invokevirtual 38, 3) := by decide +kernel
theorem dX3_slopeBy_14 : decode cX3_slopeBy 14 = .ok (.aload_n 0, 1) := by decide +kernel
theorem dX3_slopeBy_15 : decode cX3_slopeBy 15 = .ok (.aload_n 0, 1) := by decide +kernel
theorem dX3_slopeBy_16 : decode cX3_slopeBy 16 = .ok (.getfield 23, 3) := by decide +kernel
theorem dX3_slopeBy_19 : decode cX3_slopeBy 19 = .ok (.aload_n 0, 1) := by decide +kernel
theorem dX3_slopeBy_20 : decode cX3_slopeBy 20 = .ok (.getfield 9, 3) := by decide +kernel
theorem dX3_slopeBy_23 : decode cX3_slopeBy 23 = .ok (.iload_n 1, 1) := by decide +kernel
theorem dX3_slopeBy_24 : decode cX3_slopeBy 24 = .ok (.invokevirtual 32, 3) := by decide +kernel
theorem dX3_slopeBy_27 : decode cX3_slopeBy 27 = .ok (.iload_n 2, 1) := by decide +kernel
theorem dX3_slopeBy_28 : decode cX3_slopeBy 28 = .ok (.invokevirtual 49, 3) := by decide +kernel
theorem dX3_slopeBy_31 : decode cX3_slopeBy 31 = .ok (.aload_n 0, 1) := by decide +kernel
theorem dX3_slopeBy_32 : decode cX3_slopeBy 32 = .ok (.getfield 23, 3) := by decide +kernel
theorem dX3_slopeBy_35 : decode cX3_slopeBy 35 = .ok (.aload_n 0, 1) := by decide +kernel
theorem dX3_slopeBy_36 : decode cX3_slopeBy 36 = .ok (.getfield 9, 3) := by decide +kernel
theorem dX3_slopeBy_39 : decode cX3_slopeBy 39 = .ok (.iload_n 1, 1) := by decide +kernel
theorem dX3_slopeBy_40 : decode cX3_slopeBy 40 = .ok (.invokevirtual 42, 3) := by decide +kernel
theorem dX3_slopeBy_43 : decode cX3_slopeBy 43 = .ok (.invokestatic 45, 3) := by decide +kernel
theorem dX3_slopeBy_46 : decode cX3_slopeBy 46 = .ok (.lreturn, 1) := by decide +kernel
theorem dX3_bendBy_0 : decode cX3_bendBy 0 = .ok (.aload_n 0, 1) := by decide +kernel
theorem dX3_bendBy_1 : decode cX3_bendBy 1 = .ok (.getfield 9, 3) := by decide +kernel
theorem dX3_bendBy_4 : decode cX3_bendBy 4 = .ok (.iload_n 1, 1) := by decide +kernel
theorem dX3_bendBy_5 : decode cX3_bendBy 5 = .ok (.invokevirtual 32, 3) := by decide +kernel
theorem dX3_bendBy_8 : decode cX3_bendBy 8 = .ok (.istore 4, 2) := by decide +kernel
theorem dX3_bendBy_10 : decode cX3_bendBy 10 = .ok (.aload_n 0, 1) := by decide +kernel
theorem dX3_bendBy_11 : decode cX3_bendBy 11 = .ok (.iload 4, 2) := by decide +kernel
theorem dX3_bendBy_13 : decode cX3_bendBy 13 = .ok (.iload_n 2, 1) := by decide +kernel
theorem dX3_bendBy_14 : decode cX3_bendBy 14 = .ok (.iconst 0, 1) := by decide +kernel
theorem dX3_bendBy_15 : decode cX3_bendBy 15 = .ok (.invokevirtual 38, 3) := by decide +kernel
theorem dX3_bendBy_18 : decode cX3_bendBy 18 = .ok (.aload_n 0, 1) := by decide +kernel
theorem dX3_bendBy_19 : decode cX3_bendBy 19 = .ok (.aload_n 0, 1) := by decide +kernel
theorem dX3_bendBy_20 : decode cX3_bendBy 20 = .ok (.getfield 23, 3) := by decide +kernel
theorem dX3_bendBy_23 : decode cX3_bendBy 23 = .ok (.iload 4, 2) := by decide +kernel
theorem dX3_bendBy_25 : decode cX3_bendBy 25 = .ok (.iload_n 2, 1) := by decide +kernel
theorem dX3_bendBy_26 : decode cX3_bendBy 26 = .ok (.invokevirtual 49, 3) := by decide +kernel
theorem dX3_bendBy_29 : decode cX3_bendBy 29 = .ok (.aload_n 0, 1) := by decide +kernel
theorem dX3_bendBy_30 : decode cX3_bendBy 30 = .ok (.aload_n 0, 1) := by decide +kernel
theorem dX3_bendBy_31 : decode cX3_bendBy 31 = .ok (.getfield 26, 3) := by decide +kernel
theorem dX3_bendBy_34 : decode cX3_bendBy 34 = .ok (.iload 4, 2) := by decide +kernel
theorem dX3_bendBy_36 : decode cX3_bendBy 36 = .ok (.iload_n 3, 1) := by decide +kernel
theorem dX3_bendBy_37 : decode cX3_bendBy 37 = .ok (.invokevirtual 49, 3) := by decide +kernel
theorem dX3_bendBy_40 : decode cX3_bendBy 40 = .ok (.aload_n 0, 1) := by decide +kernel
theorem dX3_bendBy_41 : decode cX3_bendBy 41 = .ok (.iload 4, 2) := by decide +kernel
theorem dX3_bendBy_43 : decode cX3_bendBy 43 = .ok (.invokevirtual 53, 3) := by decide +kernel
theorem dX3_bendBy_46 : decode cX3_bendBy 46 = .ok (.aload_n 0, 1) := by decide +kernel
theorem dX3_bendBy_47 : decode cX3_bendBy 47 = .ok (.getfield 29, 3) := by decide +kernel
theorem dX3_bendBy_50 : decode cX3_bendBy 50 = .ok (.aload_n 0, 1) := by decide +kernel
theorem dX3_bendBy_51 : decode cX3_bendBy 51 = .ok (.getfield 9, 3) := by decide +kernel
theorem dX3_bendBy_54 : decode cX3_bendBy 54 = .ok (.iload_n 1, 1) := by decide +kernel
theorem dX3_bendBy_55 : decode cX3_bendBy 55 = .ok (.invokevirtual 42, 3) := by decide +kernel
theorem dX3_bendBy_58 : decode cX3_bendBy 58 = .ok (.invokestatic 45, 3) := by decide +kernel
theorem dX3_bendBy_61 : decode cX3_bendBy 61 = .ok (.lreturn, 1) := by decide +kernel
theorem dX3_slopesInto_0 : decode cX3_slopesInto 0 = .ok (.aload_n 0, 1) := by decide +kernel
theorem dX3_slopesInto_1 : decode cX3_slopesInto 1 = .ok (.getfield 9, 3) := by decide +kernel
theorem dX3_slopesInto_4 : decode cX3_slopesInto 4 = .ok (.iload_n 2, 1) := by decide +kernel
theorem dX3_slopesInto_5 : decode cX3_slopesInto 5 = .ok (.invokevirtual 32, 3) := by decide +kernel
theorem dX3_slopesInto_8 : decode cX3_slopesInto 8 = .ok (.istore_n 3, 1) := by decide +kernel
theorem dX3_slopesInto_9 : decode cX3_slopesInto 9 = .ok (.aload_n 0, 1) := by decide +kernel
theorem dX3_slopesInto_10 : decode cX3_slopesInto 10 = .ok (.iload_n 3, 1) := by decide +kernel
theorem dX3_slopesInto_11 : decode cX3_slopesInto 11 = .ok (.iconst 0, 1) := by decide +kernel
theorem dX3_slopesInto_12 : decode cX3_slopesInto 12 = .ok (.iconst 0, 1) := by decide +kernel
theorem dX3_slopesInto_13 : decode cX3_slopesInto 13 = .ok (.invokevirtual 38, 3) := by decide +kernel
theorem dX3_slopesInto_16 : decode cX3_slopesInto 16 = .ok (.iconst 0, 1) := by decide +kernel
theorem dX3_slopesInto_17 : decode cX3_slopesInto 17 = .ok (.istore 4, 2) := by decide +kernel
theorem dX3_slopesInto_19 : decode cX3_slopesInto 19 = .ok (.iload 4, 2) := by decide +kernel
theorem dX3_slopesInto_21 : decode cX3_slopesInto 21 = .ok (.bipush 6, 2) := by decide +kernel
theorem dX3_slopesInto_23 : decode cX3_slopesInto 23 = .ok (.if_icmp .ge 46, 3) := by decide +kernel
theorem dX3_slopesInto_26 : decode cX3_slopesInto 26 = .ok (.iload 4, 2) := by decide +kernel
theorem dX3_slopesInto_28 : decode cX3_slopesInto 28 = .ok (.aload_n 1, 1) := by decide +kernel
theorem dX3_slopesInto_29 : decode cX3_slopesInto 29 = .ok (.arraylength, 1) := by decide +kernel
theorem dX3_slopesInto_30 : decode cX3_slopesInto 30 = .ok (.if_icmp .ge 39, 3) := by decide +kernel
theorem dX3_slopesInto_33 : decode cX3_slopesInto 33 = .ok (.aload_n 0, 1) := by decide +kernel
theorem dX3_slopesInto_34 : decode cX3_slopesInto 34 = .ok (.aload_n 0, 1) := by decide +kernel
theorem dX3_slopesInto_35 : decode cX3_slopesInto 35 = .ok (.getfield 23, 3) := by decide +kernel
theorem dX3_slopesInto_38 : decode cX3_slopesInto 38 = .ok (.iload_n 3, 1) := by decide +kernel
theorem dX3_slopesInto_39 : decode cX3_slopesInto 39 = .ok (.iload 4, 2) := by decide +kernel
theorem dX3_slopesInto_41 : decode cX3_slopesInto 41 = .ok (.invokevirtual 49, 3) := by decide +kernel
theorem dX3_slopesInto_44 : decode cX3_slopesInto 44 = .ok (.aload_n 1, 1) := by decide +kernel
theorem dX3_slopesInto_45 : decode cX3_slopesInto 45 = .ok (.iload 4, 2) := by decide +kernel
theorem dX3_slopesInto_47 : decode cX3_slopesInto 47 = .ok (.aload_n 0, 1) := by decide +kernel
theorem dX3_slopesInto_48 : decode cX3_slopesInto 48 = .ok (.getfield 23, 3) := by decide +kernel
theorem dX3_slopesInto_51 : decode cX3_slopesInto 51 = .ok (.aload_n 0, 1) := by decide +kernel
theorem dX3_slopesInto_52 : decode cX3_slopesInto 52 = .ok (.getfield 9, 3) := by decide +kernel
theorem dX3_slopesInto_55 : decode cX3_slopesInto 55 = .ok (.iload_n 2, 1) := by decide +kernel
theorem dX3_slopesInto_56 : decode cX3_slopesInto 56 = .ok (.invokevirtual 42, 3) := by decide +kernel
theorem dX3_slopesInto_59 : decode cX3_slopesInto 59 = .ok (.invokestatic 45, 3) := by decide +kernel
theorem dX3_slopesInto_62 : decode cX3_slopesInto 62 = .ok (.lastore, 1) := by decide +kernel
theorem dX3_slopesInto_63 : decode cX3_slopesInto 63 = .ok (.iinc 4 1, 3) := by decide +kernel
theorem dX3_slopesInto_66 : decode cX3_slopesInto 66 = .ok (.goto (-47), 3) := by decide +kernel
theorem dX3_slopesInto_69 : decode cX3_slopesInto 69 = .ok (.return_, 1) := by decide +kernel
theorem dX3_walkWorth_0 : decode cX3_walkWorth 0 = .ok (.iconst 0, 1) := by decide +kernel
theorem dX3_walkWorth_1 : decode cX3_walkWorth 1 = .ok (.istore 4, 2) := by decide +kernel
theorem dX3_walkWorth_3 : decode cX3_walkWorth 3 = .ok (.iload 4, 2) := by decide +kernel
theorem dX3_walkWorth_5 : decode cX3_walkWorth 5 = .ok (.iload_n 1, 1) := by decide +kernel
theorem dX3_walkWorth_6 : decode cX3_walkWorth 6 = .ok (.if_icmp .ge 31, 3) := by decide +kernel
theorem dX3_walkWorth_9 : decode cX3_walkWorth 9 = .ok (.iload 4, 2) := by decide +kernel
theorem dX3_walkWorth_11 : decode cX3_walkWorth 11 = .ok (.bipush 80, 2) := by decide +kernel
theorem dX3_walkWorth_13 : decode cX3_walkWorth 13 = .ok (.if_icmp .ge 24, 3) := by decide +kernel
theorem dX3_walkWorth_16 : decode cX3_walkWorth 16 = .ok (.aload_n 0, 1) := by decide +kernel
theorem dX3_walkWorth_17 : decode cX3_walkWorth 17 = .ok (.getfield 19, 3) := by decide +kernel
theorem dX3_walkWorth_20 : decode cX3_walkWorth 20 = .ok (.iload 4, 2) := by decide +kernel
theorem dX3_walkWorth_22 : decode cX3_walkWorth 22 = .ok (.aload_n 0, 1) := by decide +kernel
theorem dX3_walkWorth_23 : decode cX3_walkWorth 23 = .ok (.iload 4, 2) := by decide +kernel
theorem dX3_walkWorth_25 : decode cX3_walkWorth 25 = .ok (.iload_n 2, 1) := by decide +kernel
theorem dX3_walkWorth_26 : decode cX3_walkWorth 26 = .ok (.iload_n 3, 1) := by decide +kernel
theorem dX3_walkWorth_27 : decode cX3_walkWorth 27 = .ok (.invokevirtual 57, 3) := by decide +kernel
theorem dX3_walkWorth_30 : decode cX3_walkWorth 30 = .ok (.lastore, 1) := by decide +kernel
theorem dX3_walkWorth_31 : decode cX3_walkWorth 31 = .ok (.iinc 4 1, 3) := by decide +kernel
theorem dX3_walkWorth_34 : decode cX3_walkWorth 34 = .ok (.goto (-31), 3) := by decide +kernel
theorem dX3_walkWorth_37 : decode cX3_walkWorth 37 = .ok (.return_, 1) := by decide +kernel
theorem dX3_worthOf_0 : decode cX3_worthOf 0 = .ok (.aload_n 0, 1) := by decide +kernel
theorem dX3_worthOf_1 : decode cX3_worthOf 1 = .ok (.getfield 9, 3) := by decide +kernel
theorem dX3_worthOf_4 : decode cX3_worthOf 4 = .ok (.getfield 61, 3) := by decide +kernel
theorem dX3_worthOf_7 : decode cX3_worthOf 7 = .ok (.iload_n 1, 1) := by decide +kernel
theorem dX3_worthOf_8 : decode cX3_worthOf 8 = .ok (.iaload, 1) := by decide +kernel
theorem dX3_worthOf_9 : decode cX3_worthOf 9 = .ok (.istore 4, 2) := by decide +kernel
theorem dX3_worthOf_11 : decode cX3_worthOf 11 = .ok (.aload_n 0, 1) := by decide +kernel
theorem dX3_worthOf_12 : decode cX3_worthOf 12 = .ok (.getfield 9, 3) := by decide +kernel
theorem dX3_worthOf_15 : decode cX3_worthOf 15 = .ok (.getfield 65, 3) := by decide +kernel
theorem dX3_worthOf_18 : decode cX3_worthOf 18 = .ok (.iload_n 1, 1) := by decide +kernel
theorem dX3_worthOf_19 : decode cX3_worthOf 19 = .ok (.iaload, 1) := by decide +kernel
theorem dX3_worthOf_20 : decode cX3_worthOf 20 = .ok (.istore 5, 2) := by decide +kernel
theorem dX3_worthOf_22 : decode cX3_worthOf 22 = .ok (.aload_n 0, 1) := by decide +kernel
theorem dX3_worthOf_23 : decode cX3_worthOf 23 = .ok (.getfield 9, 3) := by decide +kernel
theorem dX3_worthOf_26 : decode cX3_worthOf 26 = .ok (.getfield 68, 3) := by decide +kernel
theorem dX3_worthOf_29 : decode cX3_worthOf 29 = .ok (.iload_n 1, 1) := by decide +kernel
theorem dX3_worthOf_30 : decode cX3_worthOf 30 = .ok (.iaload, 1) := by decide +kernel
theorem dX3_worthOf_31 : decode cX3_worthOf 31 = .ok (.tableswitch 158 0 7 #[45, 49, 158, 72, 92, 112, 132, 147], 45) := by decide +kernel
theorem dX3_worthOf_76 : decode cX3_worthOf 76 = .ok (.iload 4, 2) := by decide +kernel
theorem dX3_worthOf_78 : decode cX3_worthOf 78 = .ok (.i2l, 1) := by decide +kernel
theorem dX3_worthOf_79 : decode cX3_worthOf 79 = .ok (.lreturn, 1) := by decide +kernel
theorem dX3_worthOf_80 : decode cX3_worthOf 80 = .ok (.aload_n 0, 1) := by decide +kernel
theorem dX3_worthOf_81 : decode cX3_worthOf 81 = .ok (.getfield 15, 3) := by decide +kernel
theorem dX3_worthOf_84 : decode cX3_worthOf 84 = .ok (.iload 4, 2) := by decide +kernel
theorem dX3_worthOf_86 : decode cX3_worthOf 86 = .ok (.invokevirtual 71, 3) := by decide +kernel
theorem dX3_worthOf_89 : decode cX3_worthOf 89 = .ok (.iload 4, 2) := by decide +kernel
theorem dX3_worthOf_91 : decode cX3_worthOf 91 = .ok (.iload_n 2, 1) := by decide +kernel
theorem dX3_worthOf_92 : decode cX3_worthOf 92 = .ok (.if_icmp .ne 7, 3) := by decide +kernel
theorem dX3_worthOf_95 : decode cX3_worthOf 95 = .ok (.iload_n 3, 1) := by decide +kernel
theorem dX3_worthOf_96 : decode cX3_worthOf 96 = .ok (.goto 4, 3) := by decide +kernel
theorem dX3_worthOf_99 : decode cX3_worthOf 99 = .ok (.iconst 0, 1) := by decide +kernel
theorem dX3_worthOf_100 : decode cX3_worthOf 100 = .ok (.iadd, 1) := by decide +kernel
theorem dX3_worthOf_101 : decode cX3_worthOf 101 = .ok (.i2l, 1) := by decide +kernel
theorem dX3_worthOf_102 : decode cX3_worthOf 102 = .ok (.lreturn, 1) := by decide +kernel
theorem dX3_worthOf_103 : decode cX3_worthOf 103 = .ok (.aload_n 0, 1) := by decide +kernel
theorem dX3_worthOf_104 : decode cX3_worthOf 104 = .ok (.getfield 19, 3) := by decide +kernel
theorem dX3_worthOf_107 : decode cX3_worthOf 107 = .ok (.iload 4, 2) := by decide +kernel
theorem dX3_worthOf_109 : decode cX3_worthOf 109 = .ok (.invokestatic 45, 3) := by decide +kernel
theorem dX3_worthOf_112 : decode cX3_worthOf 112 = .ok (.aload_n 0, 1) := by decide +kernel
theorem dX3_worthOf_113 : decode cX3_worthOf 113 = .ok (.getfield 19, 3) := by decide +kernel
theorem dX3_worthOf_116 : decode cX3_worthOf 116 = .ok (.iload 5, 2) := by decide +kernel
theorem dX3_worthOf_118 : decode cX3_worthOf 118 = .ok (.invokestatic 45, 3) := by decide +kernel
theorem dX3_worthOf_121 : decode cX3_worthOf 121 = .ok (.ladd, 1) := by decide +kernel
theorem dX3_worthOf_122 : decode cX3_worthOf 122 = .ok (.lreturn, 1) := by decide +kernel
theorem dX3_worthOf_123 : decode cX3_worthOf 123 = .ok (.aload_n 0, 1) := by decide +kernel
theorem dX3_worthOf_124 : decode cX3_worthOf 124 = .ok (.getfield 19, 3) := by decide +kernel
theorem dX3_worthOf_127 : decode cX3_worthOf 127 = .ok (.iload 4, 2) := by decide +kernel
theorem dX3_worthOf_129 : decode cX3_worthOf 129 = .ok (.invokestatic 45, 3) := by decide +kernel
theorem dX3_worthOf_132 : decode cX3_worthOf 132 = .ok (.aload_n 0, 1) := by decide +kernel
theorem dX3_worthOf_133 : decode cX3_worthOf 133 = .ok (.getfield 19, 3) := by decide +kernel
theorem dX3_worthOf_136 : decode cX3_worthOf 136 = .ok (.iload 5, 2) := by decide +kernel
theorem dX3_worthOf_138 : decode cX3_worthOf 138 = .ok (.invokestatic 45, 3) := by decide +kernel
theorem dX3_worthOf_141 : decode cX3_worthOf 141 = .ok (.lsub, 1) := by decide +kernel
theorem dX3_worthOf_142 : decode cX3_worthOf 142 = .ok (.lreturn, 1) := by decide +kernel
theorem dX3_worthOf_143 : decode cX3_worthOf 143 = .ok (.aload_n 0, 1) := by decide +kernel
theorem dX3_worthOf_144 : decode cX3_worthOf 144 = .ok (.getfield 19, 3) := by decide +kernel
theorem dX3_worthOf_147 : decode cX3_worthOf 147 = .ok (.iload 4, 2) := by decide +kernel
theorem dX3_worthOf_149 : decode cX3_worthOf 149 = .ok (.invokestatic 45, 3) := by decide +kernel
theorem dX3_worthOf_152 : decode cX3_worthOf 152 = .ok (.aload_n 0, 1) := by decide +kernel
theorem dX3_worthOf_153 : decode cX3_worthOf 153 = .ok (.getfield 19, 3) := by decide +kernel
theorem dX3_worthOf_156 : decode cX3_worthOf 156 = .ok (.iload 5, 2) := by decide +kernel
theorem dX3_worthOf_158 : decode cX3_worthOf 158 = .ok (.invokestatic 45, 3) := by decide +kernel
theorem dX3_worthOf_161 : decode cX3_worthOf 161 = .ok (.lmul, 1) := by decide +kernel
theorem dX3_worthOf_162 : decode cX3_worthOf 162 = .ok (.lreturn, 1) := by decide +kernel
theorem dX3_worthOf_163 : decode cX3_worthOf 163 = .ok (.aload_n 0, 1) := by decide +kernel
theorem dX3_worthOf_164 : decode cX3_worthOf 164 = .ok (.getfield 19, 3) := by decide +kernel
theorem dX3_worthOf_167 : decode cX3_worthOf 167 = .ok (.iload 4, 2) := by decide +kernel
theorem dX3_worthOf_169 : decode cX3_worthOf 169 = .ok (.invokestatic 45, 3) := by decide +kernel
theorem dX3_worthOf_172 : decode cX3_worthOf 172 = .ok (.iload 5, 2) := by decide +kernel
theorem dX3_worthOf_174 : decode cX3_worthOf 174 = .ok (.invokestatic 75, 3) := by decide +kernel
theorem dX3_worthOf_177 : decode cX3_worthOf 177 = .ok (.lreturn, 1) := by decide +kernel
theorem dX3_worthOf_178 : decode cX3_worthOf 178 = .ok (.aload_n 0, 1) := by decide +kernel
theorem dX3_worthOf_179 : decode cX3_worthOf 179 = .ok (.getfield 19, 3) := by decide +kernel
theorem dX3_worthOf_182 : decode cX3_worthOf 182 = .ok (.iload 4, 2) := by decide +kernel
theorem dX3_worthOf_184 : decode cX3_worthOf 184 = .ok (.invokestatic 45, 3) := by decide +kernel
theorem dX3_worthOf_187 : decode cX3_worthOf 187 = .ok (.lneg, 1) := by decide +kernel
theorem dX3_worthOf_188 : decode cX3_worthOf 188 = .ok (.lreturn, 1) := by decide +kernel
theorem dX3_worthOf_189 : decode cX3_worthOf 189 = .ok (.aload_n 0, 1) := by decide +kernel
theorem dX3_worthOf_190 : decode cX3_worthOf 190 = .ok (.getfield 19, 3) := by decide +kernel
theorem dX3_worthOf_193 : decode cX3_worthOf 193 = .ok (.iload 4, 2) := by decide +kernel
theorem dX3_worthOf_195 : decode cX3_worthOf 195 = .ok (.invokestatic 45, 3) := by decide +kernel
theorem dX3_worthOf_198 : decode cX3_worthOf 198 = .ok (.lreturn, 1) := by decide +kernel
theorem dX3_walkSlope_0 : decode cX3_walkSlope 0 = .ok (.iconst 0, 1) := by decide +kernel
theorem dX3_walkSlope_1 : decode cX3_walkSlope 1 = .ok (.istore 4, 2) := by decide +kernel
theorem dX3_walkSlope_3 : decode cX3_walkSlope 3 = .ok (.iload 4, 2) := by decide +kernel
theorem dX3_walkSlope_5 : decode cX3_walkSlope 5 = .ok (.iload_n 2, 1) := by decide +kernel
theorem dX3_walkSlope_6 : decode cX3_walkSlope 6 = .ok (.if_icmp .ge 35, 3) := by decide +kernel
theorem dX3_walkSlope_9 : decode cX3_walkSlope 9 = .ok (.iload 4, 2) := by decide +kernel
theorem dX3_walkSlope_11 : decode cX3_walkSlope 11 = .ok (.aload_n 1, 1) := by decide +kernel
theorem dX3_walkSlope_12 : decode cX3_walkSlope 12 = .ok (.arraylength, 1) := by decide +kernel
theorem dX3_walkSlope_13 : decode cX3_walkSlope 13 = .ok (.if_icmp .ge 28, 3) := by decide +kernel
theorem dX3_walkSlope_16 : decode cX3_walkSlope 16 = .ok (.iload 4, 2) := by decide +kernel
theorem dX3_walkSlope_18 : decode cX3_walkSlope 18 = .ok (.bipush 80, 2) := by decide +kernel
theorem dX3_walkSlope_20 : decode cX3_walkSlope 20 = .ok (.if_icmp .ge 21, 3) := by decide +kernel
theorem dX3_walkSlope_23 : decode cX3_walkSlope 23 = .ok (.aload_n 1, 1) := by decide +kernel
theorem dX3_walkSlope_24 : decode cX3_walkSlope 24 = .ok (.iload 4, 2) := by decide +kernel
theorem dX3_walkSlope_26 : decode cX3_walkSlope 26 = .ok (.aload_n 0, 1) := by decide +kernel
theorem dX3_walkSlope_27 : decode cX3_walkSlope 27 = .ok (.aload_n 1, 1) := by decide +kernel
theorem dX3_walkSlope_28 : decode cX3_walkSlope 28 = .ok (.iload 4, 2) := by decide +kernel
theorem dX3_walkSlope_30 : decode cX3_walkSlope 30 = .ok (.iload_n 3, 1) := by decide +kernel
theorem dX3_walkSlope_31 : decode cX3_walkSlope 31 = .ok (.invokevirtual 79, 3) := by decide +kernel
theorem dX3_walkSlope_34 : decode cX3_walkSlope 34 = .ok (.lastore, 1) := by decide +kernel
theorem dX3_walkSlope_35 : decode cX3_walkSlope 35 = .ok (.iinc 4 1, 3) := by decide +kernel
theorem dX3_walkSlope_38 : decode cX3_walkSlope 38 = .ok (.goto (-35), 3) := by decide +kernel
theorem dX3_walkSlope_41 : decode cX3_walkSlope 41 = .ok (.return_, 1) := by decide +kernel
theorem dX3_slopeOf_0 : decode cX3_slopeOf 0 = .ok (.aload_n 0, 1) := by decide +kernel
theorem dX3_slopeOf_1 : decode cX3_slopeOf 1 = .ok (.getfield 9, 3) := by decide +kernel
theorem dX3_slopeOf_4 : decode cX3_slopeOf 4 = .ok (.getfield 61, 3) := by decide +kernel
theorem dX3_slopeOf_7 : decode cX3_slopeOf 7 = .ok (.iload_n 2, 1) := by decide +kernel
theorem dX3_slopeOf_8 : decode cX3_slopeOf 8 = .ok (.iaload, 1) := by decide +kernel
theorem dX3_slopeOf_9 : decode cX3_slopeOf 9 = .ok (.istore 4, 2) := by decide +kernel
theorem dX3_slopeOf_11 : decode cX3_slopeOf 11 = .ok (.aload_n 0, 1) := by decide +kernel
theorem dX3_slopeOf_12 : decode cX3_slopeOf 12 = .ok (.getfield 9, 3) := by decide +kernel
theorem dX3_slopeOf_15 : decode cX3_slopeOf 15 = .ok (.getfield 65, 3) := by decide +kernel
theorem dX3_slopeOf_18 : decode cX3_slopeOf 18 = .ok (.iload_n 2, 1) := by decide +kernel
theorem dX3_slopeOf_19 : decode cX3_slopeOf 19 = .ok (.iaload, 1) := by decide +kernel
theorem dX3_slopeOf_20 : decode cX3_slopeOf 20 = .ok (.istore 5, 2) := by decide +kernel
theorem dX3_slopeOf_22 : decode cX3_slopeOf 22 = .ok (.aload_n 0, 1) := by decide +kernel
theorem dX3_slopeOf_23 : decode cX3_slopeOf 23 = .ok (.getfield 9, 3) := by decide +kernel
theorem dX3_slopeOf_26 : decode cX3_slopeOf 26 = .ok (.getfield 68, 3) := by decide +kernel
theorem dX3_slopeOf_29 : decode cX3_slopeOf 29 = .ok (.iload_n 2, 1) := by decide +kernel
theorem dX3_slopeOf_30 : decode cX3_slopeOf 30 = .ok (.iaload, 1) := by decide +kernel
theorem dX3_slopeOf_31 : decode cX3_slopeOf 31 = .ok (.tableswitch 157 0 7 #[45, 47, 157, 59, 73, 87, 121, 149], 45) := by decide +kernel
theorem dX3_slopeOf_76 : decode cX3_slopeOf 76 = .ok (.lconst 0, 1) := by decide +kernel
theorem dX3_slopeOf_77 : decode cX3_slopeOf 77 = .ok (.lreturn, 1) := by decide +kernel
theorem dX3_slopeOf_78 : decode cX3_slopeOf 78 = .ok (.iload 4, 2) := by decide +kernel
theorem dX3_slopeOf_80 : decode cX3_slopeOf 80 = .ok (.iload_n 3, 1) := by decide +kernel
theorem dX3_slopeOf_81 : decode cX3_slopeOf 81 = .ok (.if_icmp .ne 7, 3) := by decide +kernel
theorem dX3_slopeOf_84 : decode cX3_slopeOf 84 = .ok (.lconst 1, 1) := by decide +kernel
theorem dX3_slopeOf_85 : decode cX3_slopeOf 85 = .ok (.goto 4, 3) := by decide +kernel
theorem dX3_slopeOf_88 : decode cX3_slopeOf 88 = .ok (.lconst 0, 1) := by decide +kernel
theorem dX3_slopeOf_89 : decode cX3_slopeOf 89 = .ok (.lreturn, 1) := by decide +kernel
theorem dX3_slopeOf_90 : decode cX3_slopeOf 90 = .ok (.aload_n 1, 1) := by decide +kernel
theorem dX3_slopeOf_91 : decode cX3_slopeOf 91 = .ok (.iload 4, 2) := by decide +kernel
theorem dX3_slopeOf_93 : decode cX3_slopeOf 93 = .ok (.invokestatic 45, 3) := by decide +kernel
theorem dX3_slopeOf_96 : decode cX3_slopeOf 96 = .ok (.aload_n 1, 1) := by decide +kernel
theorem dX3_slopeOf_97 : decode cX3_slopeOf 97 = .ok (.iload 5, 2) := by decide +kernel
theorem dX3_slopeOf_99 : decode cX3_slopeOf 99 = .ok (.invokestatic 45, 3) := by decide +kernel
theorem dX3_slopeOf_102 : decode cX3_slopeOf 102 = .ok (.ladd, 1) := by decide +kernel
theorem dX3_slopeOf_103 : decode cX3_slopeOf 103 = .ok (.lreturn, 1) := by decide +kernel
theorem dX3_slopeOf_104 : decode cX3_slopeOf 104 = .ok (.aload_n 1, 1) := by decide +kernel
theorem dX3_slopeOf_105 : decode cX3_slopeOf 105 = .ok (.iload 4, 2) := by decide +kernel
theorem dX3_slopeOf_107 : decode cX3_slopeOf 107 = .ok (.invokestatic 45, 3) := by decide +kernel
theorem dX3_slopeOf_110 : decode cX3_slopeOf 110 = .ok (.aload_n 1, 1) := by decide +kernel
theorem dX3_slopeOf_111 : decode cX3_slopeOf 111 = .ok (.iload 5, 2) := by decide +kernel
theorem dX3_slopeOf_113 : decode cX3_slopeOf 113 = .ok (.invokestatic 45, 3) := by decide +kernel
theorem dX3_slopeOf_116 : decode cX3_slopeOf 116 = .ok (.lsub, 1) := by decide +kernel
theorem dX3_slopeOf_117 : decode cX3_slopeOf 117 = .ok (.lreturn, 1) := by decide +kernel
theorem dX3_slopeOf_118 : decode cX3_slopeOf 118 = .ok (.aload_n 1, 1) := by decide +kernel
theorem dX3_slopeOf_119 : decode cX3_slopeOf 119 = .ok (.iload 4, 2) := by decide +kernel
theorem dX3_slopeOf_121 : decode cX3_slopeOf 121 = .ok (.invokestatic 45, 3) := by decide +kernel
theorem dX3_slopeOf_124 : decode cX3_slopeOf 124 = .ok (.aload_n 0, 1) := by decide +kernel
theorem dX3_slopeOf_125 : decode cX3_slopeOf 125 = .ok (.getfield 19, 3) := by decide +kernel
theorem dX3_slopeOf_128 : decode cX3_slopeOf 128 = .ok (.iload 5, 2) := by decide +kernel
theorem dX3_slopeOf_130 : decode cX3_slopeOf 130 = .ok (.invokestatic 45, 3) := by decide +kernel
theorem dX3_slopeOf_133 : decode cX3_slopeOf 133 = .ok (.lmul, 1) := by decide +kernel
theorem dX3_slopeOf_134 : decode cX3_slopeOf 134 = .ok (.aload_n 0, 1) := by decide +kernel
theorem dX3_slopeOf_135 : decode cX3_slopeOf 135 = .ok (.getfield 19, 3) := by decide +kernel
theorem dX3_slopeOf_138 : decode cX3_slopeOf 138 = .ok (.iload 4, 2) := by decide +kernel
theorem dX3_slopeOf_140 : decode cX3_slopeOf 140 = .ok (.invokestatic 45, 3) := by decide +kernel
theorem dX3_slopeOf_143 : decode cX3_slopeOf 143 = .ok (.aload_n 1, 1) := by decide +kernel
theorem dX3_slopeOf_144 : decode cX3_slopeOf 144 = .ok (.iload 5, 2) := by decide +kernel
theorem dX3_slopeOf_146 : decode cX3_slopeOf 146 = .ok (.invokestatic 45, 3) := by decide +kernel
theorem dX3_slopeOf_149 : decode cX3_slopeOf 149 = .ok (.lmul, 1) := by decide +kernel
theorem dX3_slopeOf_150 : decode cX3_slopeOf 150 = .ok (.ladd, 1) := by decide +kernel
theorem dX3_slopeOf_151 : decode cX3_slopeOf 151 = .ok (.lreturn, 1) := by decide +kernel
theorem dX3_slopeOf_152 : decode cX3_slopeOf 152 = .ok (.iload 5, 2) := by decide +kernel
theorem dX3_slopeOf_154 : decode cX3_slopeOf 154 = .ok (.i2l, 1) := by decide +kernel
theorem dX3_slopeOf_155 : decode cX3_slopeOf 155 = .ok (.aload_n 0, 1) := by decide +kernel
theorem dX3_slopeOf_156 : decode cX3_slopeOf 156 = .ok (.getfield 19, 3) := by decide +kernel
theorem dX3_slopeOf_159 : decode cX3_slopeOf 159 = .ok (.iload 4, 2) := by decide +kernel
theorem dX3_slopeOf_161 : decode cX3_slopeOf 161 = .ok (.invokestatic 45, 3) := by decide +kernel
theorem dX3_slopeOf_164 : decode cX3_slopeOf 164 = .ok (.iload 5, 2) := by decide +kernel
theorem dX3_slopeOf_166 : decode cX3_slopeOf 166 = .ok (.iconst 1, 1) := by decide +kernel
theorem dX3_slopeOf_167 : decode cX3_slopeOf 167 = .ok (.isub, 1) := by decide +kernel
theorem dX3_slopeOf_168 : decode cX3_slopeOf 168 = .ok (.invokestatic 75, 3) := by decide +kernel
theorem dX3_slopeOf_171 : decode cX3_slopeOf 171 = .ok (.lmul, 1) := by decide +kernel
theorem dX3_slopeOf_172 : decode cX3_slopeOf 172 = .ok (.aload_n 1, 1) := by decide +kernel
theorem dX3_slopeOf_173 : decode cX3_slopeOf 173 = .ok (.iload 4, 2) := by decide +kernel
theorem dX3_slopeOf_175 : decode cX3_slopeOf 175 = .ok (.invokestatic 45, 3) := by decide +kernel
theorem dX3_slopeOf_178 : decode cX3_slopeOf 178 = .ok (.lmul, 1) := by decide +kernel
theorem dX3_slopeOf_179 : decode cX3_slopeOf 179 = .ok (.lreturn, 1) := by decide +kernel
theorem dX3_slopeOf_180 : decode cX3_slopeOf 180 = .ok (.aload_n 1, 1) := by decide +kernel
theorem dX3_slopeOf_181 : decode cX3_slopeOf 181 = .ok (.iload 4, 2) := by decide +kernel
theorem dX3_slopeOf_183 : decode cX3_slopeOf 183 = .ok (.invokestatic 45, 3) := by decide +kernel
theorem dX3_slopeOf_186 : decode cX3_slopeOf 186 = .ok (.lneg, 1) := by decide +kernel
theorem dX3_slopeOf_187 : decode cX3_slopeOf 187 = .ok (.lreturn, 1) := by decide +kernel
theorem dX3_slopeOf_188 : decode cX3_slopeOf 188 = .ok (.aload_n 1, 1) := by decide +kernel
theorem dX3_slopeOf_189 : decode cX3_slopeOf 189 = .ok (.iload 4, 2) := by decide +kernel
theorem dX3_slopeOf_191 : decode cX3_slopeOf 191 = .ok (.invokestatic 45, 3) := by decide +kernel
theorem dX3_slopeOf_194 : decode cX3_slopeOf 194 = .ok (.lreturn, 1) := by decide +kernel
theorem dX3_walkBend_0 : decode cX3_walkBend 0 = .ok (.iconst 0, 1) := by decide +kernel
theorem dX3_walkBend_1 : decode cX3_walkBend 1 = .ok (.istore_n 2, 1) := by decide +kernel
theorem dX3_walkBend_2 : decode cX3_walkBend 2 = .ok (.iload_n 2, 1) := by decide +kernel
theorem dX3_walkBend_3 : decode cX3_walkBend 3 = .ok (.iload_n 1, 1) := by decide +kernel
theorem dX3_walkBend_4 : decode cX3_walkBend 4 = .ok (.if_icmp .ge 26, 3) := by decide +kernel
theorem dX3_walkBend_7 : decode cX3_walkBend 7 = .ok (.iload_n 2, 1) := by decide +kernel
theorem dX3_walkBend_8 : decode cX3_walkBend 8 = .ok (.bipush 80, 2) := by decide +kernel
theorem dX3_walkBend_10 : decode cX3_walkBend 10 = .ok (.if_icmp .ge 20, 3) := by decide +kernel
theorem dX3_walkBend_13 : decode cX3_walkBend 13 = .ok (.aload_n 0, 1) := by decide +kernel
theorem dX3_walkBend_14 : decode cX3_walkBend 14 = .ok (.getfield 29, 3) := by decide +kernel
theorem dX3_walkBend_17 : decode cX3_walkBend 17 = .ok (.iload_n 2, 1) := by decide +kernel
theorem dX3_walkBend_18 : decode cX3_walkBend 18 = .ok (.aload_n 0, 1) := by decide +kernel
theorem dX3_walkBend_19 : decode cX3_walkBend 19 = .ok (.iload_n 2, 1) := by decide +kernel
theorem dX3_walkBend_20 : decode cX3_walkBend 20 = .ok (.invokevirtual 83, 3) := by decide +kernel
theorem dX3_walkBend_23 : decode cX3_walkBend 23 = .ok (.lastore, 1) := by decide +kernel
theorem dX3_walkBend_24 : decode cX3_walkBend 24 = .ok (.iinc 2 1, 3) := by decide +kernel
theorem dX3_walkBend_27 : decode cX3_walkBend 27 = .ok (.goto (-25), 3) := by decide +kernel
theorem dX3_walkBend_30 : decode cX3_walkBend 30 = .ok (.return_, 1) := by decide +kernel
theorem dX3_bendOf_0 : decode cX3_bendOf 0 = .ok (.aload_n 0, 1) := by decide +kernel
theorem dX3_bendOf_1 : decode cX3_bendOf 1 = .ok (.getfield 9, 3) := by decide +kernel
theorem dX3_bendOf_4 : decode cX3_bendOf 4 = .ok (.getfield 61, 3) := by decide +kernel
theorem dX3_bendOf_7 : decode cX3_bendOf 7 = .ok (.iload_n 1, 1) := by decide +kernel
theorem dX3_bendOf_8 : decode cX3_bendOf 8 = .ok (.iaload, 1) := by decide +kernel
theorem dX3_bendOf_9 : decode cX3_bendOf 9 = .ok (.istore_n 2, 1) := by decide +kernel
theorem dX3_bendOf_10 : decode cX3_bendOf 10 = .ok (.aload_n 0, 1) := by decide +kernel
theorem dX3_bendOf_11 : decode cX3_bendOf 11 = .ok (.getfield 9, 3) := by decide +kernel
theorem dX3_bendOf_14 : decode cX3_bendOf 14 = .ok (.getfield 65, 3) := by decide +kernel
theorem dX3_bendOf_17 : decode cX3_bendOf 17 = .ok (.iload_n 1, 1) := by decide +kernel
theorem dX3_bendOf_18 : decode cX3_bendOf 18 = .ok (.iaload, 1) := by decide +kernel
theorem dX3_bendOf_19 : decode cX3_bendOf 19 = .ok (.istore_n 3, 1) := by decide +kernel
theorem dX3_bendOf_20 : decode cX3_bendOf 20 = .ok (.aload_n 0, 1) := by decide +kernel
theorem dX3_bendOf_21 : decode cX3_bendOf 21 = .ok (.getfield 9, 3) := by decide +kernel
theorem dX3_bendOf_24 : decode cX3_bendOf 24 = .ok (.getfield 68, 3) := by decide +kernel
theorem dX3_bendOf_27 : decode cX3_bendOf 27 = .ok (.iload_n 1, 1) := by decide +kernel
theorem dX3_bendOf_28 : decode cX3_bendOf 28 = .ok (.iaload, 1) := by decide +kernel
theorem dX3_bendOf_29 : decode cX3_bendOf 29 = .ok (.tableswitch 234 0 7 #[47, 47, 234, 49, 67, 85, 157, 224], 47) := by decide +kernel
theorem dX3_bendOf_76 : decode cX3_bendOf 76 = .ok (.lconst 0, 1) := by decide +kernel
theorem dX3_bendOf_77 : decode cX3_bendOf 77 = .ok (.lreturn, 1) := by decide +kernel
theorem dX3_bendOf_78 : decode cX3_bendOf 78 = .ok (.aload_n 0, 1) := by decide +kernel
theorem dX3_bendOf_79 : decode cX3_bendOf 79 = .ok (.getfield 29, 3) := by decide +kernel
theorem dX3_bendOf_82 : decode cX3_bendOf 82 = .ok (.iload_n 2, 1) := by decide +kernel
theorem dX3_bendOf_83 : decode cX3_bendOf 83 = .ok (.invokestatic 45, 3) := by decide +kernel
theorem dX3_bendOf_86 : decode cX3_bendOf 86 = .ok (.aload_n 0, 1) := by decide +kernel
theorem dX3_bendOf_87 : decode cX3_bendOf 87 = .ok (.getfield 29, 3) := by decide +kernel
theorem dX3_bendOf_90 : decode cX3_bendOf 90 = .ok (.iload_n 3, 1) := by decide +kernel
theorem dX3_bendOf_91 : decode cX3_bendOf 91 = .ok (.invokestatic 45, 3) := by decide +kernel
theorem dX3_bendOf_94 : decode cX3_bendOf 94 = .ok (.ladd, 1) := by decide +kernel
theorem dX3_bendOf_95 : decode cX3_bendOf 95 = .ok (.lreturn, 1) := by decide +kernel
theorem dX3_bendOf_96 : decode cX3_bendOf 96 = .ok (.aload_n 0, 1) := by decide +kernel
theorem dX3_bendOf_97 : decode cX3_bendOf 97 = .ok (.getfield 29, 3) := by decide +kernel
theorem dX3_bendOf_100 : decode cX3_bendOf 100 = .ok (.iload_n 2, 1) := by decide +kernel
theorem dX3_bendOf_101 : decode cX3_bendOf 101 = .ok (.invokestatic 45, 3) := by decide +kernel
theorem dX3_bendOf_104 : decode cX3_bendOf 104 = .ok (.aload_n 0, 1) := by decide +kernel
theorem dX3_bendOf_105 : decode cX3_bendOf 105 = .ok (.getfield 29, 3) := by decide +kernel
theorem dX3_bendOf_108 : decode cX3_bendOf 108 = .ok (.iload_n 3, 1) := by decide +kernel
theorem dX3_bendOf_109 : decode cX3_bendOf 109 = .ok (.invokestatic 45, 3) := by decide +kernel
theorem dX3_bendOf_112 : decode cX3_bendOf 112 = .ok (.lsub, 1) := by decide +kernel
theorem dX3_bendOf_113 : decode cX3_bendOf 113 = .ok (.lreturn, 1) := by decide +kernel
theorem dX3_bendOf_114 : decode cX3_bendOf 114 = .ok (.aload_n 0, 1) := by decide +kernel
theorem dX3_bendOf_115 : decode cX3_bendOf 115 = .ok (.getfield 29, 3) := by decide +kernel
theorem dX3_bendOf_118 : decode cX3_bendOf 118 = .ok (.iload_n 2, 1) := by decide +kernel
theorem dX3_bendOf_119 : decode cX3_bendOf 119 = .ok (.invokestatic 45, 3) := by decide +kernel
theorem dX3_bendOf_122 : decode cX3_bendOf 122 = .ok (.aload_n 0, 1) := by decide +kernel
theorem dX3_bendOf_123 : decode cX3_bendOf 123 = .ok (.getfield 19, 3) := by decide +kernel
theorem dX3_bendOf_126 : decode cX3_bendOf 126 = .ok (.iload_n 3, 1) := by decide +kernel
theorem dX3_bendOf_127 : decode cX3_bendOf 127 = .ok (.invokestatic 45, 3) := by decide +kernel
theorem dX3_bendOf_130 : decode cX3_bendOf 130 = .ok (.lmul, 1) := by decide +kernel
theorem dX3_bendOf_131 : decode cX3_bendOf 131 = .ok (.aload_n 0, 1) := by decide +kernel
theorem dX3_bendOf_132 : decode cX3_bendOf 132 = .ok (.getfield 19, 3) := by decide +kernel
theorem dX3_bendOf_135 : decode cX3_bendOf 135 = .ok (.iload_n 2, 1) := by decide +kernel
theorem dX3_bendOf_136 : decode cX3_bendOf 136 = .ok (.invokestatic 45, 3) := by decide +kernel
theorem dX3_bendOf_139 : decode cX3_bendOf 139 = .ok (.aload_n 0, 1) := by decide +kernel
theorem dX3_bendOf_140 : decode cX3_bendOf 140 = .ok (.getfield 29, 3) := by decide +kernel
theorem dX3_bendOf_143 : decode cX3_bendOf 143 = .ok (.iload_n 3, 1) := by decide +kernel
theorem dX3_bendOf_144 : decode cX3_bendOf 144 = .ok (.invokestatic 45, 3) := by decide +kernel
theorem dX3_bendOf_147 : decode cX3_bendOf 147 = .ok (.lmul, 1) := by decide +kernel
theorem dX3_bendOf_148 : decode cX3_bendOf 148 = .ok (.ladd, 1) := by decide +kernel
theorem dX3_bendOf_149 : decode cX3_bendOf 149 = .ok (.aload_n 0, 1) := by decide +kernel
theorem dX3_bendOf_150 : decode cX3_bendOf 150 = .ok (.getfield 23, 3) := by decide +kernel
theorem dX3_bendOf_153 : decode cX3_bendOf 153 = .ok (.iload_n 2, 1) := by decide +kernel
theorem dX3_bendOf_154 : decode cX3_bendOf 154 = .ok (.invokestatic 45, 3) := by decide +kernel
theorem dX3_bendOf_157 : decode cX3_bendOf 157 = .ok (.aload_n 0, 1) := by decide +kernel
theorem dX3_bendOf_158 : decode cX3_bendOf 158 = .ok (.getfield 26, 3) := by decide +kernel
theorem dX3_bendOf_161 : decode cX3_bendOf 161 = .ok (.iload_n 3, 1) := by decide +kernel
theorem dX3_bendOf_162 : decode cX3_bendOf 162 = .ok (.invokestatic 45, 3) := by decide +kernel
theorem dX3_bendOf_165 : decode cX3_bendOf 165 = .ok (.lmul, 1) := by decide +kernel
theorem dX3_bendOf_166 : decode cX3_bendOf 166 = .ok (.ladd, 1) := by decide +kernel
theorem dX3_bendOf_167 : decode cX3_bendOf 167 = .ok (.aload_n 0, 1) := by decide +kernel
theorem dX3_bendOf_168 : decode cX3_bendOf 168 = .ok (.getfield 26, 3) := by decide +kernel
theorem dX3_bendOf_171 : decode cX3_bendOf 171 = .ok (.iload_n 2, 1) := by decide +kernel
theorem dX3_bendOf_172 : decode cX3_bendOf 172 = .ok (.invokestatic 45, 3) := by decide +kernel
theorem dX3_bendOf_175 : decode cX3_bendOf 175 = .ok (.aload_n 0, 1) := by decide +kernel
theorem dX3_bendOf_176 : decode cX3_bendOf 176 = .ok (.getfield 23, 3) := by decide +kernel
theorem dX3_bendOf_179 : decode cX3_bendOf 179 = .ok (.iload_n 3, 1) := by decide +kernel
theorem dX3_bendOf_180 : decode cX3_bendOf 180 = .ok (.invokestatic 45, 3) := by decide +kernel
theorem dX3_bendOf_183 : decode cX3_bendOf 183 = .ok (.lmul, 1) := by decide +kernel
theorem dX3_bendOf_184 : decode cX3_bendOf 184 = .ok (.ladd, 1) := by decide +kernel
theorem dX3_bendOf_185 : decode cX3_bendOf 185 = .ok (.lreturn, 1) := by decide +kernel
theorem dX3_bendOf_186 : decode cX3_bendOf 186 = .ok (.iload_n 3, 1) := by decide +kernel
theorem dX3_bendOf_187 : decode cX3_bendOf 187 = .ok (.i2l, 1) := by decide +kernel
theorem dX3_bendOf_188 : decode cX3_bendOf 188 = .ok (.aload_n 0, 1) := by decide +kernel
theorem dX3_bendOf_189 : decode cX3_bendOf 189 = .ok (.getfield 19, 3) := by decide +kernel
theorem dX3_bendOf_192 : decode cX3_bendOf 192 = .ok (.iload_n 2, 1) := by decide +kernel
theorem dX3_bendOf_193 : decode cX3_bendOf 193 = .ok (.invokestatic 45, 3) := by decide +kernel
theorem dX3_bendOf_196 : decode cX3_bendOf 196 = .ok (.iload_n 3, 1) := by decide +kernel
theorem dX3_bendOf_197 : decode cX3_bendOf 197 = .ok (.iconst 1, 1) := by decide +kernel
theorem dX3_bendOf_198 : decode cX3_bendOf 198 = .ok (.isub, 1) := by decide +kernel
theorem dX3_bendOf_199 : decode cX3_bendOf 199 = .ok (.invokestatic 75, 3) := by decide +kernel
theorem dX3_bendOf_202 : decode cX3_bendOf 202 = .ok (.lmul, 1) := by decide +kernel
theorem dX3_bendOf_203 : decode cX3_bendOf 203 = .ok (.aload_n 0, 1) := by decide +kernel
theorem dX3_bendOf_204 : decode cX3_bendOf 204 = .ok (.getfield 29, 3) := by decide +kernel
theorem dX3_bendOf_207 : decode cX3_bendOf 207 = .ok (.iload_n 2, 1) := by decide +kernel
theorem dX3_bendOf_208 : decode cX3_bendOf 208 = .ok (.invokestatic 45, 3) := by decide +kernel
theorem dX3_bendOf_211 : decode cX3_bendOf 211 = .ok (.lmul, 1) := by decide +kernel
theorem dX3_bendOf_212 : decode cX3_bendOf 212 = .ok (.iload_n 3, 1) := by decide +kernel
theorem dX3_bendOf_213 : decode cX3_bendOf 213 = .ok (.iload_n 3, 1) := by decide +kernel
theorem dX3_bendOf_214 : decode cX3_bendOf 214 = .ok (.iconst 1, 1) := by decide +kernel
theorem dX3_bendOf_215 : decode cX3_bendOf 215 = .ok (.isub, 1) := by decide +kernel
theorem dX3_bendOf_216 : decode cX3_bendOf 216 = .ok (.imul, 1) := by decide +kernel
theorem dX3_bendOf_217 : decode cX3_bendOf 217 = .ok (.i2l, 1) := by decide +kernel
theorem dX3_bendOf_218 : decode cX3_bendOf 218 = .ok (.aload_n 0, 1) := by decide +kernel
theorem dX3_bendOf_219 : decode cX3_bendOf 219 = .ok (.getfield 19, 3) := by decide +kernel
theorem dX3_bendOf_222 : decode cX3_bendOf 222 = .ok (.iload_n 2, 1) := by decide +kernel
theorem dX3_bendOf_223 : decode cX3_bendOf 223 = .ok (.invokestatic 45, 3) := by decide +kernel
theorem dX3_bendOf_226 : decode cX3_bendOf 226 = .ok (.iload_n 3, 1) := by decide +kernel
theorem dX3_bendOf_227 : decode cX3_bendOf 227 = .ok (.iconst 2, 1) := by decide +kernel
theorem dX3_bendOf_228 : decode cX3_bendOf 228 = .ok (.isub, 1) := by decide +kernel
theorem dX3_bendOf_229 : decode cX3_bendOf 229 = .ok (.invokestatic 75, 3) := by decide +kernel
theorem dX3_bendOf_232 : decode cX3_bendOf 232 = .ok (.lmul, 1) := by decide +kernel
theorem dX3_bendOf_233 : decode cX3_bendOf 233 = .ok (.aload_n 0, 1) := by decide +kernel
theorem dX3_bendOf_234 : decode cX3_bendOf 234 = .ok (.getfield 23, 3) := by decide +kernel
theorem dX3_bendOf_237 : decode cX3_bendOf 237 = .ok (.iload_n 2, 1) := by decide +kernel
theorem dX3_bendOf_238 : decode cX3_bendOf 238 = .ok (.invokestatic 45, 3) := by decide +kernel
theorem dX3_bendOf_241 : decode cX3_bendOf 241 = .ok (.lmul, 1) := by decide +kernel
theorem dX3_bendOf_242 : decode cX3_bendOf 242 = .ok (.aload_n 0, 1) := by decide +kernel
theorem dX3_bendOf_243 : decode cX3_bendOf 243 = .ok (.getfield 26, 3) := by decide +kernel
theorem dX3_bendOf_246 : decode cX3_bendOf 246 = .ok (.iload_n 2, 1) := by decide +kernel
theorem dX3_bendOf_247 : decode cX3_bendOf 247 = .ok (.invokestatic 45, 3) := by decide +kernel
theorem dX3_bendOf_250 : decode cX3_bendOf 250 = .ok (.lmul, 1) := by decide +kernel
theorem dX3_bendOf_251 : decode cX3_bendOf 251 = .ok (.ladd, 1) := by decide +kernel
theorem dX3_bendOf_252 : decode cX3_bendOf 252 = .ok (.lreturn, 1) := by decide +kernel
theorem dX3_bendOf_253 : decode cX3_bendOf 253 = .ok (.aload_n 0, 1) := by decide +kernel
theorem dX3_bendOf_254 : decode cX3_bendOf 254 = .ok (.getfield 29, 3) := by decide +kernel
theorem dX3_bendOf_257 : decode cX3_bendOf 257 = .ok (.iload_n 2, 1) := by decide +kernel
theorem dX3_bendOf_258 : decode cX3_bendOf 258 = .ok (.invokestatic 45, 3) := by decide +kernel
theorem dX3_bendOf_261 : decode cX3_bendOf 261 = .ok (.lneg, 1) := by decide +kernel
theorem dX3_bendOf_262 : decode cX3_bendOf 262 = .ok (.lreturn, 1) := by decide +kernel
theorem dX3_bendOf_263 : decode cX3_bendOf 263 = .ok (.aload_n 0, 1) := by decide +kernel
theorem dX3_bendOf_264 : decode cX3_bendOf 264 = .ok (.getfield 29, 3) := by decide +kernel
theorem dX3_bendOf_267 : decode cX3_bendOf 267 = .ok (.iload_n 2, 1) := by decide +kernel
theorem dX3_bendOf_268 : decode cX3_bendOf 268 = .ok (.invokestatic 45, 3) := by decide +kernel
theorem dX3_bendOf_271 : decode cX3_bendOf 271 = .ok (.lreturn, 1) := by decide +kernel
theorem dX3_power_0 : decode cX3_power 0 = .ok (.lconst 1, 1) := by decide +kernel
theorem dX3_power_1 : decode cX3_power 1 = .ok (.lstore_n 3, 1) := by decide +kernel
theorem dX3_power_2 : decode cX3_power 2 = .ok (.iconst 0, 1) := by decide +kernel
theorem dX3_power_3 : decode cX3_power 3 = .ok (.istore 5, 2) := by decide +kernel
theorem dX3_power_5 : decode cX3_power 5 = .ok (.iload 5, 2) := by decide +kernel
theorem dX3_power_7 : decode cX3_power 7 = .ok (.iload_n 2, 1) := by decide +kernel
theorem dX3_power_8 : decode cX3_power 8 = .ok (.if_icmp .ge 19, 3) := by decide +kernel
theorem dX3_power_11 : decode cX3_power 11 = .ok (.iload 5, 2) := by decide +kernel
theorem dX3_power_13 : decode cX3_power 13 = .ok (.iconst 4, 1) := by decide +kernel
theorem dX3_power_14 : decode cX3_power 14 = .ok (.if_icmp .ge 13, 3) := by decide +kernel
theorem dX3_power_17 : decode cX3_power 17 = .ok (.lload_n 3, 1) := by decide +kernel
theorem dX3_power_18 : decode cX3_power 18 = .ok (.lload_n 0, 1) := by decide +kernel
theorem dX3_power_19 : decode cX3_power 19 = .ok (.lmul, 1) := by decide +kernel
theorem dX3_power_20 : decode cX3_power 20 = .ok (.lstore_n 3, 1) := by decide +kernel
theorem dX3_power_21 : decode cX3_power 21 = .ok (.iinc 5 1, 3) := by decide +kernel
theorem dX3_power_24 : decode cX3_power 24 = .ok (.goto (-19), 3) := by decide +kernel
theorem dX3_power_27 : decode cX3_power 27 = .ok (.lload_n 3, 1) := by decide +kernel
theorem dX3_power_28 : decode cX3_power 28 = .ok (.lreturn, 1) := by decide +kernel
theorem dX3_at_0 : decode cX3_at 0 = .ok (.iload_n 1, 1) := by decide +kernel
theorem dX3_at_1 : decode cX3_at 1 = .ok (.ifCond .lt 15, 3) := by decide +kernel
theorem dX3_at_4 : decode cX3_at 4 = .ok (.iload_n 1, 1) := by decide +kernel
theorem dX3_at_5 : decode cX3_at 5 = .ok (.aload_n 0, 1) := by decide +kernel
theorem dX3_at_6 : decode cX3_at 6 = .ok (.arraylength, 1) := by decide +kernel
theorem dX3_at_7 : decode cX3_at 7 = .ok (.if_icmp .ge 9, 3) := by decide +kernel
theorem dX3_at_10 : decode cX3_at 10 = .ok (.aload_n 0, 1) := by decide +kernel
theorem dX3_at_11 : decode cX3_at 11 = .ok (.iload_n 1, 1) := by decide +kernel
theorem dX3_at_12 : decode cX3_at 12 = .ok (.laload, 1) := by decide +kernel
theorem dX3_at_13 : decode cX3_at 13 = .ok (.goto 4, 3) := by decide +kernel
theorem dX3_at_16 : decode cX3_at 16 = .ok (.lconst 0, 1) := by decide +kernel
theorem dX3_at_17 : decode cX3_at 17 = .ok (.lreturn, 1) := by decide +kernel
theorem dX5_init_0 : decode cX5_init 0 = .ok (.aload_n 0, 1) := by decide +kernel
theorem dX5_init_1 : decode cX5_init 1 = .ok (.invokespecial 3, 3) := by decide +kernel
theorem dX5_init_4 : decode cX5_init 4 = .ok (.aload_n 0, 1) := by decide +kernel
theorem dX5_init_5 : decode cX5_init 5 = .ok (.new 9, 3) := by decide +kernel
theorem dX5_init_8 : decode cX5_init 8 = .ok (.dup, 1) := by decide +kernel
theorem dX5_init_9 : decode cX5_init 9 = .ok (.invokespecial 11, 3) := by decide +kernel
theorem dX5_init_12 : decode cX5_init 12 = .ok (.putfield 12, 3) := by decide +kernel
theorem dX5_init_15 : decode cX5_init 15 = .ok (.aload_n 0, 1) := by decide +kernel
theorem dX5_init_16 : decode cX5_init 16 = .ok (.new 16, 3) := by decide +kernel
theorem dX5_init_19 : decode cX5_init 19 = .ok (.dup, 1) := by decide +kernel
theorem dX5_init_20 : decode cX5_init 20 = .ok (.invokespecial 18, 3) := by decide +kernel
theorem dX5_init_23 : decode cX5_init 23 = .ok (.putfield 19, 3) := by decide +kernel
theorem dX5_init_26 : decode cX5_init 26 = .ok (.aload_n 0, 1) := by decide +kernel
theorem dX5_init_27 : decode cX5_init 27 = .ok (.new 23, 3) := by decide +kernel
theorem dX5_init_30 : decode cX5_init 30 = .ok (.dup, 1) := by decide +kernel
theorem dX5_init_31 : decode cX5_init 31 = .ok (.invokespecial 25, 3) := by decide +kernel
theorem dX5_init_34 : decode cX5_init 34 = .ok (.putfield 26, 3) := by decide +kernel
theorem dX5_init_37 : decode cX5_init 37 = .ok (.aload_n 0, 1) := by decide +kernel
theorem dX5_init_38 : decode cX5_init 38 = .ok (.new 30, 3) := by decide +kernel
theorem dX5_init_41 : decode cX5_init 41 = .ok (.dup, 1) := by decide +kernel
theorem dX5_init_42 : decode cX5_init 42 = .ok (.invokespecial 32, 3) := by decide +kernel
theorem dX5_init_45 : decode cX5_init 45 = .ok (.putfield 33, 3) := by decide +kernel
theorem dX5_init_48 : decode cX5_init 48 = .ok (.aload_n 0, 1) := by decide +kernel
theorem dX5_init_49 : decode cX5_init 49 = .ok (.new 37, 3) := by decide +kernel
theorem dX5_init_52 : decode cX5_init 52 = .ok (.dup, 1) := by decide +kernel
theorem dX5_init_53 : decode cX5_init 53 = .ok (.aload_n 0, 1) := by decide +kernel
theorem dX5_init_54 : decode cX5_init 54 = .ok (.getfield 19, 3) := by decide +kernel
theorem dX5_init_57 : decode cX5_init 57 = .ok (.aload_n 0, 1) := by decide +kernel
theorem dX5_init_58 : decode cX5_init 58 = .ok (.getfield 12, 3) := by decide +kernel
theorem dX5_init_61 : decode cX5_init 61 = .ok (.invokespecial 39, 3) := by decide +kernel
theorem dX5_init_64 : decode cX5_init 64 = .ok (.putfield 42, 3) := by decide +kernel
theorem dX5_init_67 : decode cX5_init 67 = .ok (.aload_n 0, 1) := by decide +kernel
theorem dX5_init_68 : decode cX5_init 68 = .ok (.new 9, 3) := by decide +kernel
theorem dX5_init_71 : decode cX5_init 71 = .ok (.dup, 1) := by decide +kernel
theorem dX5_init_72 : decode cX5_init 72 = .ok (.invokespecial 11, 3) := by decide +kernel
theorem dX5_init_75 : decode cX5_init 75 = .ok (.putfield 46, 3) := by decide +kernel
theorem dX5_init_78 : decode cX5_init 78 = .ok (.aload_n 0, 1) := by decide +kernel
theorem dX5_init_79 : decode cX5_init 79 = .ok (.new 9, 3) := by decide +kernel
theorem dX5_init_82 : decode cX5_init 82 = .ok (.dup, 1) := by decide +kernel
theorem dX5_init_83 : decode cX5_init 83 = .ok (.invokespecial 11, 3) := by decide +kernel
theorem dX5_init_86 : decode cX5_init 86 = .ok (.putfield 49, 3) := by decide +kernel
theorem dX5_init_89 : decode cX5_init 89 = .ok (.aload_n 0, 1) := by decide +kernel
theorem dX5_init_90 : decode cX5_init 90 = .ok (.bipush 6, 2) := by decide +kernel
theorem dX5_init_92 : decode cX5_init 92 = .ok (.newarray .int, 2) := by decide +kernel
theorem dX5_init_94 : decode cX5_init 94 = .ok (.putfield 52, 3) := by decide +kernel
theorem dX5_init_97 : decode cX5_init 97 = .ok (.aload_n 0, 1) := by decide +kernel
theorem dX5_init_98 : decode cX5_init 98 = .ok (.bipush 6, 2) := by decide +kernel
theorem dX5_init_100 : decode cX5_init 100 = .ok (.newarray .long, 2) := by decide +kernel
theorem dX5_init_102 : decode cX5_init 102 = .ok (.putfield 56, 3) := by decide +kernel
theorem dX5_init_105 : decode cX5_init 105 = .ok (.aload_n 0, 1) := by decide +kernel
theorem dX5_init_106 : decode cX5_init 106 = .ok (.bipush 6, 2) := by decide +kernel
theorem dX5_init_108 : decode cX5_init 108 = .ok (.newarray .long, 2) := by decide +kernel
theorem dX5_init_110 : decode cX5_init 110 = .ok (.putfield 60, 3) := by decide +kernel
theorem dX5_init_113 : decode cX5_init 113 = .ok (.aload_n 0, 1) := by decide +kernel
theorem dX5_init_114 : decode cX5_init 114 = .ok (.bipush 6, 2) := by decide +kernel
theorem dX5_init_116 : decode cX5_init 116 = .ok (.newarray .long, 2) := by decide +kernel
theorem dX5_init_118 : decode cX5_init 118 = .ok (.putfield 63, 3) := by decide +kernel
theorem dX5_init_121 : decode cX5_init 121 = .ok (.return_, 1) := by decide +kernel
theorem dX5_type_0 : decode cX5_type 0 = .ok (.iload_n 1, 1) := by decide +kernel
theorem dX5_type_1 : decode cX5_type 1 = .ok (.ifCond .lt 10, 3) := by decide +kernel
theorem dX5_type_4 : decode cX5_type 4 = .ok (.iload_n 1, 1) := by decide +kernel
theorem dX5_type_5 : decode cX5_type 5 = .ok (.sipush 255, 3) := by decide +kernel
theorem dX5_type_8 : decode cX5_type 8 = .ok (.if_icmp .le 5, 3) := by decide +kernel
theorem dX5_type_11 : decode cX5_type 11 = .ok (.iconst (-1), 1) := by decide +kernel
theorem dX5_type_12 : decode cX5_type 12 = .ok (.ireturn, 1) := by decide +kernel
theorem dX5_type_13 : decode cX5_type 13 = .ok (.aload_n 0, 1) := by decide +kernel
theorem dX5_type_14 : decode cX5_type 14 = .ok (.getfield 26, 3) := by decide +kernel
theorem dX5_type_17 : decode cX5_type 17 = .ok (.iload_n 1, 1) := by decide +kernel
theorem dX5_type_18 : decode cX5_type 18 = .ok (.invokevirtual 66, 3) := by decide +kernel
theorem dX5_type_21 : decode cX5_type 21 = .ok (.ifCond .eq 13, 3) := by decide +kernel
theorem dX5_type_24 : decode cX5_type 24 = .ok (.aload_n 0, 1) := by decide +kernel
theorem dX5_type_25 : decode cX5_type 25 = .ok (.getfield 26, 3) := by decide +kernel
theorem dX5_type_28 : decode cX5_type 28 = .ok (.invokevirtual 70, 3) := by decide +kernel
theorem dX5_type_31 : decode cX5_type 31 = .ok (.goto 5, 3) := by decide +kernel
theorem dX5_type_34 : decode cX5_type 34 = .ok (.bipush (-3), 2) := by decide +kernel
theorem dX5_type_36 : decode cX5_type 36 = .ok (.ireturn, 1) := by decide +kernel
theorem dX5_clear_0 : decode cX5_clear 0 = .ok (.aload_n 0, 1) := by decide +kernel
theorem dX5_clear_1 : decode cX5_clear 1 = .ok (.getfield 26, 3) := by decide +kernel
theorem dX5_clear_4 : decode cX5_clear 4 = .ok (.invokevirtual 70, 3) := by decide +kernel
theorem dX5_clear_7 : decode cX5_clear 7 = .ok (.istore_n 1, 1) := by decide +kernel
theorem dX5_clear_8 : decode cX5_clear 8 = .ok (.aload_n 0, 1) := by decide +kernel
theorem dX5_clear_9 : decode cX5_clear 9 = .ok (.getfield 26, 3) := by decide +kernel
theorem dX5_clear_12 : decode cX5_clear 12 = .ok (.invokevirtual 74, 3) := by decide +kernel
theorem dX5_clear_15 : decode cX5_clear 15 = .ok (.iload_n 1, 1) := by decide +kernel
theorem dX5_clear_16 : decode cX5_clear 16 = .ok (.ireturn, 1) := by decide +kernel
theorem dX5_desk_0 : decode cX5_desk 0 = .ok (.aload_n 0, 1) := by decide +kernel
theorem dX5_desk_1 : decode cX5_desk 1 = .ok (.getfield 26, 3) := by decide +kernel
theorem dX5_desk_4 : decode cX5_desk 4 = .ok (.invokevirtual 77, 3) := by decide +kernel
theorem dX5_desk_7 : decode cX5_desk 7 = .ok (.istore_n 1, 1) := by decide +kernel
theorem dX5_desk_8 : decode cX5_desk 8 = .ok (.iload_n 1, 1) := by decide +kernel
theorem dX5_desk_9 : decode cX5_desk 9 = .ok (.ifCond .ge 5, 3) := by decide +kernel
theorem dX5_desk_12 : decode cX5_desk 12 = .ok (.iload_n 1, 1) := by decide +kernel
theorem dX5_desk_13 : decode cX5_desk 13 = .ok (.ireturn, 1) := by decide +kernel
theorem dX5_desk_14 : decode cX5_desk 14 = .ok (.aload_n 0, 1) := by decide +kernel
theorem dX5_desk_15 : decode cX5_desk 15 = .ok (.getfield 12, 3) := by decide +kernel
theorem dX5_desk_18 : decode cX5_desk 18 = .ok (.aload_n 0, 1) := by decide +kernel
theorem dX5_desk_19 : decode cX5_desk 19 = .ok (.getfield 26, 3) := by decide +kernel
theorem dX5_desk_22 : decode cX5_desk 22 = .ok (.getfield 80, 3) := by decide +kernel
theorem dX5_desk_25 : decode cX5_desk 25 = .ok (.invokevirtual 81, 3) := by decide +kernel
theorem dX5_desk_28 : decode cX5_desk 28 = .ok (.aload_n 0, 1) := by decide +kernel
theorem dX5_desk_29 : decode cX5_desk 29 = .ok (.getfield 19, 3) := by decide +kernel
theorem dX5_desk_32 : decode cX5_desk 32 = .ok (.aload_n 0, 1) := by decide +kernel
theorem dX5_desk_33 : decode cX5_desk 33 = .ok (.getfield 26, 3) := by decide +kernel
theorem dX5_desk_36 : decode cX5_desk 36 = .ok (.getfield 85, 3) := by decide +kernel
theorem dX5_desk_39 : decode cX5_desk 39 = .ok (.invokevirtual 86, 3) := by decide +kernel
theorem dX5_desk_42 : decode cX5_desk 42 = .ok (.aload_n 0, 1) := by decide +kernel
theorem dX5_desk_43 : decode cX5_desk 43 = .ok (.getfield 26, 3) := by decide +kernel
theorem dX5_desk_46 : decode cX5_desk 46 = .ok (.invokevirtual 74, 3) := by decide +kernel
theorem dX5_desk_49 : decode cX5_desk 49 = .ok (.aload_n 0, 1) := by decide +kernel
theorem dX5_desk_50 : decode cX5_desk 50 = .ok (.getfield 33, 3) := by decide +kernel
theorem dX5_desk_53 : decode cX5_desk 53 = .ok (.invokevirtual 89, 3) := by decide +kernel
theorem dX5_desk_56 : decode cX5_desk 56 = .ok (.aload_n 0, 1) := by decide +kernel
theorem dX5_desk_57 : decode cX5_desk 57 = .ok (.iconst 0, 1) := by decide +kernel
theorem dX5_desk_58 : decode cX5_desk 58 = .ok (.putfield 92, 3) := by decide +kernel
theorem dX5_desk_61 : decode cX5_desk 61 = .ok (.aload_n 0, 1) := by decide +kernel
theorem dX5_desk_62 : decode cX5_desk 62 = .ok (.iconst 0, 1) := by decide +kernel
theorem dX5_desk_63 : decode cX5_desk 63 = .ok (.putfield 96, 3) := by decide +kernel
theorem dX5_desk_66 : decode cX5_desk 66 = .ok (.aload_n 0, 1) := by decide +kernel
theorem dX5_desk_67 : decode cX5_desk 67 = .ok (.iconst 0, 1) := by decide +kernel
theorem dX5_desk_68 : decode cX5_desk 68 = .ok (.putfield 100, 3) := by decide +kernel
theorem dX5_desk_71 : decode cX5_desk 71 = .ok (.iload_n 1, 1) := by decide +kernel
theorem dX5_desk_72 : decode cX5_desk 72 = .ok (.ireturn, 1) := by decide +kernel
theorem dX5_source_0 : decode cX5_source 0 = .ok (.iload_n 1, 1) := by decide +kernel
theorem dX5_source_1 : decode cX5_source 1 = .ok (.invokestatic 103, 3) := by decide +kernel
theorem dX5_source_4 : decode cX5_source 4 = .ok (.ifCond .eq 12, 3) := by decide +kernel
theorem dX5_source_7 : decode cX5_source 7 = .ok (.iload_n 2, 1) := by decide +kernel
theorem dX5_source_8 : decode cX5_source 8 = .ok (.ifCond .lt 8, 3) := by decide +kernel
theorem dX5_source_11 : decode cX5_source 11 = .ok (.iload_n 2, 1) := by decide +kernel
theorem dX5_source_12 : decode cX5_source 12 = .ok (.iconst 1, 1) := by decide +kernel
theorem dX5_source_13 : decode cX5_source 13 = .ok (.if_icmp .le 7, 3) := by decide +kernel
theorem dX5_source_16 : decode cX5_source 16 = .ok (.ldc2_w 106, 3) := by decide +kernel
theorem dX5_source_19 : decode cX5_source 19 = .ok (.lreturn, 1) := by decide +kernel
theorem dX5_source_20 : decode cX5_source 20 = .ok (.iload_n 2, 1) := by decide +kernel
theorem dX5_source_21 : decode cX5_source 21 = .ok (.ifCond .ne 15, 3) := by decide +kernel
theorem dX5_source_24 : decode cX5_source 24 = .ok (.aload_n 0, 1) := by decide +kernel
theorem dX5_source_25 : decode cX5_source 25 = .ok (.getfield 12, 3) := by decide +kernel
theorem dX5_source_28 : decode cX5_source 28 = .ok (.iload_n 1, 1) := by decide +kernel
theorem dX5_source_29 : decode cX5_source 29 = .ok (.invokevirtual 108, 3) := by decide +kernel
theorem dX5_source_32 : decode cX5_source 32 = .ok (.i2l, 1) := by decide +kernel
theorem dX5_source_33 : decode cX5_source 33 = .ok (.goto 13, 3) := by decide +kernel
theorem dX5_source_36 : decode cX5_source 36 = .ok (.aload_n 0, 1) := by decide +kernel
theorem dX5_source_37 : decode cX5_source 37 = .ok (.getfield 12, 3) := by decide +kernel
theorem dX5_source_40 : decode cX5_source 40 = .ok (.iload_n 1, 1) := by decide +kernel
theorem dX5_source_41 : decode cX5_source 41 = .ok (.iload_n 1, 1) := by decide +kernel
theorem dX5_source_42 : decode cX5_source 42 = .ok (.invokevirtual 112, 3) := by decide +kernel
theorem dX5_source_45 : decode cX5_source 45 = .ok (.i2l, 1) := by decide +kernel
theorem dX5_source_46 : decode cX5_source 46 = .ok (.lreturn, 1) := by decide +kernel
theorem dX5_joint_0 : decode cX5_joint 0 = .ok (.iload_n 1, 1) := by decide +kernel
theorem dX5_joint_1 : decode cX5_joint 1 = .ok (.invokestatic 103, 3) := by decide +kernel
theorem dX5_joint_4 : decode cX5_joint 4 = .ok (.ifCond .eq 23, 3) := by decide +kernel
theorem dX5_joint_7 : decode cX5_joint 7 = .ok (.iload_n 2, 1) := by decide +kernel
theorem dX5_joint_8 : decode cX5_joint 8 = .ok (.invokestatic 103, 3) := by decide +kernel
theorem dX5_joint_11 : decode cX5_joint 11 = .ok (.ifCond .eq 16, 3) := by decide +kernel
theorem dX5_joint_14 : decode cX5_joint 14 = .ok (.aload_n 0, 1) := by decide +kernel
theorem dX5_joint_15 : decode cX5_joint 15 = .ok (.getfield 12, 3) := by decide +kernel
theorem dX5_joint_18 : decode cX5_joint 18 = .ok (.iload_n 1, 1) := by decide +kernel
theorem dX5_joint_19 : decode cX5_joint 19 = .ok (.iload_n 2, 1) := by decide +kernel
theorem dX5_joint_20 : decode cX5_joint 20 = .ok (.invokevirtual 112, 3) := by decide +kernel
theorem dX5_joint_23 : decode cX5_joint 23 = .ok (.i2l, 1) := by decide +kernel
theorem dX5_joint_24 : decode cX5_joint 24 = .ok (.goto 6, 3) := by decide +kernel
theorem dX5_joint_27 : decode cX5_joint 27 = .ok (.ldc2_w 106, 3) := by decide +kernel
theorem dX5_joint_30 : decode cX5_joint 30 = .ok (.lreturn, 1) := by decide +kernel
theorem dX5_values_0 : decode cX5_values 0 = .ok (.iload_n 1, 1) := by decide +kernel
theorem dX5_values_1 : decode cX5_values 1 = .ok (.invokestatic 103, 3) := by decide +kernel
theorem dX5_values_4 : decode cX5_values 4 = .ok (.ifCond .eq 15, 3) := by decide +kernel
theorem dX5_values_7 : decode cX5_values 7 = .ok (.iload_n 2, 1) := by decide +kernel
theorem dX5_values_8 : decode cX5_values 8 = .ok (.bipush (-99), 2) := by decide +kernel
theorem dX5_values_10 : decode cX5_values 10 = .ok (.if_icmp .lt 9, 3) := by decide +kernel
theorem dX5_values_13 : decode cX5_values 13 = .ok (.iload_n 2, 1) := by decide +kernel
theorem dX5_values_14 : decode cX5_values 14 = .ok (.bipush 99, 2) := by decide +kernel
theorem dX5_values_16 : decode cX5_values 16 = .ok (.if_icmp .le 5, 3) := by decide +kernel
theorem dX5_values_19 : decode cX5_values 19 = .ok (.iconst (-1), 1) := by decide +kernel
theorem dX5_values_20 : decode cX5_values 20 = .ok (.ireturn, 1) := by decide +kernel
theorem dX5_values_21 : decode cX5_values 21 = .ok (.aload_n 0, 1) := by decide +kernel
theorem dX5_values_22 : decode cX5_values 22 = .ok (.getfield 12, 3) := by decide +kernel
theorem dX5_values_25 : decode cX5_values 25 = .ok (.iload_n 1, 1) := by decide +kernel
theorem dX5_values_26 : decode cX5_values 26 = .ok (.invokevirtual 108, 3) := by decide +kernel
theorem dX5_values_29 : decode cX5_values 29 = .ok (.istore_n 3, 1) := by decide +kernel
theorem dX5_values_30 : decode cX5_values 30 = .ok (.iload_n 3, 1) := by decide +kernel
theorem dX5_values_31 : decode cX5_values 31 = .ok (.iload_n 2, 1) := by decide +kernel
theorem dX5_values_32 : decode cX5_values 32 = .ok (.if_icmp .ne 6, 3) := by decide +kernel
theorem dX5_values_35 : decode cX5_values 35 = .ok (.bipush (-2), 2) := by decide +kernel
theorem dX5_values_37 : decode cX5_values 37 = .ok (.ireturn, 1) := by decide +kernel
theorem dX5_values_38 : decode cX5_values 38 = .ok (.aload_n 0, 1) := by decide +kernel
theorem dX5_values_39 : decode cX5_values 39 = .ok (.getfield 33, 3) := by decide +kernel
theorem dX5_values_42 : decode cX5_values 42 = .ok (.iload_n 1, 1) := by decide +kernel
theorem dX5_values_43 : decode cX5_values 43 = .ok (.iconst (-1), 1) := by decide +kernel
theorem dX5_values_44 : decode cX5_values 44 = .ok (.iload_n 3, 1) := by decide +kernel
theorem dX5_values_45 : decode cX5_values 45 = .ok (.invokevirtual 116, 3) := by decide +kernel
theorem dX5_values_48 : decode cX5_values 48 = .ok (.aload_n 0, 1) := by decide +kernel
theorem dX5_values_49 : decode cX5_values 49 = .ok (.getfield 12, 3) := by decide +kernel
theorem dX5_values_52 : decode cX5_values 52 = .ok (.iload_n 1, 1) := by decide +kernel
theorem dX5_values_53 : decode cX5_values 53 = .ok (.iload_n 2, 1) := by decide +kernel
theorem dX5_values_54 : decode cX5_values 54 = .ok (.invokevirtual 119, 3) := by decide +kernel
theorem dX5_values_57 : decode cX5_values 57 = .ok (.iconst 1, 1) := by decide +kernel
theorem dX5_values_58 : decode cX5_values 58 = .ok (.ireturn, 1) := by decide +kernel
theorem dX5_spreads_0 : decode cX5_spreads 0 = .ok (.iload_n 1, 1) := by decide +kernel
theorem dX5_spreads_1 : decode cX5_spreads 1 = .ok (.invokestatic 103, 3) := by decide +kernel
theorem dX5_spreads_4 : decode cX5_spreads 4 = .ok (.ifCond .eq 13, 3) := by decide +kernel
theorem dX5_spreads_7 : decode cX5_spreads 7 = .ok (.iload_n 2, 1) := by decide +kernel
theorem dX5_spreads_8 : decode cX5_spreads 8 = .ok (.ifCond .lt 9, 3) := by decide +kernel
theorem dX5_spreads_11 : decode cX5_spreads 11 = .ok (.iload_n 2, 1) := by decide +kernel
theorem dX5_spreads_12 : decode cX5_spreads 12 = .ok (.bipush 99, 2) := by decide +kernel
theorem dX5_spreads_14 : decode cX5_spreads 14 = .ok (.if_icmp .le 5, 3) := by decide +kernel
theorem dX5_spreads_17 : decode cX5_spreads 17 = .ok (.iconst (-1), 1) := by decide +kernel
theorem dX5_spreads_18 : decode cX5_spreads 18 = .ok (.ireturn, 1) := by decide +kernel
theorem dX5_spreads_19 : decode cX5_spreads 19 = .ok (.aload_n 0, 1) := by decide +kernel
theorem dX5_spreads_20 : decode cX5_spreads 20 = .ok (.getfield 12, 3) := by decide +kernel
theorem dX5_spreads_23 : decode cX5_spreads 23 = .ok (.iload_n 1, 1) := by decide +kernel
theorem dX5_spreads_24 : decode cX5_spreads 24 = .ok (.iload_n 1, 1) := by decide +kernel
theorem dX5_spreads_25 : decode cX5_spreads 25 = .ok (.invokevirtual 112, 3) := by decide +kernel
theorem dX5_spreads_28 : decode cX5_spreads 28 = .ok (.istore_n 3, 1) := by decide +kernel
theorem dX5_spreads_29 : decode cX5_spreads 29 = .ok (.aload_n 0, 1) := by decide +kernel
theorem dX5_spreads_30 : decode cX5_spreads 30 = .ok (.getfield 33, 3) := by decide +kernel
theorem dX5_spreads_33 : decode cX5_spreads 33 = .ok (.iload_n 1, 1) := by decide +kernel
theorem dX5_spreads_34 : decode cX5_spreads 34 = .ok (.iload_n 1, 1) := by decide +kernel
theorem dX5_spreads_35 : decode cX5_spreads 35 = .ok (.iload_n 3, 1) := by decide +kernel
theorem dX5_spreads_36 : decode cX5_spreads 36 = .ok (.invokevirtual 116, 3) := by decide +kernel
theorem dX5_spreads_39 : decode cX5_spreads 39 = .ok (.aload_n 0, 1) := by decide +kernel
theorem dX5_spreads_40 : decode cX5_spreads 40 = .ok (.getfield 12, 3) := by decide +kernel
theorem dX5_spreads_43 : decode cX5_spreads 43 = .ok (.iload_n 1, 1) := by decide +kernel
theorem dX5_spreads_44 : decode cX5_spreads 44 = .ok (.iload_n 1, 1) := by decide +kernel
theorem dX5_spreads_45 : decode cX5_spreads 45 = .ok (.iload_n 2, 1) := by decide +kernel
theorem dX5_spreads_46 : decode cX5_spreads 46 = .ok (.invokevirtual 123, 3) := by decide +kernel
theorem dX5_spreads_49 : decode cX5_spreads 49 = .ok (.iload_n 3, 1) := by decide +kernel
theorem dX5_spreads_50 : decode cX5_spreads 50 = .ok (.ireturn, 1) := by decide +kernel
theorem dX5_joints_0 : decode cX5_joints 0 = .ok (.iload_n 1, 1) := by decide +kernel
theorem dX5_joints_1 : decode cX5_joints 1 = .ok (.invokestatic 103, 3) := by decide +kernel
theorem dX5_joints_4 : decode cX5_joints 4 = .ok (.ifCond .eq 27, 3) := by decide +kernel
theorem dX5_joints_7 : decode cX5_joints 7 = .ok (.iload_n 2, 1) := by decide +kernel
theorem dX5_joints_8 : decode cX5_joints 8 = .ok (.invokestatic 103, 3) := by decide +kernel
theorem dX5_joints_11 : decode cX5_joints 11 = .ok (.ifCond .eq 20, 3) := by decide +kernel
theorem dX5_joints_14 : decode cX5_joints 14 = .ok (.iload_n 1, 1) := by decide +kernel
theorem dX5_joints_15 : decode cX5_joints 15 = .ok (.iload_n 2, 1) := by decide +kernel
theorem dX5_joints_16 : decode cX5_joints 16 = .ok (.if_icmp .eq 15, 3) := by decide +kernel
theorem dX5_joints_19 : decode cX5_joints 19 = .ok (.iload_n 3, 1) := by decide +kernel
theorem dX5_joints_20 : decode cX5_joints 20 = .ok (.bipush (-99), 2) := by decide +kernel
theorem dX5_joints_22 : decode cX5_joints 22 = .ok (.if_icmp .lt 9, 3) := by decide +kernel
theorem dX5_joints_25 : decode cX5_joints 25 = .ok (.iload_n 3, 1) := by decide +kernel
theorem dX5_joints_26 : decode cX5_joints 26 = .ok (.bipush 99, 2) := by decide +kernel
theorem dX5_joints_28 : decode cX5_joints 28 = .ok (.if_icmp .le 5, 3) := by decide +kernel
theorem dX5_joints_31 : decode cX5_joints 31 = .ok (.iconst (-1), 1) := by decide +kernel
theorem dX5_joints_32 : decode cX5_joints 32 = .ok (.ireturn, 1) := by decide +kernel
theorem dX5_joints_33 : decode cX5_joints 33 = .ok (.aload_n 0, 1) := by decide +kernel
theorem dX5_joints_34 : decode cX5_joints 34 = .ok (.getfield 12, 3) := by decide +kernel
theorem dX5_joints_37 : decode cX5_joints 37 = .ok (.iload_n 1, 1) := by decide +kernel
theorem dX5_joints_38 : decode cX5_joints 38 = .ok (.iload_n 2, 1) := by decide +kernel
theorem dX5_joints_39 : decode cX5_joints 39 = .ok (.invokevirtual 112, 3) := by decide +kernel
theorem dX5_joints_42 : decode cX5_joints 42 = .ok (.istore 4, 2) := by decide +kernel
theorem dX5_joints_44 : decode cX5_joints 44 = .ok (.iload 4, 2) := by decide +kernel
theorem dX5_joints_46 : decode cX5_joints 46 = .ok (.iload_n 3, 1) := by decide +kernel
theorem dX5_joints_47 : decode cX5_joints 47 = .ok (.if_icmp .ne 6, 3) := by decide +kernel
theorem dX5_joints_50 : decode cX5_joints 50 = .ok (.bipush (-2), 2) := by decide +kernel
theorem dX5_joints_52 : decode cX5_joints 52 = .ok (.ireturn, 1) := by decide +kernel
theorem dX5_joints_53 : decode cX5_joints 53 = .ok (.aload_n 0, 1) := by decide +kernel
theorem dX5_joints_54 : decode cX5_joints 54 = .ok (.getfield 33, 3) := by decide +kernel
theorem dX5_joints_57 : decode cX5_joints 57 = .ok (.iload_n 1, 1) := by decide +kernel
theorem dX5_joints_58 : decode cX5_joints 58 = .ok (.iload_n 2, 1) := by decide +kernel
theorem dX5_joints_59 : decode cX5_joints 59 = .ok (.iload 4, 2) := by decide +kernel
theorem dX5_joints_61 : decode cX5_joints 61 = .ok (.invokevirtual 116, 3) := by decide +kernel
theorem dX5_joints_64 : decode cX5_joints 64 = .ok (.aload_n 0, 1) := by decide +kernel
theorem dX5_joints_65 : decode cX5_joints 65 = .ok (.getfield 12, 3) := by decide +kernel
theorem dX5_joints_68 : decode cX5_joints 68 = .ok (.iload_n 1, 1) := by decide +kernel
theorem dX5_joints_69 : decode cX5_joints 69 = .ok (.iload_n 2, 1) := by decide +kernel
theorem dX5_joints_70 : decode cX5_joints 70 = .ok (.iload_n 3, 1) := by decide +kernel
theorem dX5_joints_71 : decode cX5_joints 71 = .ok (.invokevirtual 123, 3) := by decide +kernel
theorem dX5_joints_74 : decode cX5_joints 74 = .ok (.iconst 1, 1) := by decide +kernel
theorem dX5_joints_75 : decode cX5_joints 75 = .ok (.ireturn, 1) := by decide +kernel
theorem dX5_undo_0 : decode cX5_undo 0 = .ok (.aload_n 0, 1) := by decide +kernel
theorem dX5_undo_1 : decode cX5_undo 1 = .ok (.getfield 33, 3) := by decide +kernel
theorem dX5_undo_4 : decode cX5_undo 4 = .ok (.aload_n 0, 1) := by decide +kernel
theorem dX5_undo_5 : decode cX5_undo 5 = .ok (.getfield 12, 3) := by decide +kernel
theorem dX5_undo_8 : decode cX5_undo 8 = .ok (.invokevirtual 126, 3) := by decide +kernel
theorem dX5_undo_11 : decode cX5_undo 11 = .ok (.ifCond .eq 13, 3) := by decide +kernel
theorem dX5_undo_14 : decode cX5_undo 14 = .ok (.aload_n 0, 1) := by decide +kernel
theorem dX5_undo_15 : decode cX5_undo 15 = .ok (.getfield 33, 3) := by decide +kernel
theorem dX5_undo_18 : decode cX5_undo 18 = .ok (.invokevirtual 130, 3) := by decide +kernel
theorem dX5_undo_21 : decode cX5_undo 21 = .ok (.goto 5, 3) := by decide +kernel
theorem dX5_undo_24 : decode cX5_undo 24 = .ok (.bipush (-2), 2) := by decide +kernel
theorem dX5_undo_26 : decode cX5_undo 26 = .ok (.ireturn, 1) := by decide +kernel
theorem dX5_value_0 : decode cX5_value 0 = .ok (.aload_n 0, 1) := by decide +kernel
theorem dX5_value_1 : decode cX5_value 1 = .ok (.iload_n 1, 1) := by decide +kernel
theorem dX5_value_2 : decode cX5_value 2 = .ok (.invokevirtual 133, 3) := by decide +kernel
theorem dX5_value_5 : decode cX5_value 5 = .ok (.ifCond .eq 16, 3) := by decide +kernel
theorem dX5_value_8 : decode cX5_value 8 = .ok (.aload_n 0, 1) := by decide +kernel
theorem dX5_value_9 : decode cX5_value 9 = .ok (.getfield 42, 3) := by decide +kernel
theorem dX5_value_12 : decode cX5_value 12 = .ok (.iload_n 1, 1) := by decide +kernel
theorem dX5_value_13 : decode cX5_value 13 = .ok (.iconst 0, 1) := by decide +kernel
theorem dX5_value_14 : decode cX5_value 14 = .ok (.iconst 0, 1) := by decide +kernel
theorem dX5_value_15 : decode cX5_value 15 = .ok (.invokevirtual 136, 3) := by decide +kernel
theorem dX5_value_18 : decode cX5_value 18 = .ok (.goto 6, 3) := by decide +kernel
theorem dX5_value_21 : decode cX5_value 21 = .ok (.ldc2_w 106, 3) := by decide +kernel
theorem dX5_value_24 : decode cX5_value 24 = .ok (.lreturn, 1) := by decide +kernel
theorem dX5_slope_0 : decode cX5_slope 0 = .ok (.aload_n 0, 1) := by decide +kernel
theorem dX5_slope_1 : decode cX5_slope 1 = .ok (.iload_n 1, 1) := by decide +kernel
theorem dX5_slope_2 : decode cX5_slope 2 = .ok (.invokevirtual 133, 3) := by decide +kernel
theorem dX5_slope_5 : decode cX5_slope 5 = .ok (.ifCond .eq 22, 3) := by decide +kernel
theorem dX5_slope_8 : decode cX5_slope 8 = .ok (.iload_n 2, 1) := by decide +kernel
theorem dX5_slope_9 : decode cX5_slope 9 = .ok (.invokestatic 103, 3) := by decide +kernel
theorem dX5_slope_12 : decode cX5_slope 12 = .ok (.ifCond .eq 15, 3) := by decide +kernel
theorem dX5_slope_15 : decode cX5_slope 15 = .ok (.aload_n 0, 1) := by decide +kernel
theorem dX5_slope_16 : decode cX5_slope 16 = .ok (.getfield 42, 3) := by decide +kernel
theorem dX5_slope_19 : decode cX5_slope 19 = .ok (.iload_n 1, 1) := by decide +kernel
theorem dX5_slope_20 : decode cX5_slope 20 = .ok (.iload_n 2, 1) := by decide +kernel
theorem dX5_slope_21 : decode cX5_slope 21 = .ok (.invokevirtual 139, 3) := by decide +kernel
theorem dX5_slope_24 : decode cX5_slope 24 = .ok (.goto 6, 3) := by decide +kernel
theorem dX5_slope_27 : decode cX5_slope 27 = .ok (.ldc2_w 106, 3) := by decide +kernel
theorem dX5_slope_30 : decode cX5_slope 30 = .ok (.lreturn, 1) := by decide +kernel
theorem dX5_bend_0 : decode cX5_bend 0 = .ok (.aload_n 0, 1) := by decide +kernel
theorem dX5_bend_1 : decode cX5_bend 1 = .ok (.iload_n 1, 1) := by decide +kernel
theorem dX5_bend_2 : decode cX5_bend 2 = .ok (.invokevirtual 133, 3) := by decide +kernel
theorem dX5_bend_5 : decode cX5_bend 5 = .ok (.ifCond .eq 30, 3) := by decide +kernel
theorem dX5_bend_8 : decode cX5_bend 8 = .ok (.iload_n 2, 1) := by decide +kernel
theorem dX5_bend_9 : decode cX5_bend 9 = .ok (.invokestatic 103, 3) := by decide +kernel
theorem dX5_bend_12 : decode cX5_bend 12 = .ok (.ifCond .eq 23, 3) := by decide +kernel
theorem dX5_bend_15 : decode cX5_bend 15 = .ok (.iload_n 3, 1) := by decide +kernel
theorem dX5_bend_16 : decode cX5_bend 16 = .ok (.invokestatic 103, 3) := by decide +kernel
theorem dX5_bend_19 : decode cX5_bend 19 = .ok (.ifCond .eq 16, 3) := by decide +kernel
theorem dX5_bend_22 : decode cX5_bend 22 = .ok (.aload_n 0, 1) := by decide +kernel
theorem dX5_bend_23 : decode cX5_bend 23 = .ok (.getfield 42, 3) := by decide +kernel
theorem dX5_bend_26 : decode cX5_bend 26 = .ok (.iload_n 1, 1) := by decide +kernel
theorem dX5_bend_27 : decode cX5_bend 27 = .ok (.iload_n 2, 1) := by decide +kernel
theorem dX5_bend_28 : decode cX5_bend 28 = .ok (.iload_n 3, 1) := by decide +kernel
theorem dX5_bend_29 : decode cX5_bend 29 = .ok (.invokevirtual 143, 3) := by decide +kernel
theorem dX5_bend_32 : decode cX5_bend 32 = .ok (.goto 6, 3) := by decide +kernel
theorem dX5_bend_35 : decode cX5_bend 35 = .ok (.ldc2_w 106, 3) := by decide +kernel
theorem dX5_bend_38 : decode cX5_bend 38 = .ok (.lreturn, 1) := by decide +kernel
theorem dX5_whole_0 : decode cX5_whole 0 = .ok (.aload_n 0, 1) := by decide +kernel
theorem dX5_whole_1 : decode cX5_whole 1 = .ok (.iload_n 1, 1) := by decide +kernel
theorem dX5_whole_2 : decode cX5_whole 2 = .ok (.invokevirtual 133, 3) := by decide +kernel
theorem dX5_whole_5 : decode cX5_whole 5 = .ok (.ifCond .eq 12, 3) := by decide +kernel
theorem dX5_whole_8 : decode cX5_whole 8 = .ok (.aload_n 0, 1) := by decide +kernel
theorem dX5_whole_9 : decode cX5_whole 9 = .ok (.iload_n 1, 1) := by decide +kernel
theorem dX5_whole_10 : decode cX5_whole 10 = .ok (.iconst 0, 1) := by decide +kernel
theorem dX5_whole_11 : decode cX5_whole 11 = .ok (.invokevirtual 146, 3) := by decide +kernel
theorem dX5_whole_14 : decode cX5_whole 14 = .ok (.goto 6, 3) := by decide +kernel
theorem dX5_whole_17 : decode cX5_whole 17 = .ok (.ldc2_w 106, 3) := by decide +kernel
theorem dX5_whole_20 : decode cX5_whole 20 = .ok (.lreturn, 1) := by decide +kernel
theorem dX5_together_0 : decode cX5_together 0 = .ok (.aload_n 0, 1) := by decide +kernel
theorem dX5_together_1 : decode cX5_together 1 = .ok (.iload_n 1, 1) := by decide +kernel
theorem dX5_together_2 : decode cX5_together 2 = .ok (.invokevirtual 133, 3) := by decide +kernel
theorem dX5_together_5 : decode cX5_together 5 = .ok (.ifCond .eq 11, 3) := by decide +kernel
theorem dX5_together_8 : decode cX5_together 8 = .ok (.aload_n 0, 1) := by decide +kernel
theorem dX5_together_9 : decode cX5_together 9 = .ok (.iload_n 2, 1) := by decide +kernel
theorem dX5_together_10 : decode cX5_together 10 = .ok (.invokevirtual 133, 3) := by decide +kernel
theorem dX5_together_13 : decode cX5_together 13 = .ok (.ifCond .ne 7, 3) := by decide +kernel
theorem dX5_together_16 : decode cX5_together 16 = .ok (.ldc2_w 106, 3) := by decide +kernel
theorem dX5_together_19 : decode cX5_together 19 = .ok (.lreturn, 1) := by decide +kernel
theorem dX5_together_20 : decode cX5_together 20 = .ok (.aload_n 0, 1) := by decide +kernel
theorem dX5_together_21 : decode cX5_together 21 = .ok (.getfield 42, 3) := by decide +kernel
theorem dX5_together_24 : decode cX5_together 24 = .ok (.aload_n 0, 1) := by decide +kernel
theorem dX5_together_25 : decode cX5_together 25 = .ok (.getfield 60, 3) := by decide +kernel
theorem dX5_together_28 : decode cX5_together 28 = .ok (.iload_n 1, 1) := by decide +kernel
theorem dX5_together_29 : decode cX5_together 29 = .ok (.invokevirtual 149, 3) := by decide +kernel
theorem dX5_together_32 : decode cX5_together 32 = .ok (.aload_n 0, 1) := by decide +kernel
theorem dX5_together_33 : decode cX5_together 33 = .ok (.getfield 42, 3) := by decide +kernel
theorem dX5_together_36 : decode cX5_together 36 = .ok (.aload_n 0, 1) := by decide +kernel
theorem dX5_together_37 : decode cX5_together 37 = .ok (.getfield 63, 3) := by decide +kernel
theorem dX5_together_40 : decode cX5_together 40 = .ok (.iload_n 2, 1) := by decide +kernel
theorem dX5_together_41 : decode cX5_together 41 = .ok (.invokevirtual 149, 3) := by decide +kernel
theorem dX5_together_44 : decode cX5_together 44 = .ok (.aload_n 0, 1) := by decide +kernel
theorem dX5_together_45 : decode cX5_together 45 = .ok (.aload_n 0, 1) := by decide +kernel
theorem dX5_together_46 : decode cX5_together 46 = .ok (.getfield 60, 3) := by decide +kernel
theorem dX5_together_49 : decode cX5_together 49 = .ok (.aload_n 0, 1) := by decide +kernel
theorem dX5_together_50 : decode cX5_together 50 = .ok (.getfield 63, 3) := by decide +kernel
theorem dX5_together_53 : decode cX5_together 53 = .ok (.iconst 0, 1) := by decide +kernel
theorem dX5_together_54 : decode cX5_together 54 = .ok (.invokevirtual 153, 3) := by decide +kernel
theorem dX5_together_57 : decode cX5_together 57 = .ok (.lreturn, 1) := by decide +kernel
theorem dX5_share_0 : decode cX5_share 0 = .ok (.aload_n 0, 1) := by decide +kernel
theorem dX5_share_1 : decode cX5_share 1 = .ok (.iload_n 1, 1) := by decide +kernel
theorem dX5_share_2 : decode cX5_share 2 = .ok (.invokevirtual 133, 3) := by decide +kernel
theorem dX5_share_5 : decode cX5_share 5 = .ok (.ifCond .eq 10, 3) := by decide +kernel
theorem dX5_share_8 : decode cX5_share 8 = .ok (.iload_n 2, 1) := by decide +kernel
theorem dX5_share_9 : decode cX5_share 9 = .ok (.invokestatic 103, 3) := by decide +kernel
theorem dX5_share_12 : decode cX5_share 12 = .ok (.ifCond .ne 7, 3) := by decide +kernel
theorem dX5_share_15 : decode cX5_share 15 = .ok (.ldc2_w 106, 3) := by decide +kernel
theorem dX5_share_18 : decode cX5_share 18 = .ok (.lreturn, 1) := by decide +kernel
theorem dX5_share_19 : decode cX5_share 19 = .ok (.aload_n 0, 1) := by decide +kernel
theorem dX5_share_20 : decode cX5_share 20 = .ok (.getfield 42, 3) := by decide +kernel
theorem dX5_share_23 : decode cX5_share 23 = .ok (.aload_n 0, 1) := by decide +kernel
theorem dX5_share_24 : decode cX5_share 24 = .ok (.getfield 60, 3) := by decide +kernel
theorem dX5_share_27 : decode cX5_share 27 = .ok (.iload_n 1, 1) := by decide +kernel
theorem dX5_share_28 : decode cX5_share 28 = .ok (.invokevirtual 149, 3) := by decide +kernel
theorem dX5_share_31 : decode cX5_share 31 = .ok (.aload_n 0, 1) := by decide +kernel
theorem dX5_share_32 : decode cX5_share 32 = .ok (.aload_n 0, 1) := by decide +kernel
theorem dX5_share_33 : decode cX5_share 33 = .ok (.getfield 60, 3) := by decide +kernel
theorem dX5_share_36 : decode cX5_share 36 = .ok (.aload_n 0, 1) := by decide +kernel
theorem dX5_share_37 : decode cX5_share 37 = .ok (.getfield 60, 3) := by decide +kernel
theorem dX5_share_40 : decode cX5_share 40 = .ok (.iload_n 2, 1) := by decide +kernel
theorem dX5_share_41 : decode cX5_share 41 = .ok (.iconst 0, 1) := by decide +kernel
theorem dX5_share_42 : decode cX5_share 42 = .ok (.invokevirtual 157, 3) := by decide +kernel
theorem dX5_share_45 : decode cX5_share 45 = .ok (.lreturn, 1) := by decide +kernel
theorem dX5_left_0 : decode cX5_left 0 = .ok (.aload_n 0, 1) := by decide +kernel
theorem dX5_left_1 : decode cX5_left 1 = .ok (.iload_n 1, 1) := by decide +kernel
theorem dX5_left_2 : decode cX5_left 2 = .ok (.invokevirtual 133, 3) := by decide +kernel
theorem dX5_left_5 : decode cX5_left 5 = .ok (.ifCond .eq 22, 3) := by decide +kernel
theorem dX5_left_8 : decode cX5_left 8 = .ok (.iload_n 2, 1) := by decide +kernel
theorem dX5_left_9 : decode cX5_left 9 = .ok (.ifCond .lt 18, 3) := by decide +kernel
theorem dX5_left_12 : decode cX5_left 12 = .ok (.iload_n 2, 1) := by decide +kernel
theorem dX5_left_13 : decode cX5_left 13 = .ok (.bipush 64, 2) := by decide +kernel
theorem dX5_left_15 : decode cX5_left 15 = .ok (.if_icmp .ge 12, 3) := by decide +kernel
theorem dX5_left_18 : decode cX5_left 18 = .ok (.aload_n 0, 1) := by decide +kernel
theorem dX5_left_19 : decode cX5_left 19 = .ok (.iload_n 1, 1) := by decide +kernel
theorem dX5_left_20 : decode cX5_left 20 = .ok (.iload_n 2, 1) := by decide +kernel
theorem dX5_left_21 : decode cX5_left 21 = .ok (.invokevirtual 146, 3) := by decide +kernel
theorem dX5_left_24 : decode cX5_left 24 = .ok (.goto 6, 3) := by decide +kernel
theorem dX5_left_27 : decode cX5_left 27 = .ok (.ldc2_w 106, 3) := by decide +kernel
theorem dX5_left_30 : decode cX5_left 30 = .ok (.lreturn, 1) := by decide +kernel
theorem dX5_fewest_0 : decode cX5_fewest 0 = .ok (.aload_n 0, 1) := by decide +kernel
theorem dX5_fewest_1 : decode cX5_fewest 1 = .ok (.iload_n 1, 1) := by decide +kernel
theorem dX5_fewest_2 : decode cX5_fewest 2 = .ok (.invokevirtual 133, 3) := by decide +kernel
theorem dX5_fewest_5 : decode cX5_fewest 5 = .ok (.ifCond .ne 5, 3) := by decide +kernel
theorem dX5_fewest_8 : decode cX5_fewest 8 = .ok (.iconst (-1), 1) := by decide +kernel
theorem dX5_fewest_9 : decode cX5_fewest 9 = .ok (.ireturn, 1) := by decide +kernel
theorem dX5_fewest_10 : decode cX5_fewest 10 = .ok (.aload_n 0, 1) := by decide +kernel
theorem dX5_fewest_11 : decode cX5_fewest 11 = .ok (.getfield 42, 3) := by decide +kernel
theorem dX5_fewest_14 : decode cX5_fewest 14 = .ok (.aload_n 0, 1) := by decide +kernel
theorem dX5_fewest_15 : decode cX5_fewest 15 = .ok (.getfield 60, 3) := by decide +kernel
theorem dX5_fewest_18 : decode cX5_fewest 18 = .ok (.iload_n 1, 1) := by decide +kernel
theorem dX5_fewest_19 : decode cX5_fewest 19 = .ok (.invokevirtual 149, 3) := by decide +kernel
theorem dX5_fewest_22 : decode cX5_fewest 22 = .ok (.bipush (-9), 2) := by decide +kernel
theorem dX5_fewest_24 : decode cX5_fewest 24 = .ok (.istore 4, 2) := by decide +kernel
theorem dX5_fewest_26 : decode cX5_fewest 26 = .ok (.iconst 0, 1) := by decide +kernel
theorem dX5_fewest_27 : decode cX5_fewest 27 = .ok (.istore 5, 2) := by decide +kernel
theorem dX5_fewest_29 : decode cX5_fewest 29 = .ok (.iload 5, 2) := by decide +kernel
theorem dX5_fewest_31 : decode cX5_fewest 31 = .ok (.bipush 64, 2) := by decide +kernel
theorem dX5_fewest_33 : decode cX5_fewest 33 = .ok (.if_icmp .ge 64, 3) := by decide +kernel
theorem dX5_fewest_36 : decode cX5_fewest 36 = .ok (.iload 4, 2) := by decide +kernel
theorem dX5_fewest_38 : decode cX5_fewest 38 = .ok (.bipush (-9), 2) := by decide +kernel
theorem dX5_fewest_40 : decode cX5_fewest 40 = .ok (.if_icmp .eq 16, 3) := by decide +kernel
theorem dX5_fewest_43 : decode cX5_fewest 43 = .ok (.iload 5, 2) := by decide +kernel
theorem dX5_fewest_45 : decode cX5_fewest 45 = .ok (.invokestatic 161, 3) := by decide +kernel
theorem dX5_fewest_48 : decode cX5_fewest 48 = .ok (.iload 4, 2) := by decide +kernel
theorem dX5_fewest_50 : decode cX5_fewest 50 = .ok (.invokestatic 161, 3) := by decide +kernel
theorem dX5_fewest_53 : decode cX5_fewest 53 = .ok (.if_icmp .ge 7, 3) := by decide +kernel
theorem dX5_fewest_56 : decode cX5_fewest 56 = .ok (.iconst 1, 1) := by decide +kernel
theorem dX5_fewest_57 : decode cX5_fewest 57 = .ok (.goto 4, 3) := by decide +kernel
theorem dX5_fewest_60 : decode cX5_fewest 60 = .ok (.iconst 0, 1) := by decide +kernel
theorem dX5_fewest_61 : decode cX5_fewest 61 = .ok (.istore 6, 2) := by decide +kernel
theorem dX5_fewest_63 : decode cX5_fewest 63 = .ok (.iload 6, 2) := by decide +kernel
theorem dX5_fewest_65 : decode cX5_fewest 65 = .ok (.ifCond .eq 26, 3) := by decide +kernel
theorem dX5_fewest_68 : decode cX5_fewest 68 = .ok (.aload_n 0, 1) := by decide +kernel
theorem dX5_fewest_69 : decode cX5_fewest 69 = .ok (.aload_n 0, 1) := by decide +kernel
theorem dX5_fewest_70 : decode cX5_fewest 70 = .ok (.getfield 60, 3) := by decide +kernel
theorem dX5_fewest_73 : decode cX5_fewest 73 = .ok (.aload_n 0, 1) := by decide +kernel
theorem dX5_fewest_74 : decode cX5_fewest 74 = .ok (.getfield 60, 3) := by decide +kernel
theorem dX5_fewest_77 : decode cX5_fewest 77 = .ok (.iload 5, 2) := by decide +kernel
theorem dX5_fewest_79 : decode cX5_fewest 79 = .ok (.invokevirtual 153, 3) := by decide +kernel
theorem dX5_fewest_82 : decode cX5_fewest 82 = .ok (.lload_n 2, 1) := by decide +kernel
theorem dX5_fewest_83 : decode cX5_fewest 83 = .ok (.lcmp, 1) := by decide +kernel
theorem dX5_fewest_84 : decode cX5_fewest 84 = .ok (.ifCond .gt 7, 3) := by decide +kernel
theorem dX5_fewest_87 : decode cX5_fewest 87 = .ok (.iload 5, 2) := by decide +kernel
theorem dX5_fewest_89 : decode cX5_fewest 89 = .ok (.istore 4, 2) := by decide +kernel
theorem dX5_fewest_91 : decode cX5_fewest 91 = .ok (.iinc 5 1, 3) := by decide +kernel
theorem dX5_fewest_94 : decode cX5_fewest 94 = .ok (.goto (-65), 3) := by decide +kernel
theorem dX5_fewest_97 : decode cX5_fewest 97 = .ok (.iload 4, 2) := by decide +kernel
theorem dX5_fewest_99 : decode cX5_fewest 99 = .ok (.ireturn, 1) := by decide +kernel
theorem dX5_takes_0 : decode cX5_takes 0 = .ok (.aload_n 0, 1) := by decide +kernel
theorem dX5_takes_1 : decode cX5_takes 1 = .ok (.iload_n 1, 1) := by decide +kernel
theorem dX5_takes_2 : decode cX5_takes 2 = .ok (.invokevirtual 133, 3) := by decide +kernel
theorem dX5_takes_5 : decode cX5_takes 5 = .ok (.ifCond .eq 10, 3) := by decide +kernel
theorem dX5_takes_8 : decode cX5_takes 8 = .ok (.iload_n 2, 1) := by decide +kernel
theorem dX5_takes_9 : decode cX5_takes 9 = .ok (.invokestatic 103, 3) := by decide +kernel
theorem dX5_takes_12 : decode cX5_takes 12 = .ok (.ifCond .ne 7, 3) := by decide +kernel
theorem dX5_takes_15 : decode cX5_takes 15 = .ok (.ldc2_w 106, 3) := by decide +kernel
theorem dX5_takes_18 : decode cX5_takes 18 = .ok (.lreturn, 1) := by decide +kernel
theorem dX5_takes_19 : decode cX5_takes 19 = .ok (.aload_n 0, 1) := by decide +kernel
theorem dX5_takes_20 : decode cX5_takes 20 = .ok (.getfield 42, 3) := by decide +kernel
theorem dX5_takes_23 : decode cX5_takes 23 = .ok (.aload_n 0, 1) := by decide +kernel
theorem dX5_takes_24 : decode cX5_takes 24 = .ok (.getfield 60, 3) := by decide +kernel
theorem dX5_takes_27 : decode cX5_takes 27 = .ok (.iload_n 1, 1) := by decide +kernel
theorem dX5_takes_28 : decode cX5_takes 28 = .ok (.invokevirtual 149, 3) := by decide +kernel
theorem dX5_takes_31 : decode cX5_takes 31 = .ok (.aload_n 0, 1) := by decide +kernel
theorem dX5_takes_32 : decode cX5_takes 32 = .ok (.iload_n 2, 1) := by decide +kernel
theorem dX5_takes_33 : decode cX5_takes 33 = .ok (.invokevirtual 166, 3) := by decide +kernel
theorem dX5_takes_36 : decode cX5_takes 36 = .ok (.lreturn, 1) := by decide +kernel
theorem dX5_first_0 : decode cX5_first 0 = .ok (.aload_n 0, 1) := by decide +kernel
theorem dX5_first_1 : decode cX5_first 1 = .ok (.iload_n 1, 1) := by decide +kernel
theorem dX5_first_2 : decode cX5_first 2 = .ok (.invokevirtual 133, 3) := by decide +kernel
theorem dX5_first_5 : decode cX5_first 5 = .ok (.ifCond .eq 12, 3) := by decide +kernel
theorem dX5_first_8 : decode cX5_first 8 = .ok (.iload_n 2, 1) := by decide +kernel
theorem dX5_first_9 : decode cX5_first 9 = .ok (.ifCond .lt 8, 3) := by decide +kernel
theorem dX5_first_12 : decode cX5_first 12 = .ok (.iload_n 2, 1) := by decide +kernel
theorem dX5_first_13 : decode cX5_first 13 = .ok (.iconst 1, 1) := by decide +kernel
theorem dX5_first_14 : decode cX5_first 14 = .ok (.if_icmp .le 5, 3) := by decide +kernel
theorem dX5_first_17 : decode cX5_first 17 = .ok (.iconst (-1), 1) := by decide +kernel
theorem dX5_first_18 : decode cX5_first 18 = .ok (.ireturn, 1) := by decide +kernel
theorem dX5_first_19 : decode cX5_first 19 = .ok (.aload_n 0, 1) := by decide +kernel
theorem dX5_first_20 : decode cX5_first 20 = .ok (.getfield 42, 3) := by decide +kernel
theorem dX5_first_23 : decode cX5_first 23 = .ok (.aload_n 0, 1) := by decide +kernel
theorem dX5_first_24 : decode cX5_first 24 = .ok (.getfield 60, 3) := by decide +kernel
theorem dX5_first_27 : decode cX5_first 27 = .ok (.iload_n 1, 1) := by decide +kernel
theorem dX5_first_28 : decode cX5_first 28 = .ok (.invokevirtual 149, 3) := by decide +kernel
theorem dX5_first_31 : decode cX5_first 31 = .ok (.iconst 0, 1) := by decide +kernel
theorem dX5_first_32 : decode cX5_first 32 = .ok (.istore_n 3, 1) := by decide +kernel
theorem dX5_first_33 : decode cX5_first 33 = .ok (.lconst 0, 1) := by decide +kernel
theorem dX5_first_34 : decode cX5_first 34 = .ok (.lstore 4, 2) := by decide +kernel
theorem dX5_first_36 : decode cX5_first 36 = .ok (.iconst 0, 1) := by decide +kernel
theorem dX5_first_37 : decode cX5_first 37 = .ok (.istore 6, 2) := by decide +kernel
theorem dX5_first_39 : decode cX5_first 39 = .ok (.iload 6, 2) := by decide +kernel
theorem dX5_first_41 : decode cX5_first 41 = .ok (.bipush 6, 2) := by decide +kernel
theorem dX5_first_43 : decode cX5_first 43 = .ok (.if_icmp .ge 59, 3) := by decide +kernel
theorem dX5_first_46 : decode cX5_first 46 = .ok (.iload_n 2, 1) := by decide +kernel
theorem dX5_first_47 : decode cX5_first 47 = .ok (.ifCond .ne 12, 3) := by decide +kernel
theorem dX5_first_50 : decode cX5_first 50 = .ok (.aload_n 0, 1) := by decide +kernel
theorem dX5_first_51 : decode cX5_first 51 = .ok (.iload 6, 2) := by decide +kernel
theorem dX5_first_53 : decode cX5_first 53 = .ok (.invokevirtual 166, 3) := by decide +kernel
theorem dX5_first_56 : decode cX5_first 56 = .ok (.goto 18, 3) := by decide +kernel
theorem dX5_first_59 : decode cX5_first 59 = .ok (.aload_n 0, 1) := by decide +kernel
theorem dX5_first_60 : decode cX5_first 60 = .ok (.aload_n 0, 1) := by decide +kernel
theorem dX5_first_61 : decode cX5_first 61 = .ok (.getfield 60, 3) := by decide +kernel
theorem dX5_first_64 : decode cX5_first 64 = .ok (.aload_n 0, 1) := by decide +kernel
theorem dX5_first_65 : decode cX5_first 65 = .ok (.getfield 60, 3) := by decide +kernel
theorem dX5_first_68 : decode cX5_first 68 = .ok (.iload 6, 2) := by decide +kernel
theorem dX5_first_70 : decode cX5_first 70 = .ok (.iconst 0, 1) := by decide +kernel
theorem dX5_first_71 : decode cX5_first 71 = .ok (.invokevirtual 157, 3) := by decide +kernel
theorem dX5_first_74 : decode cX5_first 74 = .ok (.lstore 7, 2) := by decide +kernel
theorem dX5_first_76 : decode cX5_first 76 = .ok (.iload 6, 2) := by decide +kernel
theorem dX5_first_78 : decode cX5_first 78 = .ok (.ifCond .eq 11, 3) := by decide +kernel
theorem dX5_first_81 : decode cX5_first 81 = .ok (.lload 7, 2) := by decide +kernel
theorem dX5_first_83 : decode cX5_first 83 = .ok (.lload 4, 2) := by decide +kernel
theorem dX5_first_85 : decode cX5_first 85 = .ok (.lcmp, 1) := by decide +kernel
theorem dX5_first_86 : decode cX5_first 86 = .ok (.ifCond .le 10, 3) := by decide +kernel
theorem dX5_first_89 : decode cX5_first 89 = .ok (.iload 6, 2) := by decide +kernel
theorem dX5_first_91 : decode cX5_first 91 = .ok (.istore_n 3, 1) := by decide +kernel
theorem dX5_first_92 : decode cX5_first 92 = .ok (.lload 7, 2) := by decide +kernel
theorem dX5_first_94 : decode cX5_first 94 = .ok (.lstore 4, 2) := by decide +kernel
theorem dX5_first_96 : decode cX5_first 96 = .ok (.iinc 6 1, 3) := by decide +kernel
theorem dX5_first_99 : decode cX5_first 99 = .ok (.goto (-60), 3) := by decide +kernel
theorem dX5_first_102 : decode cX5_first 102 = .ok (.iload_n 3, 1) := by decide +kernel
theorem dX5_first_103 : decode cX5_first 103 = .ok (.ireturn, 1) := by decide +kernel
theorem dX5_off_0 : decode cX5_off 0 = .ok (.aload_n 0, 1) := by decide +kernel
theorem dX5_off_1 : decode cX5_off 1 = .ok (.iload_n 1, 1) := by decide +kernel
theorem dX5_off_2 : decode cX5_off 2 = .ok (.invokevirtual 133, 3) := by decide +kernel
theorem dX5_off_5 : decode cX5_off 5 = .ok (.ifCond .eq 17, 3) := by decide +kernel
theorem dX5_off_8 : decode cX5_off 8 = .ok (.iload_n 2, 1) := by decide +kernel
theorem dX5_off_9 : decode cX5_off 9 = .ok (.invokestatic 103, 3) := by decide +kernel
theorem dX5_off_12 : decode cX5_off 12 = .ok (.ifCond .eq 10, 3) := by decide +kernel
theorem dX5_off_15 : decode cX5_off 15 = .ok (.iload_n 3, 1) := by decide +kernel
theorem dX5_off_16 : decode cX5_off 16 = .ok (.invokestatic 170, 3) := by decide +kernel
theorem dX5_off_19 : decode cX5_off 19 = .ok (.ifCond .ne 7, 3) := by decide +kernel
theorem dX5_off_22 : decode cX5_off 22 = .ok (.ldc2_w 106, 3) := by decide +kernel
theorem dX5_off_25 : decode cX5_off 25 = .ok (.lreturn, 1) := by decide +kernel
theorem dX5_off_26 : decode cX5_off 26 = .ok (.aload_n 0, 1) := by decide +kernel
theorem dX5_off_27 : decode cX5_off 27 = .ok (.getfield 42, 3) := by decide +kernel
theorem dX5_off_30 : decode cX5_off 30 = .ok (.iload_n 1, 1) := by decide +kernel
theorem dX5_off_31 : decode cX5_off 31 = .ok (.iload_n 2, 1) := by decide +kernel
theorem dX5_off_32 : decode cX5_off 32 = .ok (.iload_n 3, 1) := by decide +kernel
theorem dX5_off_33 : decode cX5_off 33 = .ok (.invokevirtual 136, 3) := by decide +kernel
theorem dX5_off_36 : decode cX5_off 36 = .ok (.lstore 4, 2) := by decide +kernel
theorem dX5_off_38 : decode cX5_off 38 = .ok (.aload_n 0, 1) := by decide +kernel
theorem dX5_off_39 : decode cX5_off 39 = .ok (.getfield 42, 3) := by decide +kernel
theorem dX5_off_42 : decode cX5_off 42 = .ok (.iload_n 1, 1) := by decide +kernel
theorem dX5_off_43 : decode cX5_off 43 = .ok (.iload_n 2, 1) := by decide +kernel
theorem dX5_off_44 : decode cX5_off 44 = .ok (.invokevirtual 139, 3) := by decide +kernel
theorem dX5_off_47 : decode cX5_off 47 = .ok (.lstore 6, 2) := by decide +kernel
theorem dX5_off_49 : decode cX5_off 49 = .ok (.lload 4, 2) := by decide +kernel
theorem dX5_off_51 : decode cX5_off 51 = .ok (.aload_n 0, 1) := by decide +kernel
theorem dX5_off_52 : decode cX5_off 52 = .ok (.getfield 42, 3) := by decide +kernel
theorem dX5_off_55 : decode cX5_off 55 = .ok (.iload_n 1, 1) := by decide +kernel
theorem dX5_off_56 : decode cX5_off 56 = .ok (.iload_n 2, 1) := by decide +kernel
theorem dX5_off_57 : decode cX5_off 57 = .ok (.iconst 0, 1) := by decide +kernel
theorem dX5_off_58 : decode cX5_off 58 = .ok (.invokevirtual 136, 3) := by decide +kernel
theorem dX5_off_61 : decode cX5_off 61 = .ok (.lsub, 1) := by decide +kernel
theorem dX5_off_62 : decode cX5_off 62 = .ok (.iload_n 3, 1) := by decide +kernel
theorem dX5_off_63 : decode cX5_off 63 = .ok (.i2l, 1) := by decide +kernel
theorem dX5_off_64 : decode cX5_off 64 = .ok (.lload 6, 2) := by decide +kernel
theorem dX5_off_66 : decode cX5_off 66 = .ok (.lmul, 1) := by decide +kernel
theorem dX5_off_67 : decode cX5_off 67 = .ok (.lsub, 1) := by decide +kernel
theorem dX5_off_68 : decode cX5_off 68 = .ok (.lreturn, 1) := by decide +kernel
theorem dX5_sees_0 : decode cX5_sees 0 = .ok (.aload_n 0, 1) := by decide +kernel
theorem dX5_sees_1 : decode cX5_sees 1 = .ok (.iload_n 1, 1) := by decide +kernel
theorem dX5_sees_2 : decode cX5_sees 2 = .ok (.invokevirtual 133, 3) := by decide +kernel
theorem dX5_sees_5 : decode cX5_sees 5 = .ok (.ifCond .ne 5, 3) := by decide +kernel
theorem dX5_sees_8 : decode cX5_sees 8 = .ok (.iconst (-1), 1) := by decide +kernel
theorem dX5_sees_9 : decode cX5_sees 9 = .ok (.ireturn, 1) := by decide +kernel
theorem dX5_sees_10 : decode cX5_sees 10 = .ok (.aload_n 0, 1) := by decide +kernel
theorem dX5_sees_11 : decode cX5_sees 11 = .ok (.getfield 92, 3) := by decide +kernel
theorem dX5_sees_14 : decode cX5_sees 14 = .ok (.ifCond .lt 12, 3) := by decide +kernel
theorem dX5_sees_17 : decode cX5_sees 17 = .ok (.aload_n 0, 1) := by decide +kernel
theorem dX5_sees_18 : decode cX5_sees 18 = .ok (.getfield 92, 3) := by decide +kernel
theorem dX5_sees_21 : decode cX5_sees 21 = .ok (.bipush 6, 2) := by decide +kernel
theorem dX5_sees_23 : decode cX5_sees 23 = .ok (.if_icmp .lt 6, 3) := by decide +kernel
theorem dX5_sees_26 : decode cX5_sees 26 = .ok (.bipush (-3), 2) := by decide +kernel
theorem dX5_sees_28 : decode cX5_sees 28 = .ok (.ireturn, 1) := by decide +kernel
theorem dX5_sees_29 : decode cX5_sees 29 = .ok (.aload_n 0, 1) := by decide +kernel
theorem dX5_sees_30 : decode cX5_sees 30 = .ok (.getfield 52, 3) := by decide +kernel
theorem dX5_sees_33 : decode cX5_sees 33 = .ok (.aload_n 0, 1) := by decide +kernel
theorem dX5_sees_34 : decode cX5_sees 34 = .ok (.getfield 92, 3) := by decide +kernel
theorem dX5_sees_37 : decode cX5_sees 37 = .ok (.iload_n 1, 1) := by decide +kernel
theorem dX5_sees_38 : decode cX5_sees 38 = .ok (.iastore, 1) := by decide +kernel
theorem dX5_sees_39 : decode cX5_sees 39 = .ok (.aload_n 0, 1) := by decide +kernel
theorem dX5_sees_40 : decode cX5_sees 40 = .ok (.getfield 56, 3) := by decide +kernel
theorem dX5_sees_43 : decode cX5_sees 43 = .ok (.aload_n 0, 1) := by decide +kernel
theorem dX5_sees_44 : decode cX5_sees 44 = .ok (.getfield 92, 3) := by decide +kernel
theorem dX5_sees_47 : decode cX5_sees 47 = .ok (.lload_n 2, 1) := by decide +kernel
theorem dX5_sees_48 : decode cX5_sees 48 = .ok (.lastore, 1) := by decide +kernel
theorem dX5_sees_49 : decode cX5_sees 49 = .ok (.aload_n 0, 1) := by decide +kernel
theorem dX5_sees_50 : decode cX5_sees 50 = .ok (.dup, 1) := by decide +kernel
theorem dX5_sees_51 : decode cX5_sees 51 = .ok (.getfield 92, 3) := by decide +kernel
theorem dX5_sees_54 : decode cX5_sees 54 = .ok (.iconst 1, 1) := by decide +kernel
theorem dX5_sees_55 : decode cX5_sees 55 = .ok (.iadd, 1) := by decide +kernel
theorem dX5_sees_56 : decode cX5_sees 56 = .ok (.putfield 92, 3) := by decide +kernel
theorem dX5_sees_59 : decode cX5_sees 59 = .ok (.aload_n 0, 1) := by decide +kernel
theorem dX5_sees_60 : decode cX5_sees 60 = .ok (.getfield 92, 3) := by decide +kernel
theorem dX5_sees_63 : decode cX5_sees 63 = .ok (.ireturn, 1) := by decide +kernel
theorem dX5_forget_0 : decode cX5_forget 0 = .ok (.aload_n 0, 1) := by decide +kernel
theorem dX5_forget_1 : decode cX5_forget 1 = .ok (.getfield 92, 3) := by decide +kernel
theorem dX5_forget_4 : decode cX5_forget 4 = .ok (.istore_n 1, 1) := by decide +kernel
theorem dX5_forget_5 : decode cX5_forget 5 = .ok (.aload_n 0, 1) := by decide +kernel
theorem dX5_forget_6 : decode cX5_forget 6 = .ok (.iconst 0, 1) := by decide +kernel
theorem dX5_forget_7 : decode cX5_forget 7 = .ok (.putfield 92, 3) := by decide +kernel
theorem dX5_forget_10 : decode cX5_forget 10 = .ok (.iload_n 1, 1) := by decide +kernel
theorem dX5_forget_11 : decode cX5_forget 11 = .ok (.ireturn, 1) := by decide +kernel
theorem dX5_unseen_0 : decode cX5_unseen 0 = .ok (.iload_n 1, 1) := by decide +kernel
theorem dX5_unseen_1 : decode cX5_unseen 1 = .ok (.invokestatic 170, 3) := by decide +kernel
theorem dX5_unseen_4 : decode cX5_unseen 4 = .ok (.ifCond .ne 5, 3) := by decide +kernel
theorem dX5_unseen_7 : decode cX5_unseen 7 = .ok (.iconst (-1), 1) := by decide +kernel
theorem dX5_unseen_8 : decode cX5_unseen 8 = .ok (.ireturn, 1) := by decide +kernel
theorem dX5_unseen_9 : decode cX5_unseen 9 = .ok (.iconst 0, 1) := by decide +kernel
theorem dX5_unseen_10 : decode cX5_unseen 10 = .ok (.istore_n 2, 1) := by decide +kernel
theorem dX5_unseen_11 : decode cX5_unseen 11 = .ok (.iconst 0, 1) := by decide +kernel
theorem dX5_unseen_12 : decode cX5_unseen 12 = .ok (.istore_n 3, 1) := by decide +kernel
theorem dX5_unseen_13 : decode cX5_unseen 13 = .ok (.iload_n 3, 1) := by decide +kernel
theorem dX5_unseen_14 : decode cX5_unseen 14 = .ok (.bipush 6, 2) := by decide +kernel
theorem dX5_unseen_16 : decode cX5_unseen 16 = .ok (.if_icmp .ge 24, 3) := by decide +kernel
theorem dX5_unseen_19 : decode cX5_unseen 19 = .ok (.aload_n 0, 1) := by decide +kernel
theorem dX5_unseen_20 : decode cX5_unseen 20 = .ok (.iload_n 3, 1) := by decide +kernel
theorem dX5_unseen_21 : decode cX5_unseen 21 = .ok (.iload_n 1, 1) := by decide +kernel
theorem dX5_unseen_22 : decode cX5_unseen 22 = .ok (.invokevirtual 173, 3) := by decide +kernel
theorem dX5_unseen_25 : decode cX5_unseen 25 = .ok (.ifCond .eq 9, 3) := by decide +kernel
theorem dX5_unseen_28 : decode cX5_unseen 28 = .ok (.iload_n 2, 1) := by decide +kernel
theorem dX5_unseen_29 : decode cX5_unseen 29 = .ok (.iconst 1, 1) := by decide +kernel
theorem dX5_unseen_30 : decode cX5_unseen 30 = .ok (.iload_n 3, 1) := by decide +kernel
theorem dX5_unseen_31 : decode cX5_unseen 31 = .ok (.ishl, 1) := by decide +kernel
theorem dX5_unseen_32 : decode cX5_unseen 32 = .ok (.ior, 1) := by decide +kernel
theorem dX5_unseen_33 : decode cX5_unseen 33 = .ok (.istore_n 2, 1) := by decide +kernel
theorem dX5_unseen_34 : decode cX5_unseen 34 = .ok (.iinc 3 1, 3) := by decide +kernel
theorem dX5_unseen_37 : decode cX5_unseen 37 = .ok (.goto (-24), 3) := by decide +kernel
theorem dX5_unseen_40 : decode cX5_unseen 40 = .ok (.iload_n 2, 1) := by decide +kernel
theorem dX5_unseen_41 : decode cX5_unseen 41 = .ok (.ireturn, 1) := by decide +kernel
theorem dX5_keep_0 : decode cX5_keep 0 = .ok (.iload_n 1, 1) := by decide +kernel
theorem dX5_keep_1 : decode cX5_keep 1 = .ok (.ifCond .ne 27, 3) := by decide +kernel
theorem dX5_keep_4 : decode cX5_keep 4 = .ok (.aload_n 0, 1) := by decide +kernel
theorem dX5_keep_5 : decode cX5_keep 5 = .ok (.getfield 46, 3) := by decide +kernel
theorem dX5_keep_8 : decode cX5_keep 8 = .ok (.aload_n 0, 1) := by decide +kernel
theorem dX5_keep_9 : decode cX5_keep 9 = .ok (.getfield 12, 3) := by decide +kernel
theorem dX5_keep_12 : decode cX5_keep 12 = .ok (.invokevirtual 81, 3) := by decide +kernel
theorem dX5_keep_15 : decode cX5_keep 15 = .ok (.aload_n 0, 1) := by decide +kernel
theorem dX5_keep_16 : decode cX5_keep 16 = .ok (.iconst 1, 1) := by decide +kernel
theorem dX5_keep_17 : decode cX5_keep 17 = .ok (.putfield 96, 3) := by decide +kernel
theorem dX5_keep_20 : decode cX5_keep 20 = .ok (.aload_n 0, 1) := by decide +kernel
theorem dX5_keep_21 : decode cX5_keep 21 = .ok (.getfield 19, 3) := by decide +kernel
theorem dX5_keep_24 : decode cX5_keep 24 = .ok (.invokevirtual 177, 3) := by decide +kernel
theorem dX5_keep_27 : decode cX5_keep 27 = .ok (.ireturn, 1) := by decide +kernel
theorem dX5_keep_28 : decode cX5_keep 28 = .ok (.iload_n 1, 1) := by decide +kernel
theorem dX5_keep_29 : decode cX5_keep 29 = .ok (.iconst 1, 1) := by decide +kernel
theorem dX5_keep_30 : decode cX5_keep 30 = .ok (.if_icmp .ne 27, 3) := by decide +kernel
theorem dX5_keep_33 : decode cX5_keep 33 = .ok (.aload_n 0, 1) := by decide +kernel
theorem dX5_keep_34 : decode cX5_keep 34 = .ok (.getfield 49, 3) := by decide +kernel
theorem dX5_keep_37 : decode cX5_keep 37 = .ok (.aload_n 0, 1) := by decide +kernel
theorem dX5_keep_38 : decode cX5_keep 38 = .ok (.getfield 12, 3) := by decide +kernel
theorem dX5_keep_41 : decode cX5_keep 41 = .ok (.invokevirtual 81, 3) := by decide +kernel
theorem dX5_keep_44 : decode cX5_keep 44 = .ok (.aload_n 0, 1) := by decide +kernel
theorem dX5_keep_45 : decode cX5_keep 45 = .ok (.iconst 1, 1) := by decide +kernel
theorem dX5_keep_46 : decode cX5_keep 46 = .ok (.putfield 100, 3) := by decide +kernel
theorem dX5_keep_49 : decode cX5_keep 49 = .ok (.aload_n 0, 1) := by decide +kernel
theorem dX5_keep_50 : decode cX5_keep 50 = .ok (.getfield 19, 3) := by decide +kernel
theorem dX5_keep_53 : decode cX5_keep 53 = .ok (.invokevirtual 177, 3) := by decide +kernel
theorem dX5_keep_56 : decode cX5_keep 56 = .ok (.ireturn, 1) := by decide +kernel
theorem dX5_keep_57 : decode cX5_keep 57 = .ok (.iconst (-1), 1) := by decide +kernel
theorem dX5_keep_58 : decode cX5_keep 58 = .ok (.ireturn, 1) := by decide +kernel
theorem dX5_back_0 : decode cX5_back 0 = .ok (.iload_n 1, 1) := by decide +kernel
theorem dX5_back_1 : decode cX5_back 1 = .ok (.ifCond .lt 8, 3) := by decide +kernel
theorem dX5_back_4 : decode cX5_back 4 = .ok (.iload_n 1, 1) := by decide +kernel
theorem dX5_back_5 : decode cX5_back 5 = .ok (.iconst 1, 1) := by decide +kernel
theorem dX5_back_6 : decode cX5_back 6 = .ok (.if_icmp .le 5, 3) := by decide +kernel
theorem dX5_back_9 : decode cX5_back 9 = .ok (.iconst (-1), 1) := by decide +kernel
theorem dX5_back_10 : decode cX5_back 10 = .ok (.ireturn, 1) := by decide +kernel
theorem dX5_back_11 : decode cX5_back 11 = .ok (.iload_n 1, 1) := by decide +kernel
theorem dX5_back_12 : decode cX5_back 12 = .ok (.ifCond .ne 13, 3) := by decide +kernel
theorem dX5_back_15 : decode cX5_back 15 = .ok (.aload_n 0, 1) := by decide +kernel
theorem dX5_back_16 : decode cX5_back 16 = .ok (.getfield 96, 3) := by decide +kernel
theorem dX5_back_19 : decode cX5_back 19 = .ok (.ifCond .ne 16, 3) := by decide +kernel
theorem dX5_back_22 : decode cX5_back 22 = .ok (.goto 10, 3) := by decide +kernel
theorem dX5_back_25 : decode cX5_back 25 = .ok (.aload_n 0, 1) := by decide +kernel
theorem dX5_back_26 : decode cX5_back 26 = .ok (.getfield 100, 3) := by decide +kernel
theorem dX5_back_29 : decode cX5_back 29 = .ok (.ifCond .ne 6, 3) := by decide +kernel
theorem dX5_back_32 : decode cX5_back 32 = .ok (.bipush (-2), 2) := by decide +kernel
theorem dX5_back_34 : decode cX5_back 34 = .ok (.ireturn, 1) := by decide +kernel
theorem dX5_back_35 : decode cX5_back 35 = .ok (.aload_n 0, 1) := by decide +kernel
theorem dX5_back_36 : decode cX5_back 36 = .ok (.getfield 12, 3) := by decide +kernel
theorem dX5_back_39 : decode cX5_back 39 = .ok (.iload_n 1, 1) := by decide +kernel
theorem dX5_back_40 : decode cX5_back 40 = .ok (.ifCond .ne 10, 3) := by decide +kernel
theorem dX5_back_43 : decode cX5_back 43 = .ok (.aload_n 0, 1) := by decide +kernel
theorem dX5_back_44 : decode cX5_back 44 = .ok (.getfield 46, 3) := by decide +kernel
theorem dX5_back_47 : decode cX5_back 47 = .ok (.goto 7, 3) := by decide +kernel
theorem dX5_back_50 : decode cX5_back 50 = .ok (.aload_n 0, 1) := by decide +kernel
theorem dX5_back_51 : decode cX5_back 51 = .ok (.getfield 49, 3) := by decide +kernel
theorem dX5_back_54 : decode cX5_back 54 = .ok (.invokevirtual 81, 3) := by decide +kernel
theorem dX5_back_57 : decode cX5_back 57 = .ok (.aload_n 0, 1) := by decide +kernel
theorem dX5_back_58 : decode cX5_back 58 = .ok (.getfield 33, 3) := by decide +kernel
theorem dX5_back_61 : decode cX5_back 61 = .ok (.invokevirtual 89, 3) := by decide +kernel
theorem dX5_back_64 : decode cX5_back 64 = .ok (.aload_n 0, 1) := by decide +kernel
theorem dX5_back_65 : decode cX5_back 65 = .ok (.getfield 19, 3) := by decide +kernel
theorem dX5_back_68 : decode cX5_back 68 = .ok (.invokevirtual 177, 3) := by decide +kernel
theorem dX5_back_71 : decode cX5_back 71 = .ok (.ireturn, 1) := by decide +kernel
theorem dX5_formula_0 : decode cX5_formula 0 = .ok (.aload_n 0, 1) := by decide +kernel
theorem dX5_formula_1 : decode cX5_formula 1 = .ok (.iload_n 1, 1) := by decide +kernel
theorem dX5_formula_2 : decode cX5_formula 2 = .ok (.invokevirtual 133, 3) := by decide +kernel
theorem dX5_formula_5 : decode cX5_formula 5 = .ok (.ifCond .ne 5, 3) := by decide +kernel
theorem dX5_formula_8 : decode cX5_formula 8 = .ok (.iconst (-1), 1) := by decide +kernel
theorem dX5_formula_9 : decode cX5_formula 9 = .ok (.ireturn, 1) := by decide +kernel
theorem dX5_formula_10 : decode cX5_formula 10 = .ok (.iload_n 2, 1) := by decide +kernel
theorem dX5_formula_11 : decode cX5_formula 11 = .ok (.tableswitch 75 0 2 #[25, 43, 59], 25) := by decide +kernel
theorem dX5_formula_36 : decode cX5_formula 36 = .ok (.aload_n 0, 1) := by decide +kernel
theorem dX5_formula_37 : decode cX5_formula 37 = .ok (.getfield 19, 3) := by decide +kernel
theorem dX5_formula_40 : decode cX5_formula 40 = .ok (.iload_n 1, 1) := by decide +kernel
theorem dX5_formula_41 : decode cX5_formula 41 = .ok (.invokevirtual 180, 3) := by decide +kernel
theorem dX5_formula_44 : decode cX5_formula 44 = .ok (.aload_n 0, 1) := by decide +kernel
theorem dX5_formula_45 : decode cX5_formula 45 = .ok (.getfield 19, 3) := by decide +kernel
theorem dX5_formula_48 : decode cX5_formula 48 = .ok (.iload_n 1, 1) := by decide +kernel
theorem dX5_formula_49 : decode cX5_formula 49 = .ok (.invokevirtual 183, 3) := by decide +kernel
theorem dX5_formula_52 : decode cX5_formula 52 = .ok (.isub, 1) := by decide +kernel
theorem dX5_formula_53 : decode cX5_formula 53 = .ok (.ireturn, 1) := by decide +kernel
theorem dX5_formula_54 : decode cX5_formula 54 = .ok (.aload_n 0, 1) := by decide +kernel
theorem dX5_formula_55 : decode cX5_formula 55 = .ok (.getfield 19, 3) := by decide +kernel
theorem dX5_formula_58 : decode cX5_formula 58 = .ok (.aload_n 0, 1) := by decide +kernel
theorem dX5_formula_59 : decode cX5_formula 59 = .ok (.getfield 19, 3) := by decide +kernel
theorem dX5_formula_62 : decode cX5_formula 62 = .ok (.iload_n 1, 1) := by decide +kernel
theorem dX5_formula_63 : decode cX5_formula 63 = .ok (.invokevirtual 186, 3) := by decide +kernel
theorem dX5_formula_66 : decode cX5_formula 66 = .ok (.invokevirtual 189, 3) := by decide +kernel
theorem dX5_formula_69 : decode cX5_formula 69 = .ok (.ireturn, 1) := by decide +kernel
theorem dX5_formula_70 : decode cX5_formula 70 = .ok (.aload_n 0, 1) := by decide +kernel
theorem dX5_formula_71 : decode cX5_formula 71 = .ok (.getfield 19, 3) := by decide +kernel
theorem dX5_formula_74 : decode cX5_formula 74 = .ok (.aload_n 0, 1) := by decide +kernel
theorem dX5_formula_75 : decode cX5_formula 75 = .ok (.getfield 19, 3) := by decide +kernel
theorem dX5_formula_78 : decode cX5_formula 78 = .ok (.iload_n 1, 1) := by decide +kernel
theorem dX5_formula_79 : decode cX5_formula 79 = .ok (.invokevirtual 186, 3) := by decide +kernel
theorem dX5_formula_82 : decode cX5_formula 82 = .ok (.invokevirtual 192, 3) := by decide +kernel
theorem dX5_formula_85 : decode cX5_formula 85 = .ok (.ireturn, 1) := by decide +kernel
theorem dX5_formula_86 : decode cX5_formula 86 = .ok (.iconst (-1), 1) := by decide +kernel
theorem dX5_formula_87 : decode cX5_formula 87 = .ok (.ireturn, 1) := by decide +kernel
theorem dX5_count_0 : decode cX5_count 0 = .ok (.iload_n 1, 1) := by decide +kernel
theorem dX5_count_1 : decode cX5_count 1 = .ok (.tableswitch 60 0 3 #[31, 39, 44, 52], 31) := by decide +kernel
theorem dX5_count_32 : decode cX5_count 32 = .ok (.aload_n 0, 1) := by decide +kernel
theorem dX5_count_33 : decode cX5_count 33 = .ok (.getfield 19, 3) := by decide +kernel
theorem dX5_count_36 : decode cX5_count 36 = .ok (.invokevirtual 177, 3) := by decide +kernel
theorem dX5_count_39 : decode cX5_count 39 = .ok (.ireturn, 1) := by decide +kernel
theorem dX5_count_40 : decode cX5_count 40 = .ok (.aload_n 0, 1) := by decide +kernel
theorem dX5_count_41 : decode cX5_count 41 = .ok (.getfield 92, 3) := by decide +kernel
theorem dX5_count_44 : decode cX5_count 44 = .ok (.ireturn, 1) := by decide +kernel
theorem dX5_count_45 : decode cX5_count 45 = .ok (.aload_n 0, 1) := by decide +kernel
theorem dX5_count_46 : decode cX5_count 46 = .ok (.getfield 26, 3) := by decide +kernel
theorem dX5_count_49 : decode cX5_count 49 = .ok (.invokevirtual 70, 3) := by decide +kernel
theorem dX5_count_52 : decode cX5_count 52 = .ok (.ireturn, 1) := by decide +kernel
theorem dX5_count_53 : decode cX5_count 53 = .ok (.aload_n 0, 1) := by decide +kernel
theorem dX5_count_54 : decode cX5_count 54 = .ok (.getfield 33, 3) := by decide +kernel
theorem dX5_count_57 : decode cX5_count 57 = .ok (.invokevirtual 130, 3) := by decide +kernel
theorem dX5_count_60 : decode cX5_count 60 = .ok (.ireturn, 1) := by decide +kernel
theorem dX5_count_61 : decode cX5_count 61 = .ok (.iconst (-1), 1) := by decide +kernel
theorem dX5_count_62 : decode cX5_count 62 = .ok (.ireturn, 1) := by decide +kernel
theorem dX5_isSource_0 : decode cX5_isSource 0 = .ok (.iload_n 0, 1) := by decide +kernel
theorem dX5_isSource_1 : decode cX5_isSource 1 = .ok (.ifCond .lt 13, 3) := by decide +kernel
theorem dX5_isSource_4 : decode cX5_isSource 4 = .ok (.iload_n 0, 1) := by decide +kernel
theorem dX5_isSource_5 : decode cX5_isSource 5 = .ok (.bipush 6, 2) := by decide +kernel
theorem dX5_isSource_7 : decode cX5_isSource 7 = .ok (.if_icmp .ge 7, 3) := by decide +kernel
theorem dX5_isSource_10 : decode cX5_isSource 10 = .ok (.iconst 1, 1) := by decide +kernel
theorem dX5_isSource_11 : decode cX5_isSource 11 = .ok (.goto 4, 3) := by decide +kernel
theorem dX5_isSource_14 : decode cX5_isSource 14 = .ok (.iconst 0, 1) := by decide +kernel
theorem dX5_isSource_15 : decode cX5_isSource 15 = .ok (.ireturn, 1) := by decide +kernel
theorem dX5_isMove_0 : decode cX5_isMove 0 = .ok (.iload_n 0, 1) := by decide +kernel
theorem dX5_isMove_1 : decode cX5_isMove 1 = .ok (.bipush (-20), 2) := by decide +kernel
theorem dX5_isMove_3 : decode cX5_isMove 3 = .ok (.if_icmp .lt 13, 3) := by decide +kernel
theorem dX5_isMove_6 : decode cX5_isMove 6 = .ok (.iload_n 0, 1) := by decide +kernel
theorem dX5_isMove_7 : decode cX5_isMove 7 = .ok (.bipush 20, 2) := by decide +kernel
theorem dX5_isMove_9 : decode cX5_isMove 9 = .ok (.if_icmp .gt 7, 3) := by decide +kernel
theorem dX5_isMove_12 : decode cX5_isMove 12 = .ok (.iconst 1, 1) := by decide +kernel
theorem dX5_isMove_13 : decode cX5_isMove 13 = .ok (.goto 4, 3) := by decide +kernel
theorem dX5_isMove_16 : decode cX5_isMove 16 = .ok (.iconst 0, 1) := by decide +kernel
theorem dX5_isMove_17 : decode cX5_isMove 17 = .ok (.ireturn, 1) := by decide +kernel
theorem dX5_isTold_0 : decode cX5_isTold 0 = .ok (.iload_n 1, 1) := by decide +kernel
theorem dX5_isTold_1 : decode cX5_isTold 1 = .ok (.ifCond .lt 18, 3) := by decide +kernel
theorem dX5_isTold_4 : decode cX5_isTold 4 = .ok (.iload_n 1, 1) := by decide +kernel
theorem dX5_isTold_5 : decode cX5_isTold 5 = .ok (.aload_n 0, 1) := by decide +kernel
theorem dX5_isTold_6 : decode cX5_isTold 6 = .ok (.getfield 19, 3) := by decide +kernel
theorem dX5_isTold_9 : decode cX5_isTold 9 = .ok (.invokevirtual 177, 3) := by decide +kernel
theorem dX5_isTold_12 : decode cX5_isTold 12 = .ok (.if_icmp .ge 7, 3) := by decide +kernel
theorem dX5_isTold_15 : decode cX5_isTold 15 = .ok (.iconst 1, 1) := by decide +kernel
theorem dX5_isTold_16 : decode cX5_isTold 16 = .ok (.goto 4, 3) := by decide +kernel
theorem dX5_isTold_19 : decode cX5_isTold 19 = .ok (.iconst 0, 1) := by decide +kernel
theorem dX5_isTold_20 : decode cX5_isTold 20 = .ok (.ireturn, 1) := by decide +kernel
theorem dX5_remains_0 : decode cX5_remains 0 = .ok (.aload_n 0, 1) := by decide +kernel
theorem dX5_remains_1 : decode cX5_remains 1 = .ok (.getfield 42, 3) := by decide +kernel
theorem dX5_remains_4 : decode cX5_remains 4 = .ok (.aload_n 0, 1) := by decide +kernel
theorem dX5_remains_5 : decode cX5_remains 5 = .ok (.getfield 60, 3) := by decide +kernel
theorem dX5_remains_8 : decode cX5_remains 8 = .ok (.iload_n 1, 1) := by decide +kernel
theorem dX5_remains_9 : decode cX5_remains 9 = .ok (.invokevirtual 149, 3) := by decide +kernel
theorem dX5_remains_12 : decode cX5_remains 12 = .ok (.aload_n 0, 1) := by decide +kernel
theorem dX5_remains_13 : decode cX5_remains 13 = .ok (.aload_n 0, 1) := by decide +kernel
theorem dX5_remains_14 : decode cX5_remains 14 = .ok (.getfield 60, 3) := by decide +kernel
theorem dX5_remains_17 : decode cX5_remains 17 = .ok (.aload_n 0, 1) := by decide +kernel
theorem dX5_remains_18 : decode cX5_remains 18 = .ok (.getfield 60, 3) := by decide +kernel
theorem dX5_remains_21 : decode cX5_remains 21 = .ok (.iload_n 2, 1) := by decide +kernel
theorem dX5_remains_22 : decode cX5_remains 22 = .ok (.invokevirtual 153, 3) := by decide +kernel
theorem dX5_remains_25 : decode cX5_remains 25 = .ok (.lreturn, 1) := by decide +kernel
theorem dX5_taken_0 : decode cX5_taken 0 = .ok (.aload_n 0, 1) := by decide +kernel
theorem dX5_taken_1 : decode cX5_taken 1 = .ok (.aload_n 0, 1) := by decide +kernel
theorem dX5_taken_2 : decode cX5_taken 2 = .ok (.getfield 60, 3) := by decide +kernel
theorem dX5_taken_5 : decode cX5_taken 5 = .ok (.aload_n 0, 1) := by decide +kernel
theorem dX5_taken_6 : decode cX5_taken 6 = .ok (.getfield 60, 3) := by decide +kernel
theorem dX5_taken_9 : decode cX5_taken 9 = .ok (.iconst 0, 1) := by decide +kernel
theorem dX5_taken_10 : decode cX5_taken 10 = .ok (.invokevirtual 153, 3) := by decide +kernel
theorem dX5_taken_13 : decode cX5_taken 13 = .ok (.aload_n 0, 1) := by decide +kernel
theorem dX5_taken_14 : decode cX5_taken 14 = .ok (.aload_n 0, 1) := by decide +kernel
theorem dX5_taken_15 : decode cX5_taken 15 = .ok (.getfield 60, 3) := by decide +kernel
theorem dX5_taken_18 : decode cX5_taken 18 = .ok (.aload_n 0, 1) := by decide +kernel
theorem dX5_taken_19 : decode cX5_taken 19 = .ok (.getfield 60, 3) := by decide +kernel
theorem dX5_taken_22 : decode cX5_taken 22 = .ok (.iconst 1, 1) := by decide +kernel
theorem dX5_taken_23 : decode cX5_taken 23 = .ok (.iload_n 1, 1) := by decide +kernel
theorem dX5_taken_24 : decode cX5_taken 24 = .ok (.ishl, 1) := by decide +kernel
theorem dX5_taken_25 : decode cX5_taken 25 = .ok (.invokevirtual 153, 3) := by decide +kernel
theorem dX5_taken_28 : decode cX5_taken 28 = .ok (.lsub, 1) := by decide +kernel
theorem dX5_taken_29 : decode cX5_taken 29 = .ok (.lreturn, 1) := by decide +kernel
theorem dX5_product_0 : decode cX5_product 0 = .ok (.lconst 0, 1) := by decide +kernel
theorem dX5_product_1 : decode cX5_product 1 = .ok (.lstore 4, 2) := by decide +kernel
theorem dX5_product_3 : decode cX5_product 3 = .ok (.iconst 0, 1) := by decide +kernel
theorem dX5_product_4 : decode cX5_product 4 = .ok (.istore 6, 2) := by decide +kernel
theorem dX5_product_6 : decode cX5_product 6 = .ok (.iload 6, 2) := by decide +kernel
theorem dX5_product_8 : decode cX5_product 8 = .ok (.bipush 6, 2) := by decide +kernel
theorem dX5_product_10 : decode cX5_product 10 = .ok (.if_icmp .ge 32, 3) := by decide +kernel
theorem dX5_product_13 : decode cX5_product 13 = .ok (.iload_n 3, 1) := by decide +kernel
theorem dX5_product_14 : decode cX5_product 14 = .ok (.iload 6, 2) := by decide +kernel
theorem dX5_product_16 : decode cX5_product 16 = .ok (.ishr, 1) := by decide +kernel
theorem dX5_product_17 : decode cX5_product 17 = .ok (.iconst 1, 1) := by decide +kernel
theorem dX5_product_18 : decode cX5_product 18 = .ok (.iand, 1) := by decide +kernel
theorem dX5_product_19 : decode cX5_product 19 = .ok (.ifCond .ne 17, 3) := by decide +kernel
theorem dX5_product_22 : decode cX5_product 22 = .ok (.lload 4, 2) := by decide +kernel
theorem dX5_product_24 : decode cX5_product 24 = .ok (.aload_n 0, 1) := by decide +kernel
theorem dX5_product_25 : decode cX5_product 25 = .ok (.aload_n 1, 1) := by decide +kernel
theorem dX5_product_26 : decode cX5_product 26 = .ok (.aload_n 2, 1) := by decide +kernel
theorem dX5_product_27 : decode cX5_product 27 = .ok (.iload 6, 2) := by decide +kernel
theorem dX5_product_29 : decode cX5_product 29 = .ok (.iload_n 3, 1) := by decide +kernel
theorem dX5_product_30 : decode cX5_product 30 = .ok (.invokevirtual 157, 3) := by decide +kernel
theorem dX5_product_33 : decode cX5_product 33 = .ok (.ladd, 1) := by decide +kernel
theorem dX5_product_34 : decode cX5_product 34 = .ok (.lstore 4, 2) := by decide +kernel
theorem dX5_product_36 : decode cX5_product 36 = .ok (.iinc 6 1, 3) := by decide +kernel
theorem dX5_product_39 : decode cX5_product 39 = .ok (.goto (-33), 3) := by decide +kernel
theorem dX5_product_42 : decode cX5_product 42 = .ok (.lload 4, 2) := by decide +kernel
theorem dX5_product_44 : decode cX5_product 44 = .ok (.lreturn, 1) := by decide +kernel
theorem dX5_part_0 : decode cX5_part 0 = .ok (.iload_n 3, 1) := by decide +kernel
theorem dX5_part_1 : decode cX5_part 1 = .ok (.ifCond .lt 9, 3) := by decide +kernel
theorem dX5_part_4 : decode cX5_part 4 = .ok (.iload_n 3, 1) := by decide +kernel
theorem dX5_part_5 : decode cX5_part 5 = .ok (.aload_n 1, 1) := by decide +kernel
theorem dX5_part_6 : decode cX5_part 6 = .ok (.arraylength, 1) := by decide +kernel
theorem dX5_part_7 : decode cX5_part 7 = .ok (.if_icmp .lt 5, 3) := by decide +kernel
theorem dX5_part_10 : decode cX5_part 10 = .ok (.lconst 0, 1) := by decide +kernel
theorem dX5_part_11 : decode cX5_part 11 = .ok (.lreturn, 1) := by decide +kernel
theorem dX5_part_12 : decode cX5_part 12 = .ok (.lconst 0, 1) := by decide +kernel
theorem dX5_part_13 : decode cX5_part 13 = .ok (.lstore 5, 2) := by decide +kernel
theorem dX5_part_15 : decode cX5_part 15 = .ok (.iconst 0, 1) := by decide +kernel
theorem dX5_part_16 : decode cX5_part 16 = .ok (.istore 7, 2) := by decide +kernel
theorem dX5_part_18 : decode cX5_part 18 = .ok (.iload 7, 2) := by decide +kernel
theorem dX5_part_20 : decode cX5_part 20 = .ok (.bipush 6, 2) := by decide +kernel
theorem dX5_part_22 : decode cX5_part 22 = .ok (.if_icmp .ge 51, 3) := by decide +kernel
theorem dX5_part_25 : decode cX5_part 25 = .ok (.iload 7, 2) := by decide +kernel
theorem dX5_part_27 : decode cX5_part 27 = .ok (.aload_n 2, 1) := by decide +kernel
theorem dX5_part_28 : decode cX5_part 28 = .ok (.arraylength, 1) := by decide +kernel
theorem dX5_part_29 : decode cX5_part 29 = .ok (.if_icmp .ge 44, 3) := by decide +kernel
theorem dX5_part_32 : decode cX5_part 32 = .ok (.iload 4, 2) := by decide +kernel
theorem dX5_part_34 : decode cX5_part 34 = .ok (.iload 7, 2) := by decide +kernel
theorem dX5_part_36 : decode cX5_part 36 = .ok (.ishr, 1) := by decide +kernel
theorem dX5_part_37 : decode cX5_part 37 = .ok (.iconst 1, 1) := by decide +kernel
theorem dX5_part_38 : decode cX5_part 38 = .ok (.iand, 1) := by decide +kernel
theorem dX5_part_39 : decode cX5_part 39 = .ok (.ifCond .ne 28, 3) := by decide +kernel
theorem dX5_part_42 : decode cX5_part 42 = .ok (.lload 5, 2) := by decide +kernel
theorem dX5_part_44 : decode cX5_part 44 = .ok (.aload_n 1, 1) := by decide +kernel
theorem dX5_part_45 : decode cX5_part 45 = .ok (.iload_n 3, 1) := by decide +kernel
theorem dX5_part_46 : decode cX5_part 46 = .ok (.laload, 1) := by decide +kernel
theorem dX5_part_47 : decode cX5_part 47 = .ok (.aload_n 2, 1) := by decide +kernel
theorem dX5_part_48 : decode cX5_part 48 = .ok (.iload 7, 2) := by decide +kernel
theorem dX5_part_50 : decode cX5_part 50 = .ok (.laload, 1) := by decide +kernel
theorem dX5_part_51 : decode cX5_part 51 = .ok (.lmul, 1) := by decide +kernel
theorem dX5_part_52 : decode cX5_part 52 = .ok (.aload_n 0, 1) := by decide +kernel
theorem dX5_part_53 : decode cX5_part 53 = .ok (.getfield 12, 3) := by decide +kernel
theorem dX5_part_56 : decode cX5_part 56 = .ok (.iload_n 3, 1) := by decide +kernel
theorem dX5_part_57 : decode cX5_part 57 = .ok (.iload 7, 2) := by decide +kernel
theorem dX5_part_59 : decode cX5_part 59 = .ok (.invokevirtual 112, 3) := by decide +kernel
theorem dX5_part_62 : decode cX5_part 62 = .ok (.i2l, 1) := by decide +kernel
theorem dX5_part_63 : decode cX5_part 63 = .ok (.lmul, 1) := by decide +kernel
theorem dX5_part_64 : decode cX5_part 64 = .ok (.ladd, 1) := by decide +kernel
theorem dX5_part_65 : decode cX5_part 65 = .ok (.lstore 5, 2) := by decide +kernel
theorem dX5_part_67 : decode cX5_part 67 = .ok (.iinc 7 1, 3) := by decide +kernel
theorem dX5_part_70 : decode cX5_part 70 = .ok (.goto (-52), 3) := by decide +kernel
theorem dX5_part_73 : decode cX5_part 73 = .ok (.lload 5, 2) := by decide +kernel
theorem dX5_part_75 : decode cX5_part 75 = .ok (.lreturn, 1) := by decide +kernel
theorem dX5_explains_0 : decode cX5_explains 0 = .ok (.iconst 0, 1) := by decide +kernel
theorem dX5_explains_1 : decode cX5_explains 1 = .ok (.istore_n 3, 1) := by decide +kernel
theorem dX5_explains_2 : decode cX5_explains 2 = .ok (.iload_n 3, 1) := by decide +kernel
theorem dX5_explains_3 : decode cX5_explains 3 = .ok (.aload_n 0, 1) := by decide +kernel
theorem dX5_explains_4 : decode cX5_explains 4 = .ok (.getfield 92, 3) := by decide +kernel
theorem dX5_explains_7 : decode cX5_explains 7 = .ok (.if_icmp .ge 42, 3) := by decide +kernel
theorem dX5_explains_10 : decode cX5_explains 10 = .ok (.iload_n 3, 1) := by decide +kernel
theorem dX5_explains_11 : decode cX5_explains 11 = .ok (.bipush 6, 2) := by decide +kernel
theorem dX5_explains_13 : decode cX5_explains 13 = .ok (.if_icmp .ge 36, 3) := by decide +kernel
theorem dX5_explains_16 : decode cX5_explains 16 = .ok (.aload_n 0, 1) := by decide +kernel
theorem dX5_explains_17 : decode cX5_explains 17 = .ok (.getfield 42, 3) := by decide +kernel
theorem dX5_explains_20 : decode cX5_explains 20 = .ok (.aload_n 0, 1) := by decide +kernel
theorem dX5_explains_21 : decode cX5_explains 21 = .ok (.getfield 52, 3) := by decide +kernel
theorem dX5_explains_24 : decode cX5_explains 24 = .ok (.iload_n 3, 1) := by decide +kernel
theorem dX5_explains_25 : decode cX5_explains 25 = .ok (.iaload, 1) := by decide +kernel
theorem dX5_explains_26 : decode cX5_explains 26 = .ok (.iload_n 1, 1) := by decide +kernel
theorem dX5_explains_27 : decode cX5_explains 27 = .ok (.iload_n 2, 1) := by decide +kernel
theorem dX5_explains_28 : decode cX5_explains 28 = .ok (.invokevirtual 136, 3) := by decide +kernel
theorem dX5_explains_31 : decode cX5_explains 31 = .ok (.aload_n 0, 1) := by decide +kernel
theorem dX5_explains_32 : decode cX5_explains 32 = .ok (.getfield 56, 3) := by decide +kernel
theorem dX5_explains_35 : decode cX5_explains 35 = .ok (.iload_n 3, 1) := by decide +kernel
theorem dX5_explains_36 : decode cX5_explains 36 = .ok (.laload, 1) := by decide +kernel
theorem dX5_explains_37 : decode cX5_explains 37 = .ok (.lcmp, 1) := by decide +kernel
theorem dX5_explains_38 : decode cX5_explains 38 = .ok (.ifCond .eq 5, 3) := by decide +kernel
theorem dX5_explains_41 : decode cX5_explains 41 = .ok (.iconst 0, 1) := by decide +kernel
theorem dX5_explains_42 : decode cX5_explains 42 = .ok (.ireturn, 1) := by decide +kernel
theorem dX5_explains_43 : decode cX5_explains 43 = .ok (.iinc 3 1, 3) := by decide +kernel
theorem dX5_explains_46 : decode cX5_explains 46 = .ok (.goto (-44), 3) := by decide +kernel
theorem dX5_explains_49 : decode cX5_explains 49 = .ok (.iconst 1, 1) := by decide +kernel
theorem dX5_explains_50 : decode cX5_explains 50 = .ok (.ireturn, 1) := by decide +kernel
theorem dJ6_bitCount_0f7a4_0 : decode cJ6_bitCount_0f7a4 0 = .ok (.iload_n 0, 1) := by decide +kernel
theorem dJ6_bitCount_0f7a4_1 : decode cJ6_bitCount_0f7a4 1 = .ok (.iload_n 0, 1) := by decide +kernel
theorem dJ6_bitCount_0f7a4_2 : decode cJ6_bitCount_0f7a4 2 = .ok (.iconst 1, 1) := by decide +kernel
theorem dJ6_bitCount_0f7a4_3 : decode cJ6_bitCount_0f7a4 3 = .ok (.iushr, 1) := by decide +kernel
theorem dJ6_bitCount_0f7a4_4 : decode cJ6_bitCount_0f7a4 4 = .ok (.ldc_w 265, 3) := by decide +kernel
theorem dJ6_bitCount_0f7a4_7 : decode cJ6_bitCount_0f7a4 7 = .ok (.iand, 1) := by decide +kernel
theorem dJ6_bitCount_0f7a4_8 : decode cJ6_bitCount_0f7a4 8 = .ok (.isub, 1) := by decide +kernel
theorem dJ6_bitCount_0f7a4_9 : decode cJ6_bitCount_0f7a4 9 = .ok (.istore_n 0, 1) := by decide +kernel
theorem dJ6_bitCount_0f7a4_10 : decode cJ6_bitCount_0f7a4 10 = .ok (.iload_n 0, 1) := by decide +kernel
theorem dJ6_bitCount_0f7a4_11 : decode cJ6_bitCount_0f7a4 11 = .ok (.ldc_w 266, 3) := by decide +kernel
theorem dJ6_bitCount_0f7a4_14 : decode cJ6_bitCount_0f7a4 14 = .ok (.iand, 1) := by decide +kernel
theorem dJ6_bitCount_0f7a4_15 : decode cJ6_bitCount_0f7a4 15 = .ok (.iload_n 0, 1) := by decide +kernel
theorem dJ6_bitCount_0f7a4_16 : decode cJ6_bitCount_0f7a4 16 = .ok (.iconst 2, 1) := by decide +kernel
theorem dJ6_bitCount_0f7a4_17 : decode cJ6_bitCount_0f7a4 17 = .ok (.iushr, 1) := by decide +kernel
theorem dJ6_bitCount_0f7a4_18 : decode cJ6_bitCount_0f7a4 18 = .ok (.ldc_w 266, 3) := by decide +kernel
theorem dJ6_bitCount_0f7a4_21 : decode cJ6_bitCount_0f7a4 21 = .ok (.iand, 1) := by decide +kernel
theorem dJ6_bitCount_0f7a4_22 : decode cJ6_bitCount_0f7a4 22 = .ok (.iadd, 1) := by decide +kernel
theorem dJ6_bitCount_0f7a4_23 : decode cJ6_bitCount_0f7a4 23 = .ok (.istore_n 0, 1) := by decide +kernel
theorem dJ6_bitCount_0f7a4_24 : decode cJ6_bitCount_0f7a4 24 = .ok (.iload_n 0, 1) := by decide +kernel
theorem dJ6_bitCount_0f7a4_25 : decode cJ6_bitCount_0f7a4 25 = .ok (.iload_n 0, 1) := by decide +kernel
theorem dJ6_bitCount_0f7a4_26 : decode cJ6_bitCount_0f7a4 26 = .ok (.iconst 4, 1) := by decide +kernel
theorem dJ6_bitCount_0f7a4_27 : decode cJ6_bitCount_0f7a4 27 = .ok (.iushr, 1) := by decide +kernel
theorem dJ6_bitCount_0f7a4_28 : decode cJ6_bitCount_0f7a4 28 = .ok (.iadd, 1) := by decide +kernel
theorem dJ6_bitCount_0f7a4_29 : decode cJ6_bitCount_0f7a4 29 = .ok (.ldc_w 267, 3) := by decide +kernel
theorem dJ6_bitCount_0f7a4_32 : decode cJ6_bitCount_0f7a4 32 = .ok (.iand, 1) := by decide +kernel
theorem dJ6_bitCount_0f7a4_33 : decode cJ6_bitCount_0f7a4 33 = .ok (.istore_n 0, 1) := by decide +kernel
theorem dJ6_bitCount_0f7a4_34 : decode cJ6_bitCount_0f7a4 34 = .ok (.iload_n 0, 1) := by decide +kernel
theorem dJ6_bitCount_0f7a4_35 : decode cJ6_bitCount_0f7a4 35 = .ok (.iload_n 0, 1) := by decide +kernel
theorem dJ6_bitCount_0f7a4_36 : decode cJ6_bitCount_0f7a4 36 = .ok (.bipush 8, 2) := by decide +kernel
theorem dJ6_bitCount_0f7a4_38 : decode cJ6_bitCount_0f7a4 38 = .ok (.iushr, 1) := by decide +kernel
theorem dJ6_bitCount_0f7a4_39 : decode cJ6_bitCount_0f7a4 39 = .ok (.iadd, 1) := by decide +kernel
theorem dJ6_bitCount_0f7a4_40 : decode cJ6_bitCount_0f7a4 40 = .ok (.istore_n 0, 1) := by decide +kernel
theorem dJ6_bitCount_0f7a4_41 : decode cJ6_bitCount_0f7a4 41 = .ok (.iload_n 0, 1) := by decide +kernel
theorem dJ6_bitCount_0f7a4_42 : decode cJ6_bitCount_0f7a4 42 = .ok (.iload_n 0, 1) := by decide +kernel
theorem dJ6_bitCount_0f7a4_43 : decode cJ6_bitCount_0f7a4 43 = .ok (.bipush 16, 2) := by decide +kernel
theorem dJ6_bitCount_0f7a4_45 : decode cJ6_bitCount_0f7a4 45 = .ok (.iushr, 1) := by decide +kernel
theorem dJ6_bitCount_0f7a4_46 : decode cJ6_bitCount_0f7a4 46 = .ok (.iadd, 1) := by decide +kernel
theorem dJ6_bitCount_0f7a4_47 : decode cJ6_bitCount_0f7a4 47 = .ok (.istore_n 0, 1) := by decide +kernel
theorem dJ6_bitCount_0f7a4_48 : decode cJ6_bitCount_0f7a4 48 = .ok (.iload_n 0, 1) := by decide +kernel
theorem dJ6_bitCount_0f7a4_49 : decode cJ6_bitCount_0f7a4 49 = .ok (.bipush 63, 2) := by decide +kernel
theorem dJ6_bitCount_0f7a4_51 : decode cJ6_bitCount_0f7a4 51 = .ok (.iand, 1) := by decide +kernel
theorem dJ6_bitCount_0f7a4_52 : decode cJ6_bitCount_0f7a4 52 = .ok (.ireturn, 1) := by decide +kernel
