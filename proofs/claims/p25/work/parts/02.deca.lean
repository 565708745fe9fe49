theorem dX0_init_0 : decode cX0_init 0 = .ok (.aload_n 0, 1) := by decide +kernel
theorem dX0_init_1 : decode cX0_init 1 = .ok (.invokespecial 3, 3) := by decide +kernel
theorem dX0_init_4 : decode cX0_init 4 = .ok (.aload_n 0, 1) := by decide +kernel
theorem dX0_init_5 : decode cX0_init 5 = .ok (.bipush 12, 2) := by decide +kernel
theorem dX0_init_7 : decode cX0_init 7 = .ok (.newarray .int, 2) := by decide +kernel
theorem dX0_init_9 : decode cX0_init 9 = .ok (.putfield 9, 3) := by decide +kernel
theorem dX0_init_12 : decode cX0_init 12 = .ok (.aload_n 0, 1) := by decide +kernel
theorem dX0_init_13 : decode cX0_init 13 = .ok (.bipush 12, 2) := by decide +kernel
theorem dX0_init_15 : decode cX0_init 15 = .ok (.newarray .int, 2) := by decide +kernel
theorem dX0_init_17 : decode cX0_init 17 = .ok (.putfield 15, 3) := by decide +kernel
theorem dX0_init_20 : decode cX0_init 20 = .ok (.aload_n 0, 1) := by decide +kernel
theorem dX0_init_21 : decode cX0_init 21 = .ok (.bipush 12, 2) := by decide +kernel
theorem dX0_init_23 : decode cX0_init 23 = .ok (.newarray .boolean, 2) := by decide +kernel
theorem dX0_init_25 : decode cX0_init 25 = .ok (.putfield 18, 3) := by decide +kernel
theorem dX0_init_28 : decode cX0_init 28 = .ok (.aload_n 0, 1) := by decide +kernel
theorem dX0_init_29 : decode cX0_init 29 = .ok (.bipush 12, 2) := by decide +kernel
theorem dX0_init_31 : decode cX0_init 31 = .ok (.newarray .boolean, 2) := by decide +kernel
theorem dX0_init_33 : decode cX0_init 33 = .ok (.putfield 22, 3) := by decide +kernel
theorem dX0_init_36 : decode cX0_init 36 = .ok (.return_, 1) := by decide +kernel
theorem dX0_become_0 : decode cX0_become 0 = .ok (.iconst 0, 1) := by decide +kernel
theorem dX0_become_1 : decode cX0_become 1 = .ok (.istore_n 2, 1) := by decide +kernel
theorem dX0_become_2 : decode cX0_become 2 = .ok (.iload_n 2, 1) := by decide +kernel
theorem dX0_become_3 : decode cX0_become 3 = .ok (.bipush 12, 2) := by decide +kernel
theorem dX0_become_5 : decode cX0_become 5 = .ok (.if_icmp .ge 57, 3) := by decide +kernel
theorem dX0_become_8 : decode cX0_become 8 = .ok (.aload_n 0, 1) := by decide +kernel
theorem dX0_become_9 : decode cX0_become 9 = .ok (.getfield 9, 3) := by decide +kernel
theorem dX0_become_12 : decode cX0_become 12 = .ok (.iload_n 2, 1) := by decide +kernel
theorem dX0_become_13 : decode cX0_become 13 = .ok (.aload_n 1, 1) := by decide +kernel
theorem dX0_become_14 : decode cX0_become 14 = .ok (.getfield 9, 3) := by decide +kernel
theorem dX0_become_17 : decode cX0_become 17 = .ok (.iload_n 2, 1) := by decide +kernel
theorem dX0_become_18 : decode cX0_become 18 = .ok (.iaload, 1) := by decide +kernel
theorem dX0_become_19 : decode cX0_become 19 = .ok (.iastore, 1) := by decide +kernel
theorem dX0_become_20 : decode cX0_become 20 = .ok (.aload_n 0, 1) := by decide +kernel
theorem dX0_become_21 : decode cX0_become 21 = .ok (.getfield 15, 3) := by decide +kernel
theorem dX0_become_24 : decode cX0_become 24 = .ok (.iload_n 2, 1) := by decide +kernel
theorem dX0_become_25 : decode cX0_become 25 = .ok (.aload_n 1, 1) := by decide +kernel
theorem dX0_become_26 : decode cX0_become 26 = .ok (.getfield 15, 3) := by decide +kernel
theorem dX0_become_29 : decode cX0_become 29 = .ok (.iload_n 2, 1) := by decide +kernel
theorem dX0_become_30 : decode cX0_become 30 = .ok (.iaload, 1) := by decide +kernel
theorem dX0_become_31 : decode cX0_become 31 = .ok (.iastore, 1) := by decide +kernel
theorem dX0_become_32 : decode cX0_become 32 = .ok (.aload_n 0, 1) := by decide +kernel
theorem dX0_become_33 : decode cX0_become 33 = .ok (.getfield 18, 3) := by decide +kernel
theorem dX0_become_36 : decode cX0_become 36 = .ok (.iload_n 2, 1) := by decide +kernel
theorem dX0_become_37 : decode cX0_become 37 = .ok (.aload_n 1, 1) := by decide +kernel
theorem dX0_become_38 : decode cX0_become 38 = .ok (.getfield 18, 3) := by decide +kernel
theorem dX0_become_41 : decode cX0_become 41 = .ok (.iload_n 2, 1) := by decide +kernel
theorem dX0_become_42 : decode cX0_become 42 = .ok (.baload, 1) := by decide +kernel
theorem dX0_become_43 : decode cX0_become 43 = .ok (.bastore, 1) := by decide +kernel
theorem dX0_become_44 : decode cX0_become 44 = .ok (.aload_n 0, 1) := by decide +kernel
theorem dX0_become_45 : decode cX0_become 45 = .ok (.getfield 22, 3) := by decide +kernel
theorem dX0_become_48 : decode cX0_become 48 = .ok (.iload_n 2, 1) := by decide +kernel
theorem dX0_become_49 : decode cX0_become 49 = .ok (.aload_n 1, 1) := by decide +kernel
theorem dX0_become_50 : decode cX0_become 50 = .ok (.getfield 22, 3) := by decide +kernel
theorem dX0_become_53 : decode cX0_become 53 = .ok (.iload_n 2, 1) := by decide +kernel
theorem dX0_become_54 : decode cX0_become 54 = .ok (.baload, 1) := by decide +kernel
theorem dX0_become_55 : decode cX0_become 55 = .ok (.bastore, 1) := by decide +kernel
theorem dX0_become_56 : decode cX0_become 56 = .ok (.iinc 2 1, 3) := by decide +kernel
theorem dX0_become_59 : decode cX0_become 59 = .ok (.goto (-57), 3) := by decide +kernel
theorem dX0_become_62 : decode cX0_become 62 = .ok (.return_, 1) := by decide +kernel
theorem dX0_harmOf_0 : decode cX0_harmOf 0 = .ok (.aload_n 0, 1) := by decide +kernel
theorem dX0_harmOf_1 : decode cX0_harmOf 1 = .ok (.getfield 18, 3) := by decide +kernel
theorem dX0_harmOf_4 : decode cX0_harmOf 4 = .ok (.iload_n 1, 1) := by decide +kernel
theorem dX0_harmOf_5 : decode cX0_harmOf 5 = .ok (.baload, 1) := by decide +kernel
theorem dX0_harmOf_6 : decode cX0_harmOf 6 = .ok (.ifCond .eq 6, 3) := by decide +kernel
theorem dX0_harmOf_9 : decode cX0_harmOf 9 = .ok (.bipush 60, 2) := by decide +kernel
theorem dX0_harmOf_11 : decode cX0_harmOf 11 = .ok (.ireturn, 1) := by decide +kernel
theorem dX0_harmOf_12 : decode cX0_harmOf 12 = .ok (.bipush 60, 2) := by decide +kernel
theorem dX0_harmOf_14 : decode cX0_harmOf 14 = .ok (.aload_n 0, 1) := by decide +kernel
theorem dX0_harmOf_15 : decode cX0_harmOf 15 = .ok (.getfield 15, 3) := by decide +kernel
theorem dX0_harmOf_18 : decode cX0_harmOf 18 = .ok (.iload_n 1, 1) := by decide +kernel
theorem dX0_harmOf_19 : decode cX0_harmOf 19 = .ok (.iaload, 1) := by decide +kernel
theorem dX0_harmOf_20 : decode cX0_harmOf 20 = .ok (.invokestatic 25, 3) := by decide +kernel
theorem dX0_harmOf_23 : decode cX0_harmOf 23 = .ok (.iconst 2, 1) := by decide +kernel
theorem dX0_harmOf_24 : decode cX0_harmOf 24 = .ok (.aload_n 0, 1) := by decide +kernel
theorem dX0_harmOf_25 : decode cX0_harmOf 25 = .ok (.getfield 9, 3) := by decide +kernel
theorem dX0_harmOf_28 : decode cX0_harmOf 28 = .ok (.iload_n 1, 1) := by decide +kernel
theorem dX0_harmOf_29 : decode cX0_harmOf 29 = .ok (.iaload, 1) := by decide +kernel
theorem dX0_harmOf_30 : decode cX0_harmOf 30 = .ok (.imul, 1) := by decide +kernel
theorem dX0_harmOf_31 : decode cX0_harmOf 31 = .ok (.iadd, 1) := by decide +kernel
theorem dX0_harmOf_32 : decode cX0_harmOf 32 = .ok (.invokestatic 31, 3) := by decide +kernel
theorem dX0_harmOf_35 : decode cX0_harmOf 35 = .ok (.ireturn, 1) := by decide +kernel
theorem dX0_wear_0 : decode cX0_wear 0 = .ok (.aload_n 0, 1) := by decide +kernel
theorem dX0_wear_1 : decode cX0_wear 1 = .ok (.getfield 9, 3) := by decide +kernel
theorem dX0_wear_4 : decode cX0_wear 4 = .ok (.iload_n 1, 1) := by decide +kernel
theorem dX0_wear_5 : decode cX0_wear 5 = .ok (.bipush 30, 2) := by decide +kernel
theorem dX0_wear_7 : decode cX0_wear 7 = .ok (.aload_n 0, 1) := by decide +kernel
theorem dX0_wear_8 : decode cX0_wear 8 = .ok (.getfield 9, 3) := by decide +kernel
theorem dX0_wear_11 : decode cX0_wear 11 = .ok (.iload_n 1, 1) := by decide +kernel
theorem dX0_wear_12 : decode cX0_wear 12 = .ok (.iaload, 1) := by decide +kernel
theorem dX0_wear_13 : decode cX0_wear 13 = .ok (.iload_n 2, 1) := by decide +kernel
theorem dX0_wear_14 : decode cX0_wear 14 = .ok (.iadd, 1) := by decide +kernel
theorem dX0_wear_15 : decode cX0_wear 15 = .ok (.invokestatic 31, 3) := by decide +kernel
theorem dX0_wear_18 : decode cX0_wear 18 = .ok (.iastore, 1) := by decide +kernel
theorem dX0_wear_19 : decode cX0_wear 19 = .ok (.aload_n 0, 1) := by decide +kernel
theorem dX0_wear_20 : decode cX0_wear 20 = .ok (.getfield 22, 3) := by decide +kernel
theorem dX0_wear_23 : decode cX0_wear 23 = .ok (.iload_n 1, 1) := by decide +kernel
theorem dX0_wear_24 : decode cX0_wear 24 = .ok (.iconst 1, 1) := by decide +kernel
theorem dX0_wear_25 : decode cX0_wear 25 = .ok (.bastore, 1) := by decide +kernel
theorem dX0_wear_26 : decode cX0_wear 26 = .ok (.return_, 1) := by decide +kernel
theorem dX0_shift_0 : decode cX0_shift 0 = .ok (.aload_n 0, 1) := by decide +kernel
theorem dX0_shift_1 : decode cX0_shift 1 = .ok (.getfield 15, 3) := by decide +kernel
theorem dX0_shift_4 : decode cX0_shift 4 = .ok (.iload_n 1, 1) := by decide +kernel
theorem dX0_shift_5 : decode cX0_shift 5 = .ok (.bipush (-60), 2) := by decide +kernel
theorem dX0_shift_7 : decode cX0_shift 7 = .ok (.bipush 60, 2) := by decide +kernel
theorem dX0_shift_9 : decode cX0_shift 9 = .ok (.aload_n 0, 1) := by decide +kernel
theorem dX0_shift_10 : decode cX0_shift 10 = .ok (.getfield 15, 3) := by decide +kernel
theorem dX0_shift_13 : decode cX0_shift 13 = .ok (.iload_n 1, 1) := by decide +kernel
theorem dX0_shift_14 : decode cX0_shift 14 = .ok (.iaload, 1) := by decide +kernel
theorem dX0_shift_15 : decode cX0_shift 15 = .ok (.iload_n 2, 1) := by decide +kernel
theorem dX0_shift_16 : decode cX0_shift 16 = .ok (.iadd, 1) := by decide +kernel
theorem dX0_shift_17 : decode cX0_shift 17 = .ok (.invokestatic 31, 3) := by decide +kernel
theorem dX0_shift_20 : decode cX0_shift 20 = .ok (.invokestatic 35, 3) := by decide +kernel
theorem dX0_shift_23 : decode cX0_shift 23 = .ok (.iastore, 1) := by decide +kernel
theorem dX0_shift_24 : decode cX0_shift 24 = .ok (.return_, 1) := by decide +kernel
theorem dX0_passNight_0 : decode cX0_passNight 0 = .ok (.iconst 0, 1) := by decide +kernel
theorem dX0_passNight_1 : decode cX0_passNight 1 = .ok (.istore_n 2, 1) := by decide +kernel
theorem dX0_passNight_2 : decode cX0_passNight 2 = .ok (.iconst 0, 1) := by decide +kernel
theorem dX0_passNight_3 : decode cX0_passNight 3 = .ok (.istore_n 3, 1) := by decide +kernel
theorem dX0_passNight_4 : decode cX0_passNight 4 = .ok (.iload_n 3, 1) := by decide +kernel
theorem dX0_passNight_5 : decode cX0_passNight 5 = .ok (.bipush 12, 2) := by decide +kernel
theorem dX0_passNight_7 : decode cX0_passNight 7 = .ok (.if_icmp .ge 72, 3) := by decide +kernel
theorem dX0_passNight_10 : decode cX0_passNight 10 = .ok (.aload_n 0, 1) := by decide +kernel
theorem dX0_passNight_11 : decode cX0_passNight 11 = .ok (.getfield 9, 3) := by decide +kernel
theorem dX0_passNight_14 : decode cX0_passNight 14 = .ok (.iload_n 3, 1) := by decide +kernel
theorem dX0_passNight_15 : decode cX0_passNight 15 = .ok (.iaload, 1) := by decide +kernel
theorem dX0_passNight_16 : decode cX0_passNight 16 = .ok (.bipush 10, 2) := by decide +kernel
theorem dX0_passNight_18 : decode cX0_passNight 18 = .ok (.if_icmp .lt 31, 3) := by decide +kernel
theorem dX0_passNight_21 : decode cX0_passNight 21 = .ok (.aload_n 0, 1) := by decide +kernel
theorem dX0_passNight_22 : decode cX0_passNight 22 = .ok (.getfield 22, 3) := by decide +kernel
theorem dX0_passNight_25 : decode cX0_passNight 25 = .ok (.iload_n 3, 1) := by decide +kernel
theorem dX0_passNight_26 : decode cX0_passNight 26 = .ok (.baload, 1) := by decide +kernel
theorem dX0_passNight_27 : decode cX0_passNight 27 = .ok (.ifCond .ne 22, 3) := by decide +kernel
theorem dX0_passNight_30 : decode cX0_passNight 30 = .ok (.aload_n 0, 1) := by decide +kernel
theorem dX0_passNight_31 : decode cX0_passNight 31 = .ok (.getfield 18, 3) := by decide +kernel
theorem dX0_passNight_34 : decode cX0_passNight 34 = .ok (.iload_n 3, 1) := by decide +kernel
theorem dX0_passNight_35 : decode cX0_passNight 35 = .ok (.baload, 1) := by decide +kernel
theorem dX0_passNight_36 : decode cX0_passNight 36 = .ok (.ifCond .ne 13, 3) := by decide +kernel
theorem dX0_passNight_39 : decode cX0_passNight 39 = .ok (.aload_n 0, 1) := by decide +kernel
theorem dX0_passNight_40 : decode cX0_passNight 40 = .ok (.getfield 18, 3) := by decide +kernel
theorem dX0_passNight_43 : decode cX0_passNight 43 = .ok (.iload_n 3, 1) := by decide +kernel
theorem dX0_passNight_44 : decode cX0_passNight 44 = .ok (.iconst 1, 1) := by decide +kernel
theorem dX0_passNight_45 : decode cX0_passNight 45 = .ok (.bastore, 1) := by decide +kernel
theorem dX0_passNight_46 : decode cX0_passNight 46 = .ok (.iinc 2 1, 3) := by decide +kernel
theorem dX0_passNight_49 : decode cX0_passNight 49 = .ok (.aload_n 0, 1) := by decide +kernel
theorem dX0_passNight_50 : decode cX0_passNight 50 = .ok (.iload_n 3, 1) := by decide +kernel
theorem dX0_passNight_51 : decode cX0_passNight 51 = .ok (.iload_n 3, 1) := by decide +kernel
theorem dX0_passNight_52 : decode cX0_passNight 52 = .ok (.iconst 2, 1) := by decide +kernel
theorem dX0_passNight_53 : decode cX0_passNight 53 = .ok (.irem, 1) := by decide +kernel
theorem dX0_passNight_54 : decode cX0_passNight 54 = .ok (.ifCond .ne 7, 3) := by decide +kernel
theorem dX0_passNight_57 : decode cX0_passNight 57 = .ok (.iload_n 1, 1) := by decide +kernel
theorem dX0_passNight_58 : decode cX0_passNight 58 = .ok (.goto 5, 3) := by decide +kernel
theorem dX0_passNight_61 : decode cX0_passNight 61 = .ok (.iload_n 1, 1) := by decide +kernel
theorem dX0_passNight_62 : decode cX0_passNight 62 = .ok (.ineg, 1) := by decide +kernel
theorem dX0_passNight_63 : decode cX0_passNight 63 = .ok (.invokevirtual 38, 3) := by decide +kernel
theorem dX0_passNight_66 : decode cX0_passNight 66 = .ok (.aload_n 0, 1) := by decide +kernel
theorem dX0_passNight_67 : decode cX0_passNight 67 = .ok (.getfield 22, 3) := by decide +kernel
theorem dX0_passNight_70 : decode cX0_passNight 70 = .ok (.iload_n 3, 1) := by decide +kernel
theorem dX0_passNight_71 : decode cX0_passNight 71 = .ok (.iconst 0, 1) := by decide +kernel
theorem dX0_passNight_72 : decode cX0_passNight 72 = .ok (.bastore, 1) := by decide +kernel
theorem dX0_passNight_73 : decode cX0_passNight 73 = .ok (.iinc 3 1, 3) := by decide +kernel
theorem dX0_passNight_76 : decode cX0_passNight 76 = .ok (.goto (-72), 3) := by decide +kernel
theorem dX0_passNight_79 : decode cX0_passNight 79 = .ok (.iload_n 2, 1) := by decide +kernel
theorem dX0_passNight_80 : decode cX0_passNight 80 = .ok (.ireturn, 1) := by decide +kernel
theorem dX0_clearCrickets_0 : decode cX0_clearCrickets 0 = .ok (.iconst 0, 1) := by decide +kernel
theorem dX0_clearCrickets_1 : decode cX0_clearCrickets 1 = .ok (.istore_n 1, 1) := by decide +kernel
theorem dX0_clearCrickets_2 : decode cX0_clearCrickets 2 = .ok (.iload_n 1, 1) := by decide +kernel
theorem dX0_clearCrickets_3 : decode cX0_clearCrickets 3 = .ok (.bipush 12, 2) := by decide +kernel
theorem dX0_clearCrickets_5 : decode cX0_clearCrickets 5 = .ok (.if_icmp .ge 16, 3) := by decide +kernel
theorem dX0_clearCrickets_8 : decode cX0_clearCrickets 8 = .ok (.aload_n 0, 1) := by decide +kernel
theorem dX0_clearCrickets_9 : decode cX0_clearCrickets 9 = .ok (.getfield 18, 3) := by decide +kernel
theorem dX0_clearCrickets_12 : decode cX0_clearCrickets 12 = .ok (.iload_n 1, 1) := by decide +kernel
theorem dX0_clearCrickets_13 : decode cX0_clearCrickets 13 = .ok (.iconst 0, 1) := by decide +kernel
theorem dX0_clearCrickets_14 : decode cX0_clearCrickets 14 = .ok (.bastore, 1) := by decide +kernel
theorem dX0_clearCrickets_15 : decode cX0_clearCrickets 15 = .ok (.iinc 1 1, 3) := by decide +kernel
theorem dX0_clearCrickets_18 : decode cX0_clearCrickets 18 = .ok (.goto (-16), 3) := by decide +kernel
theorem dX0_clearCrickets_21 : decode cX0_clearCrickets 21 = .ok (.return_, 1) := by decide +kernel
theorem dX0_cricketCount_0 : decode cX0_cricketCount 0 = .ok (.iconst 0, 1) := by decide +kernel
theorem dX0_cricketCount_1 : decode cX0_cricketCount 1 = .ok (.istore_n 1, 1) := by decide +kernel
theorem dX0_cricketCount_2 : decode cX0_cricketCount 2 = .ok (.iconst 0, 1) := by decide +kernel
theorem dX0_cricketCount_3 : decode cX0_cricketCount 3 = .ok (.istore_n 2, 1) := by decide +kernel
theorem dX0_cricketCount_4 : decode cX0_cricketCount 4 = .ok (.iload_n 2, 1) := by decide +kernel
theorem dX0_cricketCount_5 : decode cX0_cricketCount 5 = .ok (.bipush 12, 2) := by decide +kernel
theorem dX0_cricketCount_7 : decode cX0_cricketCount 7 = .ok (.if_icmp .ge 26, 3) := by decide +kernel
theorem dX0_cricketCount_10 : decode cX0_cricketCount 10 = .ok (.iload_n 1, 1) := by decide +kernel
theorem dX0_cricketCount_11 : decode cX0_cricketCount 11 = .ok (.aload_n 0, 1) := by decide +kernel
theorem dX0_cricketCount_12 : decode cX0_cricketCount 12 = .ok (.getfield 18, 3) := by decide +kernel
theorem dX0_cricketCount_15 : decode cX0_cricketCount 15 = .ok (.iload_n 2, 1) := by decide +kernel
theorem dX0_cricketCount_16 : decode cX0_cricketCount 16 = .ok (.baload, 1) := by decide +kernel
theorem dX0_cricketCount_17 : decode cX0_cricketCount 17 = .ok (.ifCond .eq 7, 3) := by decide +kernel
theorem dX0_cricketCount_20 : decode cX0_cricketCount 20 = .ok (.iconst 1, 1) := by decide +kernel
theorem dX0_cricketCount_21 : decode cX0_cricketCount 21 = .ok (.goto 4, 3) := by decide +kernel
theorem dX0_cricketCount_24 : decode cX0_cricketCount 24 = .ok (.iconst 0, 1) := by decide +kernel
theorem dX0_cricketCount_25 : decode cX0_cricketCount 25 = .ok (.iadd, 1) := by decide +kernel
theorem dX0_cricketCount_26 : decode cX0_cricketCount 26 = .ok (.istore_n 1, 1) := by decide +kernel
theorem dX0_cricketCount_27 : decode cX0_cricketCount 27 = .ok (.iinc 2 1, 3) := by decide +kernel
theorem dX0_cricketCount_30 : decode cX0_cricketCount 30 = .ok (.goto (-26), 3) := by decide +kernel
theorem dX0_cricketCount_33 : decode cX0_cricketCount 33 = .ok (.iload_n 1, 1) := by decide +kernel
theorem dX0_cricketCount_34 : decode cX0_cricketCount 34 = .ok (.ireturn, 1) := by decide +kernel
theorem dX0_wornInAll_0 : decode cX0_wornInAll 0 = .ok (.iconst 0, 1) := by decide +kernel
theorem dX0_wornInAll_1 : decode cX0_wornInAll 1 = .ok (.istore_n 1, 1) := by decide +kernel
theorem dX0_wornInAll_2 : decode cX0_wornInAll 2 = .ok (.iconst 0, 1) := by decide +kernel
theorem dX0_wornInAll_3 : decode cX0_wornInAll 3 = .ok (.istore_n 2, 1) := by decide +kernel
theorem dX0_wornInAll_4 : decode cX0_wornInAll 4 = .ok (.iload_n 2, 1) := by decide +kernel
theorem dX0_wornInAll_5 : decode cX0_wornInAll 5 = .ok (.bipush 12, 2) := by decide +kernel
theorem dX0_wornInAll_7 : decode cX0_wornInAll 7 = .ok (.if_icmp .ge 18, 3) := by decide +kernel
theorem dX0_wornInAll_10 : decode cX0_wornInAll 10 = .ok (.iload_n 1, 1) := by decide +kernel
theorem dX0_wornInAll_11 : decode cX0_wornInAll 11 = .ok (.aload_n 0, 1) := by decide +kernel
theorem dX0_wornInAll_12 : decode cX0_wornInAll 12 = .ok (.getfield 9, 3) := by decide +kernel
theorem dX0_wornInAll_15 : decode cX0_wornInAll 15 = .ok (.iload_n 2, 1) := by decide +kernel
theorem dX0_wornInAll_16 : decode cX0_wornInAll 16 = .ok (.iaload, 1) := by decide +kernel
theorem dX0_wornInAll_17 : decode cX0_wornInAll 17 = .ok (.iadd, 1) := by decide +kernel
theorem dX0_wornInAll_18 : decode cX0_wornInAll 18 = .ok (.istore_n 1, 1) := by decide +kernel
theorem dX0_wornInAll_19 : decode cX0_wornInAll 19 = .ok (.iinc 2 1, 3) := by decide +kernel
theorem dX0_wornInAll_22 : decode cX0_wornInAll 22 = .ok (.goto (-18), 3) := by decide +kernel
theorem dX0_wornInAll_25 : decode cX0_wornInAll 25 = .ok (.iload_n 1, 1) := by decide +kernel
theorem dX0_wornInAll_26 : decode cX0_wornInAll 26 = .ok (.ireturn, 1) := by decide +kernel
theorem dX0_offInAll_0 : decode cX0_offInAll 0 = .ok (.iconst 0, 1) := by decide +kernel
theorem dX0_offInAll_1 : decode cX0_offInAll 1 = .ok (.istore_n 1, 1) := by decide +kernel
theorem dX0_offInAll_2 : decode cX0_offInAll 2 = .ok (.iconst 0, 1) := by decide +kernel
theorem dX0_offInAll_3 : decode cX0_offInAll 3 = .ok (.istore_n 2, 1) := by decide +kernel
theorem dX0_offInAll_4 : decode cX0_offInAll 4 = .ok (.iload_n 2, 1) := by decide +kernel
theorem dX0_offInAll_5 : decode cX0_offInAll 5 = .ok (.bipush 12, 2) := by decide +kernel
theorem dX0_offInAll_7 : decode cX0_offInAll 7 = .ok (.if_icmp .ge 21, 3) := by decide +kernel
theorem dX0_offInAll_10 : decode cX0_offInAll 10 = .ok (.iload_n 1, 1) := by decide +kernel
theorem dX0_offInAll_11 : decode cX0_offInAll 11 = .ok (.aload_n 0, 1) := by decide +kernel
theorem dX0_offInAll_12 : decode cX0_offInAll 12 = .ok (.getfield 15, 3) := by decide +kernel
theorem dX0_offInAll_15 : decode cX0_offInAll 15 = .ok (.iload_n 2, 1) := by decide +kernel
theorem dX0_offInAll_16 : decode cX0_offInAll 16 = .ok (.iaload, 1) := by decide +kernel
theorem dX0_offInAll_17 : decode cX0_offInAll 17 = .ok (.invokestatic 25, 3) := by decide +kernel
theorem dX0_offInAll_20 : decode cX0_offInAll 20 = .ok (.iadd, 1) := by decide +kernel
theorem dX0_offInAll_21 : decode cX0_offInAll 21 = .ok (.istore_n 1, 1) := by decide +kernel
theorem dX0_offInAll_22 : decode cX0_offInAll 22 = .ok (.iinc 2 1, 3) := by decide +kernel
theorem dX0_offInAll_25 : decode cX0_offInAll 25 = .ok (.goto (-21), 3) := by decide +kernel
theorem dX0_offInAll_28 : decode cX0_offInAll 28 = .ok (.iload_n 1, 1) := by decide +kernel
theorem dX0_offInAll_29 : decode cX0_offInAll 29 = .ok (.ireturn, 1) := by decide +kernel
theorem dX0_sumUp_0 : decode cX0_sumUp 0 = .ok (.iload_n 1, 1) := by decide +kernel
theorem dX0_sumUp_1 : decode cX0_sumUp 1 = .ok (.lookupswitch 37 #[(5, 27), (6, 32)], 27) := by decide +kernel
theorem dX0_sumUp_28 : decode cX0_sumUp 28 = .ok (.aload_n 0, 1) := by decide +kernel
theorem dX0_sumUp_29 : decode cX0_sumUp 29 = .ok (.invokevirtual 42, 3) := by decide +kernel
theorem dX0_sumUp_32 : decode cX0_sumUp 32 = .ok (.ireturn, 1) := by decide +kernel
theorem dX0_sumUp_33 : decode cX0_sumUp 33 = .ok (.aload_n 0, 1) := by decide +kernel
theorem dX0_sumUp_34 : decode cX0_sumUp 34 = .ok (.invokevirtual 46, 3) := by decide +kernel
theorem dX0_sumUp_37 : decode cX0_sumUp 37 = .ok (.ireturn, 1) := by decide +kernel
theorem dX0_sumUp_38 : decode cX0_sumUp 38 = .ok (.aload_n 0, 1) := by decide +kernel
theorem dX0_sumUp_39 : decode cX0_sumUp 39 = .ok (.invokevirtual 49, 3) := by decide +kernel
theorem dX0_sumUp_42 : decode cX0_sumUp 42 = .ok (.ireturn, 1) := by decide +kernel
theorem dX0_tell_0 : decode cX0_tell 0 = .ok (.iload_n 2, 1) := by decide +kernel
theorem dX0_tell_1 : decode cX0_tell 1 = .ok (.tableswitch 66 0 3 #[31, 38, 45, 60], 31) := by decide +kernel
theorem dX0_tell_32 : decode cX0_tell 32 = .ok (.aload_n 0, 1) := by decide +kernel
theorem dX0_tell_33 : decode cX0_tell 33 = .ok (.getfield 9, 3) := by decide +kernel
theorem dX0_tell_36 : decode cX0_tell 36 = .ok (.iload_n 1, 1) := by decide +kernel
theorem dX0_tell_37 : decode cX0_tell 37 = .ok (.iaload, 1) := by decide +kernel
theorem dX0_tell_38 : decode cX0_tell 38 = .ok (.ireturn, 1) := by decide +kernel
theorem dX0_tell_39 : decode cX0_tell 39 = .ok (.aload_n 0, 1) := by decide +kernel
theorem dX0_tell_40 : decode cX0_tell 40 = .ok (.getfield 15, 3) := by decide +kernel
theorem dX0_tell_43 : decode cX0_tell 43 = .ok (.iload_n 1, 1) := by decide +kernel
theorem dX0_tell_44 : decode cX0_tell 44 = .ok (.iaload, 1) := by decide +kernel
theorem dX0_tell_45 : decode cX0_tell 45 = .ok (.ireturn, 1) := by decide +kernel
theorem dX0_tell_46 : decode cX0_tell 46 = .ok (.aload_n 0, 1) := by decide +kernel
theorem dX0_tell_47 : decode cX0_tell 47 = .ok (.getfield 18, 3) := by decide +kernel
theorem dX0_tell_50 : decode cX0_tell 50 = .ok (.iload_n 1, 1) := by decide +kernel
theorem dX0_tell_51 : decode cX0_tell 51 = .ok (.baload, 1) := by decide +kernel
theorem dX0_tell_52 : decode cX0_tell 52 = .ok (.ifCond .eq 7, 3) := by decide +kernel
theorem dX0_tell_55 : decode cX0_tell 55 = .ok (.iconst 1, 1) := by decide +kernel
theorem dX0_tell_56 : decode cX0_tell 56 = .ok (.goto 4, 3) := by decide +kernel
theorem dX0_tell_59 : decode cX0_tell 59 = .ok (.iconst 0, 1) := by decide +kernel
theorem dX0_tell_60 : decode cX0_tell 60 = .ok (.ireturn, 1) := by decide +kernel
theorem dX0_tell_61 : decode cX0_tell 61 = .ok (.aload_n 0, 1) := by decide +kernel
theorem dX0_tell_62 : decode cX0_tell 62 = .ok (.iload_n 1, 1) := by decide +kernel
theorem dX0_tell_63 : decode cX0_tell 63 = .ok (.invokevirtual 52, 3) := by decide +kernel
theorem dX0_tell_66 : decode cX0_tell 66 = .ok (.ireturn, 1) := by decide +kernel
theorem dX0_tell_67 : decode cX0_tell 67 = .ok (.aload_n 0, 1) := by decide +kernel
theorem dX0_tell_68 : decode cX0_tell 68 = .ok (.getfield 22, 3) := by decide +kernel
theorem dX0_tell_71 : decode cX0_tell 71 = .ok (.iload_n 1, 1) := by decide +kernel
theorem dX0_tell_72 : decode cX0_tell 72 = .ok (.baload, 1) := by decide +kernel
theorem dX0_tell_73 : decode cX0_tell 73 = .ok (.ifCond .eq 7, 3) := by decide +kernel
theorem dX0_tell_76 : decode cX0_tell 76 = .ok (.iconst 1, 1) := by decide +kernel
theorem dX0_tell_77 : decode cX0_tell 77 = .ok (.goto 4, 3) := by decide +kernel
theorem dX0_tell_80 : decode cX0_tell 80 = .ok (.iconst 0, 1) := by decide +kernel
theorem dX0_tell_81 : decode cX0_tell 81 = .ok (.ireturn, 1) := by decide +kernel
theorem dX1_init_0 : decode cX1_init 0 = .ok (.aload_n 0, 1) := by decide +kernel
theorem dX1_init_1 : decode cX1_init 1 = .ok (.invokespecial 3, 3) := by decide +kernel
theorem dX1_init_4 : decode cX1_init 4 = .ok (.aload_n 0, 1) := by decide +kernel
theorem dX1_init_5 : decode cX1_init 5 = .ok (.bipush 6, 2) := by decide +kernel
theorem dX1_init_7 : decode cX1_init 7 = .ok (.newarray .int, 2) := by decide +kernel
theorem dX1_init_9 : decode cX1_init 9 = .ok (.putfield 9, 3) := by decide +kernel
theorem dX1_init_12 : decode cX1_init 12 = .ok (.return_, 1) := by decide +kernel
theorem dX1_isPermittedOn_0 : decode cX1_isPermittedOn 0 = .ok (.aload_n 0, 1) := by decide +kernel
theorem dX1_isPermittedOn_1 : decode cX1_isPermittedOn 1 = .ok (.getfield 15, 3) := by decide +kernel
theorem dX1_isPermittedOn_4 : decode cX1_isPermittedOn 4 = .ok (.iload_n 1, 1) := by decide +kernel
theorem dX1_isPermittedOn_5 : decode cX1_isPermittedOn 5 = .ok (.ishr, 1) := by decide +kernel
theorem dX1_isPermittedOn_6 : decode cX1_isPermittedOn 6 = .ok (.iconst 1, 1) := by decide +kernel
theorem dX1_isPermittedOn_7 : decode cX1_isPermittedOn 7 = .ok (.iand, 1) := by decide +kernel
theorem dX1_isPermittedOn_8 : decode cX1_isPermittedOn 8 = .ok (.iconst 1, 1) := by decide +kernel
theorem dX1_isPermittedOn_9 : decode cX1_isPermittedOn 9 = .ok (.if_icmp .ne 7, 3) := by decide +kernel
theorem dX1_isPermittedOn_12 : decode cX1_isPermittedOn 12 = .ok (.iconst 1, 1) := by decide +kernel
theorem dX1_isPermittedOn_13 : decode cX1_isPermittedOn 13 = .ok (.goto 4, 3) := by decide +kernel
theorem dX1_isPermittedOn_16 : decode cX1_isPermittedOn 16 = .ok (.iconst 0, 1) := by decide +kernel
theorem dX1_isPermittedOn_17 : decode cX1_isPermittedOn 17 = .ok (.ireturn, 1) := by decide +kernel
theorem dX1_payFor_0 : decode cX1_payFor 0 = .ok (.aload_n 0, 1) := by decide +kernel
theorem dX1_payFor_1 : decode cX1_payFor 1 = .ok (.getfield 19, 3) := by decide +kernel
theorem dX1_payFor_4 : decode cX1_payFor 4 = .ok (.iload_n 2, 1) := by decide +kernel
theorem dX1_payFor_5 : decode cX1_payFor 5 = .ok (.imul, 1) := by decide +kernel
theorem dX1_payFor_6 : decode cX1_payFor 6 = .ok (.bipush 60, 2) := by decide +kernel
theorem dX1_payFor_8 : decode cX1_payFor 8 = .ok (.idiv, 1) := by decide +kernel
theorem dX1_payFor_9 : decode cX1_payFor 9 = .ok (.istore_n 3, 1) := by decide +kernel
theorem dX1_payFor_10 : decode cX1_payFor 10 = .ok (.iconst 0, 1) := by decide +kernel
theorem dX1_payFor_11 : decode cX1_payFor 11 = .ok (.istore 4, 2) := by decide +kernel
theorem dX1_payFor_13 : decode cX1_payFor 13 = .ok (.iload 4, 2) := by decide +kernel
theorem dX1_payFor_15 : decode cX1_payFor 15 = .ok (.aload_n 0, 1) := by decide +kernel
theorem dX1_payFor_16 : decode cX1_payFor 16 = .ok (.getfield 9, 3) := by decide +kernel
theorem dX1_payFor_19 : decode cX1_payFor 19 = .ok (.iload_n 1, 1) := by decide +kernel
theorem dX1_payFor_20 : decode cX1_payFor 20 = .ok (.iaload, 1) := by decide +kernel
theorem dX1_payFor_21 : decode cX1_payFor 21 = .ok (.if_icmp .ge 17, 3) := by decide +kernel
theorem dX1_payFor_24 : decode cX1_payFor 24 = .ok (.iload_n 3, 1) := by decide +kernel
theorem dX1_payFor_25 : decode cX1_payFor 25 = .ok (.ifCond .le 13, 3) := by decide +kernel
theorem dX1_payFor_28 : decode cX1_payFor 28 = .ok (.iload_n 3, 1) := by decide +kernel
theorem dX1_payFor_29 : decode cX1_payFor 29 = .ok (.iconst 2, 1) := by decide +kernel
theorem dX1_payFor_30 : decode cX1_payFor 30 = .ok (.idiv, 1) := by decide +kernel
theorem dX1_payFor_31 : decode cX1_payFor 31 = .ok (.istore_n 3, 1) := by decide +kernel
theorem dX1_payFor_32 : decode cX1_payFor 32 = .ok (.iinc 4 1, 3) := by decide +kernel
theorem dX1_payFor_35 : decode cX1_payFor 35 = .ok (.goto (-22), 3) := by decide +kernel
theorem dX1_payFor_38 : decode cX1_payFor 38 = .ok (.iload_n 3, 1) := by decide +kernel
theorem dX1_payFor_39 : decode cX1_payFor 39 = .ok (.ireturn, 1) := by decide +kernel
theorem dX1_forgetDay_0 : decode cX1_forgetDay 0 = .ok (.iconst 0, 1) := by decide +kernel
theorem dX1_forgetDay_1 : decode cX1_forgetDay 1 = .ok (.istore_n 1, 1) := by decide +kernel
theorem dX1_forgetDay_2 : decode cX1_forgetDay 2 = .ok (.iload_n 1, 1) := by decide +kernel
theorem dX1_forgetDay_3 : decode cX1_forgetDay 3 = .ok (.bipush 6, 2) := by decide +kernel
theorem dX1_forgetDay_5 : decode cX1_forgetDay 5 = .ok (.if_icmp .ge 16, 3) := by decide +kernel
theorem dX1_forgetDay_8 : decode cX1_forgetDay 8 = .ok (.aload_n 0, 1) := by decide +kernel
theorem dX1_forgetDay_9 : decode cX1_forgetDay 9 = .ok (.getfield 9, 3) := by decide +kernel
theorem dX1_forgetDay_12 : decode cX1_forgetDay 12 = .ok (.iload_n 1, 1) := by decide +kernel
theorem dX1_forgetDay_13 : decode cX1_forgetDay 13 = .ok (.iconst 0, 1) := by decide +kernel
theorem dX1_forgetDay_14 : decode cX1_forgetDay 14 = .ok (.iastore, 1) := by decide +kernel
theorem dX1_forgetDay_15 : decode cX1_forgetDay 15 = .ok (.iinc 1 1, 3) := by decide +kernel
theorem dX1_forgetDay_18 : decode cX1_forgetDay 18 = .ok (.goto (-16), 3) := by decide +kernel
theorem dX1_forgetDay_21 : decode cX1_forgetDay 21 = .ok (.return_, 1) := by decide +kernel
theorem dX1_heardInAll_0 : decode cX1_heardInAll 0 = .ok (.iconst 0, 1) := by decide +kernel
theorem dX1_heardInAll_1 : decode cX1_heardInAll 1 = .ok (.istore_n 1, 1) := by decide +kernel
theorem dX1_heardInAll_2 : decode cX1_heardInAll 2 = .ok (.iconst 0, 1) := by decide +kernel
theorem dX1_heardInAll_3 : decode cX1_heardInAll 3 = .ok (.istore_n 2, 1) := by decide +kernel
theorem dX1_heardInAll_4 : decode cX1_heardInAll 4 = .ok (.iload_n 2, 1) := by decide +kernel
theorem dX1_heardInAll_5 : decode cX1_heardInAll 5 = .ok (.bipush 6, 2) := by decide +kernel
theorem dX1_heardInAll_7 : decode cX1_heardInAll 7 = .ok (.if_icmp .ge 18, 3) := by decide +kernel
theorem dX1_heardInAll_10 : decode cX1_heardInAll 10 = .ok (.iload_n 1, 1) := by decide +kernel
theorem dX1_heardInAll_11 : decode cX1_heardInAll 11 = .ok (.aload_n 0, 1) := by decide +kernel
theorem dX1_heardInAll_12 : decode cX1_heardInAll 12 = .ok (.getfield 9, 3) := by decide +kernel
theorem dX1_heardInAll_15 : decode cX1_heardInAll 15 = .ok (.iload_n 2, 1) := by decide +kernel
theorem dX1_heardInAll_16 : decode cX1_heardInAll 16 = .ok (.iaload, 1) := by decide +kernel
theorem dX1_heardInAll_17 : decode cX1_heardInAll 17 = .ok (.iadd, 1) := by decide +kernel
theorem dX1_heardInAll_18 : decode cX1_heardInAll 18 = .ok (.istore_n 1, 1) := by decide +kernel
theorem dX1_heardInAll_19 : decode cX1_heardInAll 19 = .ok (.iinc 2 1, 3) := by decide +kernel
theorem dX1_heardInAll_22 : decode cX1_heardInAll 22 = .ok (.goto (-18), 3) := by decide +kernel
theorem dX1_heardInAll_25 : decode cX1_heardInAll 25 = .ok (.iload_n 1, 1) := by decide +kernel
theorem dX1_heardInAll_26 : decode cX1_heardInAll 26 = .ok (.ireturn, 1) := by decide +kernel
theorem dX1_tell_0 : decode cX1_tell 0 = .ok (.iload_n 1, 1) := by decide +kernel
theorem dX1_tell_1 : decode cX1_tell 1 = .ok (.tableswitch 60 0 3 #[31, 36, 41, 55], 31) := by decide +kernel
theorem dX1_tell_32 : decode cX1_tell 32 = .ok (.aload_n 0, 1) := by decide +kernel
theorem dX1_tell_33 : decode cX1_tell 33 = .ok (.getfield 19, 3) := by decide +kernel
theorem dX1_tell_36 : decode cX1_tell 36 = .ok (.ireturn, 1) := by decide +kernel
theorem dX1_tell_37 : decode cX1_tell 37 = .ok (.aload_n 0, 1) := by decide +kernel
theorem dX1_tell_38 : decode cX1_tell 38 = .ok (.getfield 15, 3) := by decide +kernel
theorem dX1_tell_41 : decode cX1_tell 41 = .ok (.ireturn, 1) := by decide +kernel
theorem dX1_tell_42 : decode cX1_tell 42 = .ok (.aload_n 0, 1) := by decide +kernel
theorem dX1_tell_43 : decode cX1_tell 43 = .ok (.iload_n 2, 1) := by decide +kernel
theorem dX1_tell_44 : decode cX1_tell 44 = .ok (.invokevirtual 22, 3) := by decide +kernel
theorem dX1_tell_47 : decode cX1_tell 47 = .ok (.ifCond .eq 7, 3) := by decide +kernel
theorem dX1_tell_50 : decode cX1_tell 50 = .ok (.iconst 1, 1) := by decide +kernel
theorem dX1_tell_51 : decode cX1_tell 51 = .ok (.goto 4, 3) := by decide +kernel
theorem dX1_tell_54 : decode cX1_tell 54 = .ok (.iconst 0, 1) := by decide +kernel
theorem dX1_tell_55 : decode cX1_tell 55 = .ok (.ireturn, 1) := by decide +kernel
theorem dX1_tell_56 : decode cX1_tell 56 = .ok (.aload_n 0, 1) := by decide +kernel
theorem dX1_tell_57 : decode cX1_tell 57 = .ok (.getfield 26, 3) := by decide +kernel
theorem dX1_tell_60 : decode cX1_tell 60 = .ok (.ireturn, 1) := by decide +kernel
theorem dX1_tell_61 : decode cX1_tell 61 = .ok (.aload_n 0, 1) := by decide +kernel
theorem dX1_tell_62 : decode cX1_tell 62 = .ok (.invokevirtual 29, 3) := by decide +kernel
theorem dX1_tell_65 : decode cX1_tell 65 = .ok (.ireturn, 1) := by decide +kernel
theorem dX2_init_0 : decode cX2_init 0 = .ok (.aload_n 0, 1) := by decide +kernel
theorem dX2_init_1 : decode cX2_init 1 = .ok (.invokespecial 3, 3) := by decide +kernel
theorem dX2_init_4 : decode cX2_init 4 = .ok (.aload_n 0, 1) := by decide +kernel
theorem dX2_init_5 : decode cX2_init 5 = .ok (.bipush 16, 2) := by decide +kernel
theorem dX2_init_7 : decode cX2_init 7 = .ok (.newarray .int, 2) := by decide +kernel
theorem dX2_init_9 : decode cX2_init 9 = .ok (.putfield 9, 3) := by decide +kernel
theorem dX2_init_12 : decode cX2_init 12 = .ok (.aload_n 0, 1) := by decide +kernel
theorem dX2_init_13 : decode cX2_init 13 = .ok (.bipush 12, 2) := by decide +kernel
theorem dX2_init_15 : decode cX2_init 15 = .ok (.newarray .int, 2) := by decide +kernel
theorem dX2_init_17 : decode cX2_init 17 = .ok (.putfield 15, 3) := by decide +kernel
theorem dX2_init_20 : decode cX2_init 20 = .ok (.return_, 1) := by decide +kernel
theorem dX2_append_0 : decode cX2_append 0 = .ok (.aload_n 0, 1) := by decide +kernel
theorem dX2_append_1 : decode cX2_append 1 = .ok (.getfield 9, 3) := by decide +kernel
theorem dX2_append_4 : decode cX2_append 4 = .ok (.aload_n 0, 1) := by decide +kernel
theorem dX2_append_5 : decode cX2_append 5 = .ok (.getfield 18, 3) := by decide +kernel
theorem dX2_append_8 : decode cX2_append 8 = .ok (.iload_n 1, 1) := by decide +kernel
theorem dX2_append_9 : decode cX2_append 9 = .ok (.iastore, 1) := by decide +kernel
theorem dX2_append_10 : decode cX2_append 10 = .ok (.aload_n 0, 1) := by decide +kernel
theorem dX2_append_11 : decode cX2_append 11 = .ok (.getfield 15, 3) := by decide +kernel
theorem dX2_append_14 : decode cX2_append 14 = .ok (.iload_n 1, 1) := by decide +kernel
theorem dX2_append_15 : decode cX2_append 15 = .ok (.dup2, 1) := by decide +kernel
theorem dX2_append_16 : decode cX2_append 16 = .ok (.iaload, 1) := by decide +kernel
theorem dX2_append_17 : decode cX2_append 17 = .ok (.iconst 1, 1) := by decide +kernel
theorem dX2_append_18 : decode cX2_append 18 = .ok (.iadd, 1) := by decide +kernel
theorem dX2_append_19 : decode cX2_append 19 = .ok (.iastore, 1) := by decide +kernel
theorem dX2_append_20 : decode cX2_append 20 = .ok (.aload_n 0, 1) := by decide +kernel
theorem dX2_append_21 : decode cX2_append 21 = .ok (.dup, 1) := by decide +kernel
theorem dX2_append_22 : decode cX2_append 22 = .ok (.getfield 18, 3) := by decide +kernel
theorem dX2_append_25 : decode cX2_append 25 = .ok (.iconst 1, 1) := by decide +kernel
theorem dX2_append_26 : decode cX2_append 26 = .ok (.iadd, 1) := by decide +kernel
theorem dX2_append_27 : decode cX2_append 27 = .ok (.putfield 18, 3) := by decide +kernel
theorem dX2_append_30 : decode cX2_append 30 = .ok (.aload_n 0, 1) := by decide +kernel
theorem dX2_append_31 : decode cX2_append 31 = .ok (.getfield 18, 3) := by decide +kernel
theorem dX2_append_34 : decode cX2_append 34 = .ok (.ireturn, 1) := by decide +kernel
theorem dX2_soundOf_0 : decode cX2_soundOf 0 = .ok (.aload_n 0, 1) := by decide +kernel
theorem dX2_soundOf_1 : decode cX2_soundOf 1 = .ok (.aload_n 1, 1) := by decide +kernel
theorem dX2_soundOf_2 : decode cX2_soundOf 2 = .ok (.iconst (-1), 1) := by decide +kernel
theorem dX2_soundOf_3 : decode cX2_soundOf 3 = .ok (.invokevirtual 22, 3) := by decide +kernel
theorem dX2_soundOf_6 : decode cX2_soundOf 6 = .ok (.ireturn, 1) := by decide +kernel
theorem dX2_soundSparing_0 : decode cX2_soundSparing 0 = .ok (.aload_n 0, 1) := by decide +kernel
theorem dX2_soundSparing_1 : decode cX2_soundSparing 1 = .ok (.getfield 18, 3) := by decide +kernel
theorem dX2_soundSparing_4 : decode cX2_soundSparing 4 = .ok (.ifCond .ne 5, 3) := by decide +kernel
theorem dX2_soundSparing_7 : decode cX2_soundSparing 7 = .ok (.iconst 0, 1) := by decide +kernel
theorem dX2_soundSparing_8 : decode cX2_soundSparing 8 = .ok (.ireturn, 1) := by decide +kernel
theorem dX2_soundSparing_9 : decode cX2_soundSparing 9 = .ok (.iconst 0, 1) := by decide +kernel
theorem dX2_soundSparing_10 : decode cX2_soundSparing 10 = .ok (.istore_n 3, 1) := by decide +kernel
theorem dX2_soundSparing_11 : decode cX2_soundSparing 11 = .ok (.iconst 0, 1) := by decide +kernel
theorem dX2_soundSparing_12 : decode cX2_soundSparing 12 = .ok (.istore 4, 2) := by decide +kernel
theorem dX2_soundSparing_14 : decode cX2_soundSparing 14 = .ok (.iload 4, 2) := by decide +kernel
theorem dX2_soundSparing_16 : decode cX2_soundSparing 16 = .ok (.bipush 12, 2) := by decide +kernel
theorem dX2_soundSparing_18 : decode cX2_soundSparing 18 = .ok (.if_icmp .ge 32, 3) := by decide +kernel
theorem dX2_soundSparing_21 : decode cX2_soundSparing 21 = .ok (.iload 4, 2) := by decide +kernel
theorem dX2_soundSparing_23 : decode cX2_soundSparing 23 = .ok (.iload_n 2, 1) := by decide +kernel
theorem dX2_soundSparing_24 : decode cX2_soundSparing 24 = .ok (.if_icmp .eq 20, 3) := by decide +kernel
theorem dX2_soundSparing_27 : decode cX2_soundSparing 27 = .ok (.iload_n 3, 1) := by decide +kernel
theorem dX2_soundSparing_28 : decode cX2_soundSparing 28 = .ok (.aload_n 0, 1) := by decide +kernel
theorem dX2_soundSparing_29 : decode cX2_soundSparing 29 = .ok (.getfield 15, 3) := by decide +kernel
theorem dX2_soundSparing_32 : decode cX2_soundSparing 32 = .ok (.iload 4, 2) := by decide +kernel
theorem dX2_soundSparing_34 : decode cX2_soundSparing 34 = .ok (.iaload, 1) := by decide +kernel
theorem dX2_soundSparing_35 : decode cX2_soundSparing 35 = .ok (.aload_n 1, 1) := by decide +kernel
theorem dX2_soundSparing_36 : decode cX2_soundSparing 36 = .ok (.iload 4, 2) := by decide +kernel
theorem dX2_soundSparing_38 : decode cX2_soundSparing 38 = .ok (.invokevirtual 26, 3) := by decide +kernel
theorem dX2_soundSparing_41 : decode cX2_soundSparing 41 = .ok (.imul, 1) := by decide +kernel
theorem dX2_soundSparing_42 : decode cX2_soundSparing 42 = .ok (.iadd, 1) := by decide +kernel
theorem dX2_soundSparing_43 : decode cX2_soundSparing 43 = .ok (.istore_n 3, 1) := by decide +kernel
theorem dX2_soundSparing_44 : decode cX2_soundSparing 44 = .ok (.iinc 4 1, 3) := by decide +kernel
theorem dX2_soundSparing_47 : decode cX2_soundSparing 47 = .ok (.goto (-33), 3) := by decide +kernel
theorem dX2_soundSparing_50 : decode cX2_soundSparing 50 = .ok (.bipush 60, 2) := by decide +kernel
theorem dX2_soundSparing_52 : decode cX2_soundSparing 52 = .ok (.iload_n 3, 1) := by decide +kernel
theorem dX2_soundSparing_53 : decode cX2_soundSparing 53 = .ok (.aload_n 0, 1) := by decide +kernel
theorem dX2_soundSparing_54 : decode cX2_soundSparing 54 = .ok (.getfield 18, 3) := by decide +kernel
theorem dX2_soundSparing_57 : decode cX2_soundSparing 57 = .ok (.idiv, 1) := by decide +kernel
theorem dX2_soundSparing_58 : decode cX2_soundSparing 58 = .ok (.isub, 1) := by decide +kernel
theorem dX2_soundSparing_59 : decode cX2_soundSparing 59 = .ok (.ireturn, 1) := by decide +kernel
theorem dX2_wearDown_0 : decode cX2_wearDown 0 = .ok (.iconst 0, 1) := by decide +kernel
theorem dX2_wearDown_1 : decode cX2_wearDown 1 = .ok (.istore_n 2, 1) := by decide +kernel
theorem dX2_wearDown_2 : decode cX2_wearDown 2 = .ok (.iload_n 2, 1) := by decide +kernel
theorem dX2_wearDown_3 : decode cX2_wearDown 3 = .ok (.bipush 12, 2) := by decide +kernel
theorem dX2_wearDown_5 : decode cX2_wearDown 5 = .ok (.if_icmp .ge 29, 3) := by decide +kernel
theorem dX2_wearDown_8 : decode cX2_wearDown 8 = .ok (.aload_n 0, 1) := by decide +kernel
theorem dX2_wearDown_9 : decode cX2_wearDown 9 = .ok (.getfield 15, 3) := by decide +kernel
theorem dX2_wearDown_12 : decode cX2_wearDown 12 = .ok (.iload_n 2, 1) := by decide +kernel
theorem dX2_wearDown_13 : decode cX2_wearDown 13 = .ok (.iaload, 1) := by decide +kernel
theorem dX2_wearDown_14 : decode cX2_wearDown 14 = .ok (.ifCond .le 14, 3) := by decide +kernel
theorem dX2_wearDown_17 : decode cX2_wearDown 17 = .ok (.aload_n 1, 1) := by decide +kernel
theorem dX2_wearDown_18 : decode cX2_wearDown 18 = .ok (.iload_n 2, 1) := by decide +kernel
theorem dX2_wearDown_19 : decode cX2_wearDown 19 = .ok (.aload_n 0, 1) := by decide +kernel
theorem dX2_wearDown_20 : decode cX2_wearDown 20 = .ok (.getfield 15, 3) := by decide +kernel
theorem dX2_wearDown_23 : decode cX2_wearDown 23 = .ok (.iload_n 2, 1) := by decide +kernel
theorem dX2_wearDown_24 : decode cX2_wearDown 24 = .ok (.iaload, 1) := by decide +kernel
theorem dX2_wearDown_25 : decode cX2_wearDown 25 = .ok (.invokevirtual 32, 3) := by decide +kernel
theorem dX2_wearDown_28 : decode cX2_wearDown 28 = .ok (.iinc 2 1, 3) := by decide +kernel
theorem dX2_wearDown_31 : decode cX2_wearDown 31 = .ok (.goto (-29), 3) := by decide +kernel
theorem dX2_wearDown_34 : decode cX2_wearDown 34 = .ok (.return_, 1) := by decide +kernel
theorem dX3_init_0 : decode cX3_init 0 = .ok (.aload_n 0, 1) := by decide +kernel
theorem dX3_init_1 : decode cX3_init 1 = .ok (.invokespecial 1, 3) := by decide +kernel
theorem dX3_init_4 : decode cX3_init 4 = .ok (.aload_n 0, 1) := by decide +kernel
theorem dX3_init_5 : decode cX3_init 5 = .ok (.new 7, 3) := by decide +kernel
theorem dX3_init_8 : decode cX3_init 8 = .ok (.dup, 1) := by decide +kernel
theorem dX3_init_9 : decode cX3_init 9 = .ok (.invokespecial 9, 3) := by decide +kernel
theorem dX3_init_12 : decode cX3_init 12 = .ok (.putfield 10, 3) := by decide +kernel
theorem dX3_init_15 : decode cX3_init 15 = .ok (.aload_n 0, 1) := by decide +kernel
theorem dX3_init_16 : decode cX3_init 16 = .ok (.new 7, 3) := by decide +kernel
theorem dX3_init_19 : decode cX3_init 19 = .ok (.dup, 1) := by decide +kernel
theorem dX3_init_20 : decode cX3_init 20 = .ok (.invokespecial 9, 3) := by decide +kernel
theorem dX3_init_23 : decode cX3_init 23 = .ok (.putfield 16, 3) := by decide +kernel
theorem dX3_init_26 : decode cX3_init 26 = .ok (.aload_n 0, 1) := by decide +kernel
theorem dX3_init_27 : decode cX3_init 27 = .ok (.bipush 6, 2) := by decide +kernel
theorem dX3_init_29 : decode cX3_init 29 = .ok (.anewarray 19, 3) := by decide +kernel
theorem dX3_init_32 : decode cX3_init 32 = .ok (.putfield 21, 3) := by decide +kernel
theorem dX3_init_35 : decode cX3_init 35 = .ok (.iconst 0, 1) := by decide +kernel
theorem dX3_init_36 : decode cX3_init 36 = .ok (.istore_n 1, 1) := by decide +kernel
theorem dX3_init_37 : decode cX3_init 37 = .ok (.iload_n 1, 1) := by decide +kernel
theorem dX3_init_38 : decode cX3_init 38 = .ok (.bipush 6, 2) := by decide +kernel
theorem dX3_init_40 : decode cX3_init 40 = .ok (.if_icmp .ge 22, 3) := by decide +kernel
theorem dX3_init_43 : decode cX3_init 43 = .ok (.aload_n 0, 1) := by decide +kernel
theorem dX3_init_44 : decode cX3_init 44 = .ok (.getfield 21, 3) := by decide +kernel
theorem dX3_init_47 : decode cX3_init 47 = .ok (.iload_n 1, 1) := by decide +kernel
theorem dX3_init_48 : decode cX3_init 48 = .ok (.new 19, 3) := by decide +kernel
theorem dX3_init_51 : decode cX3_init 51 = .ok (.dup, 1) := by decide +kernel
theorem dX3_init_52 : decode cX3_init 52 = .ok (.invokespecial 25, 3) := by decide +kernel
theorem dX3_init_55 : decode cX3_init 55 = .ok (.aastore, 1) := by decide +kernel
theorem dX3_init_56 : decode cX3_init 56 = .ok (.iinc 1 1, 3) := by decide +kernel
theorem dX3_init_59 : decode cX3_init 59 = .ok (.goto (-22), 3) := by decide +kernel
theorem dX3_init_62 : decode cX3_init 62 = .ok (.aload_n 0, 1) := by decide +kernel
theorem dX3_init_63 : decode cX3_init 63 = .ok (.bipush 8, 2) := by decide +kernel
theorem dX3_init_65 : decode cX3_init 65 = .ok (.anewarray 26, 3) := by decide +kernel
theorem dX3_init_68 : decode cX3_init 68 = .ok (.putfield 28, 3) := by decide +kernel
theorem dX3_init_71 : decode cX3_init 71 = .ok (.iconst 0, 1) := by decide +kernel
theorem dX3_init_72 : decode cX3_init 72 = .ok (.istore_n 1, 1) := by decide +kernel
theorem dX3_init_73 : decode cX3_init 73 = .ok (.iload_n 1, 1) := by decide +kernel
theorem dX3_init_74 : decode cX3_init 74 = .ok (.bipush 8, 2) := by decide +kernel
theorem dX3_init_76 : decode cX3_init 76 = .ok (.if_icmp .ge 22, 3) := by decide +kernel
theorem dX3_init_79 : decode cX3_init 79 = .ok (.aload_n 0, 1) := by decide +kernel
theorem dX3_init_80 : decode cX3_init 80 = .ok (.getfield 28, 3) := by decide +kernel
theorem dX3_init_83 : decode cX3_init 83 = .ok (.iload_n 1, 1) := by decide +kernel
theorem dX3_init_84 : decode cX3_init 84 = .ok (.new 26, 3) := by decide +kernel
theorem dX3_init_87 : decode cX3_init 87 = .ok (.dup, 1) := by decide +kernel
theorem dX3_init_88 : decode cX3_init 88 = .ok (.invokespecial 32, 3) := by decide +kernel
theorem dX3_init_91 : decode cX3_init 91 = .ok (.aastore, 1) := by decide +kernel
theorem dX3_init_92 : decode cX3_init 92 = .ok (.iinc 1 1, 3) := by decide +kernel
theorem dX3_init_95 : decode cX3_init 95 = .ok (.goto (-22), 3) := by decide +kernel
theorem dX3_init_98 : decode cX3_init 98 = .ok (.aload_n 0, 1) := by decide +kernel
theorem dX3_init_99 : decode cX3_init 99 = .ok (.bipush 7, 2) := by decide +kernel
theorem dX3_init_101 : decode cX3_init 101 = .ok (.newarray .int, 2) := by decide +kernel
theorem dX3_init_103 : decode cX3_init 103 = .ok (.putfield 33, 3) := by decide +kernel
theorem dX3_init_106 : decode cX3_init 106 = .ok (.aload_n 0, 1) := by decide +kernel
theorem dX3_init_107 : decode cX3_init 107 = .ok (.bipush 20, 2) := by decide +kernel
theorem dX3_init_109 : decode cX3_init 109 = .ok (.putfield 37, 3) := by decide +kernel
theorem dX3_init_112 : decode cX3_init 112 = .ok (.return_, 1) := by decide +kernel
theorem dX3_barrel_0 : decode cX3_barrel 0 = .ok (.aload_n 0, 1) := by decide +kernel
theorem dX3_barrel_1 : decode cX3_barrel 1 = .ok (.getfield 41, 3) := by decide +kernel
theorem dX3_barrel_4 : decode cX3_barrel 4 = .ok (.bipush 6, 2) := by decide +kernel
theorem dX3_barrel_6 : decode cX3_barrel 6 = .ok (.if_icmp .lt 13, 3) := by decide +kernel
theorem dX3_barrel_9 : decode cX3_barrel 9 = .ok (.new 44, 3) := by decide +kernel
theorem dX3_barrel_12 : decode cX3_barrel 12 = .ok (.dup, 1) := by decide +kernel
theorem dX3_barrel_13 : decode cX3_barrel 13 = .ok (.ldc 46, 2) := by decide +kernel
theorem dX3_barrel_15 : decode cX3_barrel 15 = .ok (.invokespecial 48, 3) := by decide +kernel
theorem dX3_barrel_18 : decode cX3_barrel 18 = .ok (.athrow, 1) := by decide +kernel
theorem dX3_barrel_19 : decode cX3_barrel 19 = .ok (.aload_n 0, 1) := by decide +kernel
theorem dX3_barrel_20 : decode cX3_barrel 20 = .ok (.dup, 1) := by decide +kernel
theorem dX3_barrel_21 : decode cX3_barrel 21 = .ok (.getfield 41, 3) := by decide +kernel
theorem dX3_barrel_24 : decode cX3_barrel 24 = .ok (.dup_x1, 1) := by decide +kernel
theorem dX3_barrel_25 : decode cX3_barrel 25 = .ok (.iconst 1, 1) := by decide +kernel
theorem dX3_barrel_26 : decode cX3_barrel 26 = .ok (.iadd, 1) := by decide +kernel
theorem dX3_barrel_27 : decode cX3_barrel 27 = .ok (.putfield 41, 3) := by decide +kernel
theorem dX3_barrel_30 : decode cX3_barrel 30 = .ok (.ireturn, 1) := by decide +kernel
theorem dX3_pin_0 : decode cX3_pin 0 = .ok (.aload_n 0, 1) := by decide +kernel
theorem dX3_pin_1 : decode cX3_pin 1 = .ok (.iload_n 1, 1) := by decide +kernel
theorem dX3_pin_2 : decode cX3_pin 2 = .ok (.invokevirtual 51, 3) := by decide +kernel
theorem dX3_pin_5 : decode cX3_pin 5 = .ok (.iload_n 2, 1) := by decide +kernel
theorem dX3_pin_6 : decode cX3_pin 6 = .ok (.invokestatic 55, 3) := by decide +kernel
theorem dX3_pin_9 : decode cX3_pin 9 = .ok (.aload_n 0, 1) := by decide +kernel
theorem dX3_pin_10 : decode cX3_pin 10 = .ok (.getfield 21, 3) := by decide +kernel
theorem dX3_pin_13 : decode cX3_pin 13 = .ok (.iload_n 1, 1) := by decide +kernel
theorem dX3_pin_14 : decode cX3_pin 14 = .ok (.aaload, 1) := by decide +kernel
theorem dX3_pin_15 : decode cX3_pin 15 = .ok (.getfield 58, 3) := by decide +kernel
theorem dX3_pin_18 : decode cX3_pin 18 = .ok (.bipush 16, 2) := by decide +kernel
theorem dX3_pin_20 : decode cX3_pin 20 = .ok (.if_icmp .lt 13, 3) := by decide +kernel
theorem dX3_pin_23 : decode cX3_pin 23 = .ok (.new 44, 3) := by decide +kernel
theorem dX3_pin_26 : decode cX3_pin 26 = .ok (.dup, 1) := by decide +kernel
theorem dX3_pin_27 : decode cX3_pin 27 = .ok (.ldc 61, 2) := by decide +kernel
theorem dX3_pin_29 : decode cX3_pin 29 = .ok (.invokespecial 48, 3) := by decide +kernel
theorem dX3_pin_32 : decode cX3_pin 32 = .ok (.athrow, 1) := by decide +kernel
theorem dX3_pin_33 : decode cX3_pin 33 = .ok (.aload_n 0, 1) := by decide +kernel
theorem dX3_pin_34 : decode cX3_pin 34 = .ok (.getfield 21, 3) := by decide +kernel
theorem dX3_pin_37 : decode cX3_pin 37 = .ok (.iload_n 1, 1) := by decide +kernel
theorem dX3_pin_38 : decode cX3_pin 38 = .ok (.aaload, 1) := by decide +kernel
theorem dX3_pin_39 : decode cX3_pin 39 = .ok (.iload_n 2, 1) := by decide +kernel
theorem dX3_pin_40 : decode cX3_pin 40 = .ok (.invokevirtual 63, 3) := by decide +kernel
theorem dX3_pin_43 : decode cX3_pin 43 = .ok (.ireturn, 1) := by decide +kernel
theorem dX3_note_0 : decode cX3_note 0 = .ok (.aload_n 0, 1) := by decide +kernel
theorem dX3_note_1 : decode cX3_note 1 = .ok (.iload_n 1, 1) := by decide +kernel
theorem dX3_note_2 : decode cX3_note 2 = .ok (.invokevirtual 51, 3) := by decide +kernel
theorem dX3_note_5 : decode cX3_note 5 = .ok (.iload_n 2, 1) := by decide +kernel
theorem dX3_note_6 : decode cX3_note 6 = .ok (.ifCond .lt 16, 3) := by decide +kernel
theorem dX3_note_9 : decode cX3_note 9 = .ok (.iload_n 2, 1) := by decide +kernel
theorem dX3_note_10 : decode cX3_note 10 = .ok (.aload_n 0, 1) := by decide +kernel
theorem dX3_note_11 : decode cX3_note 11 = .ok (.getfield 21, 3) := by decide +kernel
theorem dX3_note_14 : decode cX3_note 14 = .ok (.iload_n 1, 1) := by decide +kernel
theorem dX3_note_15 : decode cX3_note 15 = .ok (.aaload, 1) := by decide +kernel
theorem dX3_note_16 : decode cX3_note 16 = .ok (.getfield 58, 3) := by decide +kernel
theorem dX3_note_19 : decode cX3_note 19 = .ok (.if_icmp .lt 13, 3) := by decide +kernel
theorem dX3_note_22 : decode cX3_note 22 = .ok (.new 67, 3) := by decide +kernel
theorem dX3_note_25 : decode cX3_note 25 = .ok (.dup, 1) := by decide +kernel
theorem dX3_note_26 : decode cX3_note 26 = .ok (.ldc 69, 2) := by decide +kernel
theorem dX3_note_28 : decode cX3_note 28 = .ok (.invokespecial 71, 3) := by decide +kernel
theorem dX3_note_31 : decode cX3_note 31 = .ok (.athrow, 1) := by decide +kernel
theorem dX3_note_32 : decode cX3_note 32 = .ok (.aload_n 0, 1) := by decide +kernel
theorem dX3_note_33 : decode cX3_note 33 = .ok (.getfield 21, 3) := by decide +kernel
theorem dX3_note_36 : decode cX3_note 36 = .ok (.iload_n 1, 1) := by decide +kernel
theorem dX3_note_37 : decode cX3_note 37 = .ok (.aaload, 1) := by decide +kernel
theorem dX3_note_38 : decode cX3_note 38 = .ok (.getfield 72, 3) := by decide +kernel
theorem dX3_note_41 : decode cX3_note 41 = .ok (.iload_n 2, 1) := by decide +kernel
theorem dX3_note_42 : decode cX3_note 42 = .ok (.iaload, 1) := by decide +kernel
theorem dX3_note_43 : decode cX3_note 43 = .ok (.ireturn, 1) := by decide +kernel
theorem dX3_street_0 : decode cX3_street 0 = .ok (.iload_n 1, 1) := by decide +kernel
theorem dX3_street_1 : decode cX3_street 1 = .ok (.ifCond .lt 9, 3) := by decide +kernel
theorem dX3_street_4 : decode cX3_street 4 = .ok (.iload_n 1, 1) := by decide +kernel
theorem dX3_street_5 : decode cX3_street 5 = .ok (.bipush 90, 2) := by decide +kernel
theorem dX3_street_7 : decode cX3_street 7 = .ok (.if_icmp .le 13, 3) := by decide +kernel
theorem dX3_street_10 : decode cX3_street 10 = .ok (.new 75, 3) := by decide +kernel
theorem dX3_street_13 : decode cX3_street 13 = .ok (.dup, 1) := by decide +kernel
theorem dX3_street_14 : decode cX3_street 14 = .ok (.ldc 77, 2) := by decide +kernel
theorem dX3_street_16 : decode cX3_street 16 = .ok (.invokespecial 79, 3) := by decide +kernel
theorem dX3_street_19 : decode cX3_street 19 = .ok (.athrow, 1) := by decide +kernel
theorem dX3_street_20 : decode cX3_street 20 = .ok (.iload_n 2, 1) := by decide +kernel
theorem dX3_street_21 : decode cX3_street 21 = .ok (.invokestatic 80, 3) := by decide +kernel
theorem dX3_street_24 : decode cX3_street 24 = .ok (.aload_n 0, 1) := by decide +kernel
theorem dX3_street_25 : decode cX3_street 25 = .ok (.getfield 83, 3) := by decide +kernel
theorem dX3_street_28 : decode cX3_street 28 = .ok (.bipush 8, 2) := by decide +kernel
theorem dX3_street_30 : decode cX3_street 30 = .ok (.if_icmp .lt 13, 3) := by decide +kernel
theorem dX3_street_33 : decode cX3_street 33 = .ok (.new 44, 3) := by decide +kernel
theorem dX3_street_36 : decode cX3_street 36 = .ok (.dup, 1) := by decide +kernel
theorem dX3_street_37 : decode cX3_street 37 = .ok (.ldc 86, 2) := by decide +kernel
theorem dX3_street_39 : decode cX3_street 39 = .ok (.invokespecial 48, 3) := by decide +kernel
theorem dX3_street_42 : decode cX3_street 42 = .ok (.athrow, 1) := by decide +kernel
theorem dX3_street_43 : decode cX3_street 43 = .ok (.aload_n 0, 1) := by decide +kernel
theorem dX3_street_44 : decode cX3_street 44 = .ok (.getfield 28, 3) := by decide +kernel
theorem dX3_street_47 : decode cX3_street 47 = .ok (.aload_n 0, 1) := by decide +kernel
theorem dX3_street_48 : decode cX3_street 48 = .ok (.getfield 83, 3) := by decide +kernel
theorem dX3_street_51 : decode cX3_street 51 = .ok (.aaload, 1) := by decide +kernel
theorem dX3_street_52 : decode cX3_street 52 = .ok (.iload_n 1, 1) := by decide +kernel
theorem dX3_street_53 : decode cX3_street 53 = .ok (.putfield 88, 3) := by decide +kernel
theorem dX3_street_56 : decode cX3_street 56 = .ok (.aload_n 0, 1) := by decide +kernel
theorem dX3_street_57 : decode cX3_street 57 = .ok (.getfield 28, 3) := by decide +kernel
theorem dX3_street_60 : decode cX3_street 60 = .ok (.aload_n 0, 1) := by decide +kernel
theorem dX3_street_61 : decode cX3_street 61 = .ok (.getfield 83, 3) := by decide +kernel
theorem dX3_street_64 : decode cX3_street 64 = .ok (.aaload, 1) := by decide +kernel
theorem dX3_street_65 : decode cX3_street 65 = .ok (.iload_n 2, 1) := by decide +kernel
theorem dX3_street_66 : decode cX3_street 66 = .ok (.putfield 91, 3) := by decide +kernel
theorem dX3_street_69 : decode cX3_street 69 = .ok (.aload_n 0, 1) := by decide +kernel
theorem dX3_street_70 : decode cX3_street 70 = .ok (.dup, 1) := by decide +kernel
theorem dX3_street_71 : decode cX3_street 71 = .ok (.getfield 83, 3) := by decide +kernel
theorem dX3_street_74 : decode cX3_street 74 = .ok (.dup_x1, 1) := by decide +kernel
theorem dX3_street_75 : decode cX3_street 75 = .ok (.iconst 1, 1) := by decide +kernel
theorem dX3_street_76 : decode cX3_street 76 = .ok (.iadd, 1) := by decide +kernel
theorem dX3_street_77 : decode cX3_street 77 = .ok (.putfield 83, 3) := by decide +kernel
theorem dX3_street_80 : decode cX3_street 80 = .ok (.ireturn, 1) := by decide +kernel
theorem dX3_permit_0 : decode cX3_permit 0 = .ok (.aload_n 0, 1) := by decide +kernel
theorem dX3_permit_1 : decode cX3_permit 1 = .ok (.iload_n 1, 1) := by decide +kernel
theorem dX3_permit_2 : decode cX3_permit 2 = .ok (.invokevirtual 94, 3) := by decide +kernel
theorem dX3_permit_5 : decode cX3_permit 5 = .ok (.iload_n 2, 1) := by decide +kernel
theorem dX3_permit_6 : decode cX3_permit 6 = .ok (.invokestatic 80, 3) := by decide +kernel
theorem dX3_permit_9 : decode cX3_permit 9 = .ok (.aload_n 0, 1) := by decide +kernel
theorem dX3_permit_10 : decode cX3_permit 10 = .ok (.getfield 28, 3) := by decide +kernel
theorem dX3_permit_13 : decode cX3_permit 13 = .ok (.iload_n 1, 1) := by decide +kernel
theorem dX3_permit_14 : decode cX3_permit 14 = .ok (.aaload, 1) := by decide +kernel
theorem dX3_permit_15 : decode cX3_permit 15 = .ok (.getfield 91, 3) := by decide +kernel
theorem dX3_permit_18 : decode cX3_permit 18 = .ok (.istore_n 3, 1) := by decide +kernel
theorem dX3_permit_19 : decode cX3_permit 19 = .ok (.aload_n 0, 1) := by decide +kernel
theorem dX3_permit_20 : decode cX3_permit 20 = .ok (.getfield 28, 3) := by decide +kernel
theorem dX3_permit_23 : decode cX3_permit 23 = .ok (.iload_n 1, 1) := by decide +kernel
theorem dX3_permit_24 : decode cX3_permit 24 = .ok (.aaload, 1) := by decide +kernel
theorem dX3_permit_25 : decode cX3_permit 25 = .ok (.iload_n 2, 1) := by decide +kernel
theorem dX3_permit_26 : decode cX3_permit 26 = .ok (.putfield 91, 3) := by decide +kernel
theorem dX3_permit_29 : decode cX3_permit 29 = .ok (.iload_n 3, 1) := by decide +kernel
theorem dX3_permit_30 : decode cX3_permit 30 = .ok (.ireturn, 1) := by decide +kernel
theorem dX3_setDamp_0 : decode cX3_setDamp 0 = .ok (.iload_n 1, 1) := by decide +kernel
theorem dX3_setDamp_1 : decode cX3_setDamp 1 = .ok (.ifCond .lt 9, 3) := by decide +kernel
theorem dX3_setDamp_4 : decode cX3_setDamp 4 = .ok (.iload_n 1, 1) := by decide +kernel
theorem dX3_setDamp_5 : decode cX3_setDamp 5 = .ok (.bipush 7, 2) := by decide +kernel
theorem dX3_setDamp_7 : decode cX3_setDamp 7 = .ok (.if_icmp .lt 13, 3) := by decide +kernel
theorem dX3_setDamp_10 : decode cX3_setDamp 10 = .ok (.new 67, 3) := by decide +kernel
theorem dX3_setDamp_13 : decode cX3_setDamp 13 = .ok (.dup, 1) := by decide +kernel
theorem dX3_setDamp_14 : decode cX3_setDamp 14 = .ok (.ldc 97, 2) := by decide +kernel
theorem dX3_setDamp_16 : decode cX3_setDamp 16 = .ok (.invokespecial 71, 3) := by decide +kernel
theorem dX3_setDamp_19 : decode cX3_setDamp 19 = .ok (.athrow, 1) := by decide +kernel
theorem dX3_setDamp_20 : decode cX3_setDamp 20 = .ok (.iload_n 2, 1) := by decide +kernel
theorem dX3_setDamp_21 : decode cX3_setDamp 21 = .ok (.ifCond .lt 8, 3) := by decide +kernel
theorem dX3_setDamp_24 : decode cX3_setDamp 24 = .ok (.iload_n 2, 1) := by decide +kernel
theorem dX3_setDamp_25 : decode cX3_setDamp 25 = .ok (.iconst 5, 1) := by decide +kernel
theorem dX3_setDamp_26 : decode cX3_setDamp 26 = .ok (.if_icmp .le 13, 3) := by decide +kernel
theorem dX3_setDamp_29 : decode cX3_setDamp 29 = .ok (.new 75, 3) := by decide +kernel
theorem dX3_setDamp_32 : decode cX3_setDamp 32 = .ok (.dup, 1) := by decide +kernel
theorem dX3_setDamp_33 : decode cX3_setDamp 33 = .ok (.ldc 99, 2) := by decide +kernel
theorem dX3_setDamp_35 : decode cX3_setDamp 35 = .ok (.invokespecial 79, 3) := by decide +kernel
theorem dX3_setDamp_38 : decode cX3_setDamp 38 = .ok (.athrow, 1) := by decide +kernel
theorem dX3_setDamp_39 : decode cX3_setDamp 39 = .ok (.aload_n 0, 1) := by decide +kernel
theorem dX3_setDamp_40 : decode cX3_setDamp 40 = .ok (.getfield 33, 3) := by decide +kernel
theorem dX3_setDamp_43 : decode cX3_setDamp 43 = .ok (.iload_n 1, 1) := by decide +kernel
theorem dX3_setDamp_44 : decode cX3_setDamp 44 = .ok (.iaload, 1) := by decide +kernel
theorem dX3_setDamp_45 : decode cX3_setDamp 45 = .ok (.istore_n 3, 1) := by decide +kernel
theorem dX3_setDamp_46 : decode cX3_setDamp 46 = .ok (.aload_n 0, 1) := by decide +kernel
theorem dX3_setDamp_47 : decode cX3_setDamp 47 = .ok (.getfield 33, 3) := by decide +kernel
theorem dX3_setDamp_50 : decode cX3_setDamp 50 = .ok (.iload_n 1, 1) := by decide +kernel
theorem dX3_setDamp_51 : decode cX3_setDamp 51 = .ok (.iload_n 2, 1) := by decide +kernel
theorem dX3_setDamp_52 : decode cX3_setDamp 52 = .ok (.iastore, 1) := by decide +kernel
theorem dX3_setDamp_53 : decode cX3_setDamp 53 = .ok (.iload_n 3, 1) := by decide +kernel
theorem dX3_setDamp_54 : decode cX3_setDamp 54 = .ok (.ireturn, 1) := by decide +kernel
theorem dX3_play_0 : decode cX3_play 0 = .ok (.aload_n 0, 1) := by decide +kernel
theorem dX3_play_1 : decode cX3_play 1 = .ok (.iload_n 1, 1) := by decide +kernel
theorem dX3_play_2 : decode cX3_play 2 = .ok (.invokevirtual 94, 3) := by decide +kernel
theorem dX3_play_5 : decode cX3_play 5 = .ok (.aload_n 0, 1) := by decide +kernel
theorem dX3_play_6 : decode cX3_play 6 = .ok (.iload_n 2, 1) := by decide +kernel
theorem dX3_play_7 : decode cX3_play 7 = .ok (.invokevirtual 51, 3) := by decide +kernel
theorem dX3_play_10 : decode cX3_play 10 = .ok (.aload_n 0, 1) := by decide +kernel
theorem dX3_play_11 : decode cX3_play 11 = .ok (.getfield 21, 3) := by decide +kernel
theorem dX3_play_14 : decode cX3_play 14 = .ok (.iload_n 2, 1) := by decide +kernel
theorem dX3_play_15 : decode cX3_play 15 = .ok (.aaload, 1) := by decide +kernel
theorem dX3_play_16 : decode cX3_play 16 = .ok (.getfield 58, 3) := by decide +kernel
theorem dX3_play_19 : decode cX3_play 19 = .ok (.ifCond .ne 13, 3) := by decide +kernel
theorem dX3_play_22 : decode cX3_play 22 = .ok (.new 44, 3) := by decide +kernel
theorem dX3_play_25 : decode cX3_play 25 = .ok (.dup, 1) := by decide +kernel
theorem dX3_play_26 : decode cX3_play 26 = .ok (.ldc 101, 2) := by decide +kernel
theorem dX3_play_28 : decode cX3_play 28 = .ok (.invokespecial 48, 3) := by decide +kernel
theorem dX3_play_31 : decode cX3_play 31 = .ok (.athrow, 1) := by decide +kernel
theorem dX3_play_32 : decode cX3_play 32 = .ok (.aload_n 0, 1) := by decide +kernel
theorem dX3_play_33 : decode cX3_play 33 = .ok (.getfield 28, 3) := by decide +kernel
theorem dX3_play_36 : decode cX3_play 36 = .ok (.iload_n 1, 1) := by decide +kernel
theorem dX3_play_37 : decode cX3_play 37 = .ok (.aaload, 1) := by decide +kernel
theorem dX3_play_38 : decode cX3_play 38 = .ok (.aload_n 0, 1) := by decide +kernel
theorem dX3_play_39 : decode cX3_play 39 = .ok (.getfield 103, 3) := by decide +kernel
theorem dX3_play_42 : decode cX3_play 42 = .ok (.invokestatic 106, 3) := by decide +kernel
theorem dX3_play_45 : decode cX3_play 45 = .ok (.invokevirtual 109, 3) := by decide +kernel
theorem dX3_play_48 : decode cX3_play 48 = .ok (.ifCond .ne 9, 3) := by decide +kernel
theorem dX3_play_51 : decode cX3_play 51 = .ok (.aload_n 0, 1) := by decide +kernel
theorem dX3_play_52 : decode cX3_play 52 = .ok (.invokevirtual 113, 3) := by decide +kernel
theorem dX3_play_55 : decode cX3_play 55 = .ok (.ineg, 1) := by decide +kernel
theorem dX3_play_56 : decode cX3_play 56 = .ok (.ireturn, 1) := by decide +kernel
theorem dX3_play_57 : decode cX3_play 57 = .ok (.aload_n 0, 1) := by decide +kernel
theorem dX3_play_58 : decode cX3_play 58 = .ok (.iload_n 1, 1) := by decide +kernel
theorem dX3_play_59 : decode cX3_play 59 = .ok (.iload_n 2, 1) := by decide +kernel
theorem dX3_play_60 : decode cX3_play 60 = .ok (.invokevirtual 117, 3) := by decide +kernel
theorem dX3_play_63 : decode cX3_play 63 = .ok (.istore_n 3, 1) := by decide +kernel
theorem dX3_play_64 : decode cX3_play 64 = .ok (.aload_n 0, 1) := by decide +kernel
theorem dX3_play_65 : decode cX3_play 65 = .ok (.dup, 1) := by decide +kernel
theorem dX3_play_66 : decode cX3_play 66 = .ok (.getfield 37, 3) := by decide +kernel
theorem dX3_play_69 : decode cX3_play 69 = .ok (.iload_n 3, 1) := by decide +kernel
theorem dX3_play_70 : decode cX3_play 70 = .ok (.iadd, 1) := by decide +kernel
theorem dX3_play_71 : decode cX3_play 71 = .ok (.putfield 37, 3) := by decide +kernel
theorem dX3_play_74 : decode cX3_play 74 = .ok (.aload_n 0, 1) := by decide +kernel
theorem dX3_play_75 : decode cX3_play 75 = .ok (.getfield 28, 3) := by decide +kernel
theorem dX3_play_78 : decode cX3_play 78 = .ok (.iload_n 1, 1) := by decide +kernel
theorem dX3_play_79 : decode cX3_play 79 = .ok (.aaload, 1) := by decide +kernel
theorem dX3_play_80 : decode cX3_play 80 = .ok (.dup, 1) := by decide +kernel
theorem dX3_play_81 : decode cX3_play 81 = .ok (.getfield 121, 3) := by decide +kernel
theorem dX3_play_84 : decode cX3_play 84 = .ok (.iload_n 3, 1) := by decide +kernel
theorem dX3_play_85 : decode cX3_play 85 = .ok (.iadd, 1) := by decide +kernel
theorem dX3_play_86 : decode cX3_play 86 = .ok (.putfield 121, 3) := by decide +kernel
theorem dX3_play_89 : decode cX3_play 89 = .ok (.aload_n 0, 1) := by decide +kernel
theorem dX3_play_90 : decode cX3_play 90 = .ok (.getfield 28, 3) := by decide +kernel
theorem dX3_play_93 : decode cX3_play 93 = .ok (.iload_n 1, 1) := by decide +kernel
theorem dX3_play_94 : decode cX3_play 94 = .ok (.aaload, 1) := by decide +kernel
theorem dX3_play_95 : decode cX3_play 95 = .ok (.getfield 124, 3) := by decide +kernel
theorem dX3_play_98 : decode cX3_play 98 = .ok (.iload_n 2, 1) := by decide +kernel
theorem dX3_play_99 : decode cX3_play 99 = .ok (.dup2, 1) := by decide +kernel
theorem dX3_play_100 : decode cX3_play 100 = .ok (.iaload, 1) := by decide +kernel
theorem dX3_play_101 : decode cX3_play 101 = .ok (.iconst 1, 1) := by decide +kernel
theorem dX3_play_102 : decode cX3_play 102 = .ok (.iadd, 1) := by decide +kernel
theorem dX3_play_103 : decode cX3_play 103 = .ok (.iastore, 1) := by decide +kernel
theorem dX3_play_104 : decode cX3_play 104 = .ok (.aload_n 0, 1) := by decide +kernel
theorem dX3_play_105 : decode cX3_play 105 = .ok (.getfield 21, 3) := by decide +kernel
theorem dX3_play_108 : decode cX3_play 108 = .ok (.iload_n 2, 1) := by decide +kernel
theorem dX3_play_109 : decode cX3_play 109 = .ok (.aaload, 1) := by decide +kernel
theorem dX3_play_110 : decode cX3_play 110 = .ok (.aload_n 0, 1) := by decide +kernel
theorem dX3_play_111 : decode cX3_play 111 = .ok (.getfield 10, 3) := by decide +kernel
theorem dX3_play_114 : decode cX3_play 114 = .ok (.invokevirtual 127, 3) := by decide +kernel
theorem dX3_play_117 : decode cX3_play 117 = .ok (.iload_n 3, 1) := by decide +kernel
theorem dX3_play_118 : decode cX3_play 118 = .ok (.ireturn, 1) := by decide +kernel
theorem dX3_tune_0 : decode cX3_tune 0 = .ok (.iload_n 1, 1) := by decide +kernel
theorem dX3_tune_1 : decode cX3_tune 1 = .ok (.invokestatic 55, 3) := by decide +kernel
theorem dX3_tune_4 : decode cX3_tune 4 = .ok (.iload_n 2, 1) := by decide +kernel
theorem dX3_tune_5 : decode cX3_tune 5 = .ok (.bipush (-120), 2) := by decide +kernel
theorem dX3_tune_7 : decode cX3_tune 7 = .ok (.if_icmp .lt 9, 3) := by decide +kernel
theorem dX3_tune_10 : decode cX3_tune 10 = .ok (.iload_n 2, 1) := by decide +kernel
theorem dX3_tune_11 : decode cX3_tune 11 = .ok (.bipush 120, 2) := by decide +kernel
theorem dX3_tune_13 : decode cX3_tune 13 = .ok (.if_icmp .le 13, 3) := by decide +kernel
theorem dX3_tune_16 : decode cX3_tune 16 = .ok (.new 75, 3) := by decide +kernel
theorem dX3_tune_19 : decode cX3_tune 19 = .ok (.dup, 1) := by decide +kernel
theorem dX3_tune_20 : decode cX3_tune 20 = .ok (.ldc 131, 2) := by decide +kernel
theorem dX3_tune_22 : decode cX3_tune 22 = .ok (.invokespecial 79, 3) := by decide +kernel
theorem dX3_tune_25 : decode cX3_tune 25 = .ok (.athrow, 1) := by decide +kernel
theorem dX3_tune_26 : decode cX3_tune 26 = .ok (.aload_n 0, 1) := by decide +kernel
theorem dX3_tune_27 : decode cX3_tune 27 = .ok (.getfield 10, 3) := by decide +kernel
theorem dX3_tune_30 : decode cX3_tune 30 = .ok (.iload_n 1, 1) := by decide +kernel
theorem dX3_tune_31 : decode cX3_tune 31 = .ok (.iload_n 2, 1) := by decide +kernel
theorem dX3_tune_32 : decode cX3_tune 32 = .ok (.invokevirtual 133, 3) := by decide +kernel
theorem dX3_tune_35 : decode cX3_tune 35 = .ok (.aload_n 0, 1) := by decide +kernel
theorem dX3_tune_36 : decode cX3_tune 36 = .ok (.getfield 10, 3) := by decide +kernel
theorem dX3_tune_39 : decode cX3_tune 39 = .ok (.getfield 137, 3) := by decide +kernel
theorem dX3_tune_42 : decode cX3_tune 42 = .ok (.iload_n 1, 1) := by decide +kernel
theorem dX3_tune_43 : decode cX3_tune 43 = .ok (.iaload, 1) := by decide +kernel
theorem dX3_tune_44 : decode cX3_tune 44 = .ok (.ireturn, 1) := by decide +kernel
theorem dX3_felt_0 : decode cX3_felt 0 = .ok (.iload_n 1, 1) := by decide +kernel
theorem dX3_felt_1 : decode cX3_felt 1 = .ok (.invokestatic 55, 3) := by decide +kernel
theorem dX3_felt_4 : decode cX3_felt 4 = .ok (.aload_n 0, 1) := by decide +kernel
theorem dX3_felt_5 : decode cX3_felt 5 = .ok (.getfield 37, 3) := by decide +kernel
theorem dX3_felt_8 : decode cX3_felt 8 = .ok (.iconst 4, 1) := by decide +kernel
theorem dX3_felt_9 : decode cX3_felt 9 = .ok (.if_icmp .ge 13, 3) := by decide +kernel
theorem dX3_felt_12 : decode cX3_felt 12 = .ok (.new 44, 3) := by decide +kernel
theorem dX3_felt_15 : decode cX3_felt 15 = .ok (.dup, 1) := by decide +kernel
theorem dX3_felt_16 : decode cX3_felt 16 = .ok (.ldc 140, 2) := by decide +kernel
theorem dX3_felt_18 : decode cX3_felt 18 = .ok (.invokespecial 48, 3) := by decide +kernel
theorem dX3_felt_21 : decode cX3_felt 21 = .ok (.athrow, 1) := by decide +kernel
theorem dX3_felt_22 : decode cX3_felt 22 = .ok (.aload_n 0, 1) := by decide +kernel
theorem dX3_felt_23 : decode cX3_felt 23 = .ok (.dup, 1) := by decide +kernel
theorem dX3_felt_24 : decode cX3_felt 24 = .ok (.getfield 37, 3) := by decide +kernel
theorem dX3_felt_27 : decode cX3_felt 27 = .ok (.iconst 4, 1) := by decide +kernel
theorem dX3_felt_28 : decode cX3_felt 28 = .ok (.isub, 1) := by decide +kernel
theorem dX3_felt_29 : decode cX3_felt 29 = .ok (.putfield 37, 3) := by decide +kernel
theorem dX3_felt_32 : decode cX3_felt 32 = .ok (.aload_n 0, 1) := by decide +kernel
theorem dX3_felt_33 : decode cX3_felt 33 = .ok (.getfield 10, 3) := by decide +kernel
theorem dX3_felt_36 : decode cX3_felt 36 = .ok (.getfield 142, 3) := by decide +kernel
theorem dX3_felt_39 : decode cX3_felt 39 = .ok (.iload_n 1, 1) := by decide +kernel
theorem dX3_felt_40 : decode cX3_felt 40 = .ok (.iaload, 1) := by decide +kernel
theorem dX3_felt_41 : decode cX3_felt 41 = .ok (.istore_n 2, 1) := by decide +kernel
theorem dX3_felt_42 : decode cX3_felt 42 = .ok (.aload_n 0, 1) := by decide +kernel
theorem dX3_felt_43 : decode cX3_felt 43 = .ok (.getfield 10, 3) := by decide +kernel
theorem dX3_felt_46 : decode cX3_felt 46 = .ok (.getfield 142, 3) := by decide +kernel
theorem dX3_felt_49 : decode cX3_felt 49 = .ok (.iload_n 1, 1) := by decide +kernel
theorem dX3_felt_50 : decode cX3_felt 50 = .ok (.iconst 0, 1) := by decide +kernel
theorem dX3_felt_51 : decode cX3_felt 51 = .ok (.iastore, 1) := by decide +kernel
theorem dX3_felt_52 : decode cX3_felt 52 = .ok (.iload_n 2, 1) := by decide +kernel
theorem dX3_felt_53 : decode cX3_felt 53 = .ok (.ireturn, 1) := by decide +kernel
theorem dX3_chase_0 : decode cX3_chase 0 = .ok (.aload_n 0, 1) := by decide +kernel
theorem dX3_chase_1 : decode cX3_chase 1 = .ok (.getfield 10, 3) := by decide +kernel
theorem dX3_chase_4 : decode cX3_chase 4 = .ok (.invokevirtual 145, 3) := by decide +kernel
theorem dX3_chase_7 : decode cX3_chase 7 = .ok (.istore_n 1, 1) := by decide +kernel
theorem dX3_chase_8 : decode cX3_chase 8 = .ok (.aload_n 0, 1) := by decide +kernel
theorem dX3_chase_9 : decode cX3_chase 9 = .ok (.getfield 10, 3) := by decide +kernel
theorem dX3_chase_12 : decode cX3_chase 12 = .ok (.invokevirtual 148, 3) := by decide +kernel
theorem dX3_chase_15 : decode cX3_chase 15 = .ok (.iload_n 1, 1) := by decide +kernel
theorem dX3_chase_16 : decode cX3_chase 16 = .ok (.ireturn, 1) := by decide +kernel
theorem dX3_pipe_0 : decode cX3_pipe 0 = .ok (.iload_n 1, 1) := by decide +kernel
theorem dX3_pipe_1 : decode cX3_pipe 1 = .ok (.invokestatic 55, 3) := by decide +kernel
theorem dX3_pipe_4 : decode cX3_pipe 4 = .ok (.iload_n 2, 1) := by decide +kernel
theorem dX3_pipe_5 : decode cX3_pipe 5 = .ok (.ifCond .lt 8, 3) := by decide +kernel
theorem dX3_pipe_8 : decode cX3_pipe 8 = .ok (.iload_n 2, 1) := by decide +kernel
theorem dX3_pipe_9 : decode cX3_pipe 9 = .ok (.iconst 5, 1) := by decide +kernel
theorem dX3_pipe_10 : decode cX3_pipe 10 = .ok (.if_icmp .lt 13, 3) := by decide +kernel
theorem dX3_pipe_13 : decode cX3_pipe 13 = .ok (.new 67, 3) := by decide +kernel
theorem dX3_pipe_16 : decode cX3_pipe 16 = .ok (.dup, 1) := by decide +kernel
theorem dX3_pipe_17 : decode cX3_pipe 17 = .ok (.ldc 151, 2) := by decide +kernel
theorem dX3_pipe_19 : decode cX3_pipe 19 = .ok (.invokespecial 71, 3) := by decide +kernel
theorem dX3_pipe_22 : decode cX3_pipe 22 = .ok (.athrow, 1) := by decide +kernel
theorem dX3_pipe_23 : decode cX3_pipe 23 = .ok (.aload_n 0, 1) := by decide +kernel
theorem dX3_pipe_24 : decode cX3_pipe 24 = .ok (.getfield 10, 3) := by decide +kernel
theorem dX3_pipe_27 : decode cX3_pipe 27 = .ok (.iload_n 1, 1) := by decide +kernel
theorem dX3_pipe_28 : decode cX3_pipe 28 = .ok (.iload_n 2, 1) := by decide +kernel
theorem dX3_pipe_29 : decode cX3_pipe 29 = .ok (.invokevirtual 153, 3) := by decide +kernel
theorem dX3_pipe_32 : decode cX3_pipe 32 = .ok (.ireturn, 1) := by decide +kernel
theorem dX3_sound_0 : decode cX3_sound 0 = .ok (.aload_n 0, 1) := by decide +kernel
theorem dX3_sound_1 : decode cX3_sound 1 = .ok (.iload_n 1, 1) := by decide +kernel
theorem dX3_sound_2 : decode cX3_sound 2 = .ok (.invokevirtual 51, 3) := by decide +kernel
theorem dX3_sound_5 : decode cX3_sound 5 = .ok (.aload_n 0, 1) := by decide +kernel
theorem dX3_sound_6 : decode cX3_sound 6 = .ok (.getfield 21, 3) := by decide +kernel
theorem dX3_sound_9 : decode cX3_sound 9 = .ok (.iload_n 1, 1) := by decide +kernel
theorem dX3_sound_10 : decode cX3_sound 10 = .ok (.aaload, 1) := by decide +kernel
theorem dX3_sound_11 : decode cX3_sound 11 = .ok (.aload_n 0, 1) := by decide +kernel
theorem dX3_sound_12 : decode cX3_sound 12 = .ok (.getfield 10, 3) := by decide +kernel
theorem dX3_sound_15 : decode cX3_sound 15 = .ok (.invokevirtual 156, 3) := by decide +kernel
theorem dX3_sound_18 : decode cX3_sound 18 = .ok (.ireturn, 1) := by decide +kernel
theorem dX3_told_0 : decode cX3_told 0 = .ok (.aload_n 0, 1) := by decide +kernel
theorem dX3_told_1 : decode cX3_told 1 = .ok (.iload_n 1, 1) := by decide +kernel
theorem dX3_told_2 : decode cX3_told 2 = .ok (.invokevirtual 94, 3) := by decide +kernel
theorem dX3_told_5 : decode cX3_told 5 = .ok (.iload_n 2, 1) := by decide +kernel
theorem dX3_told_6 : decode cX3_told 6 = .ok (.ifCond .lt 8, 3) := by decide +kernel
theorem dX3_told_9 : decode cX3_told 9 = .ok (.iload_n 2, 1) := by decide +kernel
theorem dX3_told_10 : decode cX3_told 10 = .ok (.iconst 5, 1) := by decide +kernel
theorem dX3_told_11 : decode cX3_told 11 = .ok (.if_icmp .lt 13, 3) := by decide +kernel
theorem dX3_told_14 : decode cX3_told 14 = .ok (.new 67, 3) := by decide +kernel
theorem dX3_told_17 : decode cX3_told 17 = .ok (.dup, 1) := by decide +kernel
theorem dX3_told_18 : decode cX3_told 18 = .ok (.ldc 151, 2) := by decide +kernel
theorem dX3_told_20 : decode cX3_told 20 = .ok (.invokespecial 71, 3) := by decide +kernel
theorem dX3_told_23 : decode cX3_told 23 = .ok (.athrow, 1) := by decide +kernel
theorem dX3_told_24 : decode cX3_told 24 = .ok (.aload_n 0, 1) := by decide +kernel
theorem dX3_told_25 : decode cX3_told 25 = .ok (.getfield 28, 3) := by decide +kernel
theorem dX3_told_28 : decode cX3_told 28 = .ok (.iload_n 1, 1) := by decide +kernel
theorem dX3_told_29 : decode cX3_told 29 = .ok (.aaload, 1) := by decide +kernel
theorem dX3_told_30 : decode cX3_told 30 = .ok (.iload_n 2, 1) := by decide +kernel
theorem dX3_told_31 : decode cX3_told 31 = .ok (.aload_n 0, 1) := by decide +kernel
theorem dX3_told_32 : decode cX3_told 32 = .ok (.getfield 103, 3) := by decide +kernel
theorem dX3_told_35 : decode cX3_told 35 = .ok (.invokestatic 106, 3) := by decide +kernel
theorem dX3_told_38 : decode cX3_told 38 = .ok (.invokevirtual 160, 3) := by decide +kernel
theorem dX3_told_41 : decode cX3_told 41 = .ok (.ireturn, 1) := by decide +kernel
theorem dX3_count_0 : decode cX3_count 0 = .ok (.iload_n 1, 1) := by decide +kernel
theorem dX3_count_1 : decode cX3_count 1 = .ok (.ifCond .lt 9, 3) := by decide +kernel
theorem dX3_count_4 : decode cX3_count 4 = .ok (.iload_n 1, 1) := by decide +kernel
theorem dX3_count_5 : decode cX3_count 5 = .ok (.bipush 9, 2) := by decide +kernel
theorem dX3_count_7 : decode cX3_count 7 = .ok (.if_icmp .lt 13, 3) := by decide +kernel
theorem dX3_count_10 : decode cX3_count 10 = .ok (.new 67, 3) := by decide +kernel
theorem dX3_count_13 : decode cX3_count 13 = .ok (.dup, 1) := by decide +kernel
theorem dX3_count_14 : decode cX3_count 14 = .ok (.ldc 161, 2) := by decide +kernel
theorem dX3_count_16 : decode cX3_count 16 = .ok (.invokespecial 71, 3) := by decide +kernel
theorem dX3_count_19 : decode cX3_count 19 = .ok (.athrow, 1) := by decide +kernel
theorem dX3_count_20 : decode cX3_count 20 = .ok (.aload_n 0, 1) := by decide +kernel
theorem dX3_count_21 : decode cX3_count 21 = .ok (.iload_n 1, 1) := by decide +kernel
theorem dX3_count_22 : decode cX3_count 22 = .ok (.invokevirtual 163, 3) := by decide +kernel
theorem dX3_count_25 : decode cX3_count 25 = .ok (.ireturn, 1) := by decide +kernel
theorem dX3_rest_0 : decode cX3_rest 0 = .ok (.iload_n 1, 1) := by decide +kernel
theorem dX3_rest_1 : decode cX3_rest 1 = .ok (.invokestatic 166, 3) := by decide +kernel
theorem dX3_rest_4 : decode cX3_rest 4 = .ok (.aload_n 0, 1) := by decide +kernel
theorem dX3_rest_5 : decode cX3_rest 5 = .ok (.aload_n 0, 1) := by decide +kernel
theorem dX3_rest_6 : decode cX3_rest 6 = .ok (.getfield 10, 3) := by decide +kernel
theorem dX3_rest_9 : decode cX3_rest 9 = .ok (.iload_n 1, 1) := by decide +kernel
theorem dX3_rest_10 : decode cX3_rest 10 = .ok (.invokevirtual 169, 3) := by decide +kernel
theorem dX3_rest_13 : decode cX3_rest 13 = .ok (.istore_n 2, 1) := by decide +kernel
theorem dX3_rest_14 : decode cX3_rest 14 = .ok (.iconst 0, 1) := by decide +kernel
theorem dX3_rest_15 : decode cX3_rest 15 = .ok (.istore_n 3, 1) := by decide +kernel
theorem dX3_rest_16 : decode cX3_rest 16 = .ok (.iload_n 3, 1) := by decide +kernel
theorem dX3_rest_17 : decode cX3_rest 17 = .ok (.aload_n 0, 1) := by decide +kernel
theorem dX3_rest_18 : decode cX3_rest 18 = .ok (.getfield 83, 3) := by decide +kernel
theorem dX3_rest_21 : decode cX3_rest 21 = .ok (.if_icmp .ge 18, 3) := by decide +kernel
theorem dX3_rest_24 : decode cX3_rest 24 = .ok (.aload_n 0, 1) := by decide +kernel
theorem dX3_rest_25 : decode cX3_rest 25 = .ok (.getfield 28, 3) := by decide +kernel
theorem dX3_rest_28 : decode cX3_rest 28 = .ok (.iload_n 3, 1) := by decide +kernel
theorem dX3_rest_29 : decode cX3_rest 29 = .ok (.aaload, 1) := by decide +kernel
theorem dX3_rest_30 : decode cX3_rest 30 = .ok (.invokevirtual 173, 3) := by decide +kernel
theorem dX3_rest_33 : decode cX3_rest 33 = .ok (.iinc 3 1, 3) := by decide +kernel
theorem dX3_rest_36 : decode cX3_rest 36 = .ok (.goto (-20), 3) := by decide +kernel
theorem dX3_rest_39 : decode cX3_rest 39 = .ok (.aload_n 0, 1) := by decide +kernel
theorem dX3_rest_40 : decode cX3_rest 40 = .ok (.dup, 1) := by decide +kernel
theorem dX3_rest_41 : decode cX3_rest 41 = .ok (.getfield 103, 3) := by decide +kernel
theorem dX3_rest_44 : decode cX3_rest 44 = .ok (.iload_n 1, 1) := by decide +kernel
theorem dX3_rest_45 : decode cX3_rest 45 = .ok (.iadd, 1) := by decide +kernel
theorem dX3_rest_46 : decode cX3_rest 46 = .ok (.putfield 103, 3) := by decide +kernel
theorem dX3_rest_49 : decode cX3_rest 49 = .ok (.iload_n 2, 1) := by decide +kernel
theorem dX3_rest_50 : decode cX3_rest 50 = .ok (.ireturn, 1) := by decide +kernel
theorem dX3_pays_0 : decode cX3_pays 0 = .ok (.aload_n 0, 1) := by decide +kernel
theorem dX3_pays_1 : decode cX3_pays 1 = .ok (.iload_n 1, 1) := by decide +kernel
theorem dX3_pays_2 : decode cX3_pays 2 = .ok (.invokevirtual 94, 3) := by decide +kernel
theorem dX3_pays_5 : decode cX3_pays 5 = .ok (.aload_n 0, 1) := by decide +kernel
theorem dX3_pays_6 : decode cX3_pays 6 = .ok (.iload_n 2, 1) := by decide +kernel
theorem dX3_pays_7 : decode cX3_pays 7 = .ok (.invokevirtual 51, 3) := by decide +kernel
theorem dX3_pays_10 : decode cX3_pays 10 = .ok (.aload_n 0, 1) := by decide +kernel
theorem dX3_pays_11 : decode cX3_pays 11 = .ok (.iload_n 1, 1) := by decide +kernel
theorem dX3_pays_12 : decode cX3_pays 12 = .ok (.iload_n 2, 1) := by decide +kernel
theorem dX3_pays_13 : decode cX3_pays 13 = .ok (.invokevirtual 117, 3) := by decide +kernel
theorem dX3_pays_16 : decode cX3_pays 16 = .ok (.ireturn, 1) := by decide +kernel
theorem dX3_best_0 : decode cX3_best 0 = .ok (.aload_n 0, 1) := by decide +kernel
theorem dX3_best_1 : decode cX3_best 1 = .ok (.iload_n 1, 1) := by decide +kernel
theorem dX3_best_2 : decode cX3_best 2 = .ok (.invokevirtual 94, 3) := by decide +kernel
theorem dX3_best_5 : decode cX3_best 5 = .ok (.iconst (-1), 1) := by decide +kernel
theorem dX3_best_6 : decode cX3_best 6 = .ok (.istore_n 2, 1) := by decide +kernel
theorem dX3_best_7 : decode cX3_best 7 = .ok (.iconst 0, 1) := by decide +kernel
theorem dX3_best_8 : decode cX3_best 8 = .ok (.istore_n 3, 1) := by decide +kernel
theorem dX3_best_9 : decode cX3_best 9 = .ok (.iconst 0, 1) := by decide +kernel
theorem dX3_best_10 : decode cX3_best 10 = .ok (.istore 4, 2) := by decide +kernel
theorem dX3_best_12 : decode cX3_best 12 = .ok (.iload 4, 2) := by decide +kernel
theorem dX3_best_14 : decode cX3_best 14 = .ok (.aload_n 0, 1) := by decide +kernel
theorem dX3_best_15 : decode cX3_best 15 = .ok (.getfield 41, 3) := by decide +kernel
theorem dX3_best_18 : decode cX3_best 18 = .ok (.if_icmp .ge 30, 3) := by decide +kernel
theorem dX3_best_21 : decode cX3_best 21 = .ok (.aload_n 0, 1) := by decide +kernel
theorem dX3_best_22 : decode cX3_best 22 = .ok (.iload_n 1, 1) := by decide +kernel
theorem dX3_best_23 : decode cX3_best 23 = .ok (.iload 4, 2) := by decide +kernel
theorem dX3_best_25 : decode cX3_best 25 = .ok (.invokevirtual 117, 3) := by decide +kernel
theorem dX3_best_28 : decode cX3_best 28 = .ok (.istore 5, 2) := by decide +kernel
theorem dX3_best_30 : decode cX3_best 30 = .ok (.iload 5, 2) := by decide +kernel
theorem dX3_best_32 : decode cX3_best 32 = .ok (.iload_n 3, 1) := by decide +kernel
theorem dX3_best_33 : decode cX3_best 33 = .ok (.if_icmp .le 9, 3) := by decide +kernel
theorem dX3_best_36 : decode cX3_best 36 = .ok (.iload 5, 2) := by decide +kernel
theorem dX3_best_38 : decode cX3_best 38 = .ok (.istore_n 3, 1) := by decide +kernel
theorem dX3_best_39 : decode cX3_best 39 = .ok (.iload 4, 2) := by decide +kernel
theorem dX3_best_41 : decode cX3_best 41 = .ok (.istore_n 2, 1) := by decide +kernel
theorem dX3_best_42 : decode cX3_best 42 = .ok (.iinc 4 1, 3) := by decide +kernel
theorem dX3_best_45 : decode cX3_best 45 = .ok (.goto (-33), 3) := by decide +kernel
theorem dX3_best_48 : decode cX3_best 48 = .ok (.iload_n 2, 1) := by decide +kernel
theorem dX3_best_49 : decode cX3_best 49 = .ok (.ireturn, 1) := by decide +kernel
theorem dX3_worst_0 : decode cX3_worst 0 = .ok (.aload_n 0, 1) := by decide +kernel
theorem dX3_worst_1 : decode cX3_worst 1 = .ok (.iload_n 1, 1) := by decide +kernel
theorem dX3_worst_2 : decode cX3_worst 2 = .ok (.invokevirtual 51, 3) := by decide +kernel
theorem dX3_worst_5 : decode cX3_worst 5 = .ok (.iconst (-1), 1) := by decide +kernel
theorem dX3_worst_6 : decode cX3_worst 6 = .ok (.istore_n 2, 1) := by decide +kernel
theorem dX3_worst_7 : decode cX3_worst 7 = .ok (.aload_n 0, 1) := by decide +kernel
theorem dX3_worst_8 : decode cX3_worst 8 = .ok (.getfield 21, 3) := by decide +kernel
theorem dX3_worst_11 : decode cX3_worst 11 = .ok (.iload_n 1, 1) := by decide +kernel
theorem dX3_worst_12 : decode cX3_worst 12 = .ok (.aaload, 1) := by decide +kernel
theorem dX3_worst_13 : decode cX3_worst 13 = .ok (.aload_n 0, 1) := by decide +kernel
theorem dX3_worst_14 : decode cX3_worst 14 = .ok (.getfield 10, 3) := by decide +kernel
theorem dX3_worst_17 : decode cX3_worst 17 = .ok (.invokevirtual 156, 3) := by decide +kernel
theorem dX3_worst_20 : decode cX3_worst 20 = .ok (.istore_n 3, 1) := by decide +kernel
theorem dX3_worst_21 : decode cX3_worst 21 = .ok (.iconst 0, 1) := by decide +kernel
theorem dX3_worst_22 : decode cX3_worst 22 = .ok (.istore 4, 2) := by decide +kernel
theorem dX3_worst_24 : decode cX3_worst 24 = .ok (.iload 4, 2) := by decide +kernel
theorem dX3_worst_26 : decode cX3_worst 26 = .ok (.bipush 12, 2) := by decide +kernel
theorem dX3_worst_28 : decode cX3_worst 28 = .ok (.if_icmp .ge 38, 3) := by decide +kernel
theorem dX3_worst_31 : decode cX3_worst 31 = .ok (.aload_n 0, 1) := by decide +kernel
theorem dX3_worst_32 : decode cX3_worst 32 = .ok (.getfield 21, 3) := by decide +kernel
theorem dX3_worst_35 : decode cX3_worst 35 = .ok (.iload_n 1, 1) := by decide +kernel
theorem dX3_worst_36 : decode cX3_worst 36 = .ok (.aaload, 1) := by decide +kernel
theorem dX3_worst_37 : decode cX3_worst 37 = .ok (.aload_n 0, 1) := by decide +kernel
theorem dX3_worst_38 : decode cX3_worst 38 = .ok (.getfield 10, 3) := by decide +kernel
theorem dX3_worst_41 : decode cX3_worst 41 = .ok (.iload 4, 2) := by decide +kernel
theorem dX3_worst_43 : decode cX3_worst 43 = .ok (.invokevirtual 176, 3) := by decide +kernel
theorem dX3_worst_46 : decode cX3_worst 46 = .ok (.istore 5, 2) := by decide +kernel
theorem dX3_worst_48 : decode cX3_worst 48 = .ok (.iload 5, 2) := by decide +kernel
theorem dX3_worst_50 : decode cX3_worst 50 = .ok (.iload_n 3, 1) := by decide +kernel
theorem dX3_worst_51 : decode cX3_worst 51 = .ok (.if_icmp .le 9, 3) := by decide +kernel
theorem dX3_worst_54 : decode cX3_worst 54 = .ok (.iload 5, 2) := by decide +kernel
theorem dX3_worst_56 : decode cX3_worst 56 = .ok (.istore_n 3, 1) := by decide +kernel
theorem dX3_worst_57 : decode cX3_worst 57 = .ok (.iload 4, 2) := by decide +kernel
theorem dX3_worst_59 : decode cX3_worst 59 = .ok (.istore_n 2, 1) := by decide +kernel
theorem dX3_worst_60 : decode cX3_worst 60 = .ok (.iinc 4 1, 3) := by decide +kernel
theorem dX3_worst_63 : decode cX3_worst 63 = .ok (.goto (-39), 3) := by decide +kernel
theorem dX3_worst_66 : decode cX3_worst 66 = .ok (.iload_n 2, 1) := by decide +kernel
theorem dX3_worst_67 : decode cX3_worst 67 = .ok (.ireturn, 1) := by decide +kernel
theorem dX3_foresee_0 : decode cX3_foresee 0 = .ok (.iload_n 1, 1) := by decide +kernel
theorem dX3_foresee_1 : decode cX3_foresee 1 = .ok (.invokestatic 166, 3) := by decide +kernel
theorem dX3_foresee_4 : decode cX3_foresee 4 = .ok (.iload_n 2, 1) := by decide +kernel
theorem dX3_foresee_5 : decode cX3_foresee 5 = .ok (.iconst 5, 1) := by decide +kernel
theorem dX3_foresee_6 : decode cX3_foresee 6 = .ok (.if_icmp .lt 9, 3) := by decide +kernel
theorem dX3_foresee_9 : decode cX3_foresee 9 = .ok (.iload_n 2, 1) := by decide +kernel
theorem dX3_foresee_10 : decode cX3_foresee 10 = .ok (.bipush 7, 2) := by decide +kernel
theorem dX3_foresee_12 : decode cX3_foresee 12 = .ok (.if_icmp .le 13, 3) := by decide +kernel
theorem dX3_foresee_15 : decode cX3_foresee 15 = .ok (.new 67, 3) := by decide +kernel
theorem dX3_foresee_18 : decode cX3_foresee 18 = .ok (.dup, 1) := by decide +kernel
theorem dX3_foresee_19 : decode cX3_foresee 19 = .ok (.ldc 179, 2) := by decide +kernel
theorem dX3_foresee_21 : decode cX3_foresee 21 = .ok (.invokespecial 71, 3) := by decide +kernel
theorem dX3_foresee_24 : decode cX3_foresee 24 = .ok (.athrow, 1) := by decide +kernel
theorem dX3_foresee_25 : decode cX3_foresee 25 = .ok (.aload_n 0, 1) := by decide +kernel
theorem dX3_foresee_26 : decode cX3_foresee 26 = .ok (.getfield 16, 3) := by decide +kernel
theorem dX3_foresee_29 : decode cX3_foresee 29 = .ok (.aload_n 0, 1) := by decide +kernel
theorem dX3_foresee_30 : decode cX3_foresee 30 = .ok (.getfield 10, 3) := by decide +kernel
theorem dX3_foresee_33 : decode cX3_foresee 33 = .ok (.invokevirtual 181, 3) := by decide +kernel
theorem dX3_foresee_36 : decode cX3_foresee 36 = .ok (.aload_n 0, 1) := by decide +kernel
theorem dX3_foresee_37 : decode cX3_foresee 37 = .ok (.aload_n 0, 1) := by decide +kernel
theorem dX3_foresee_38 : decode cX3_foresee 38 = .ok (.getfield 16, 3) := by decide +kernel
theorem dX3_foresee_41 : decode cX3_foresee 41 = .ok (.iload_n 1, 1) := by decide +kernel
theorem dX3_foresee_42 : decode cX3_foresee 42 = .ok (.invokevirtual 169, 3) := by decide +kernel
theorem dX3_foresee_45 : decode cX3_foresee 45 = .ok (.pop, 1) := by decide +kernel
theorem dX3_foresee_46 : decode cX3_foresee 46 = .ok (.aload_n 0, 1) := by decide +kernel
theorem dX3_foresee_47 : decode cX3_foresee 47 = .ok (.getfield 16, 3) := by decide +kernel
theorem dX3_foresee_50 : decode cX3_foresee 50 = .ok (.iload_n 2, 1) := by decide +kernel
theorem dX3_foresee_51 : decode cX3_foresee 51 = .ok (.invokevirtual 184, 3) := by decide +kernel
theorem dX3_foresee_54 : decode cX3_foresee 54 = .ok (.ireturn, 1) := by decide +kernel
theorem dX3_lasts_0 : decode cX3_lasts 0 = .ok (.aload_n 0, 1) := by decide +kernel
theorem dX3_lasts_1 : decode cX3_lasts 1 = .ok (.iload_n 1, 1) := by decide +kernel
theorem dX3_lasts_2 : decode cX3_lasts 2 = .ok (.invokevirtual 51, 3) := by decide +kernel
theorem dX3_lasts_5 : decode cX3_lasts 5 = .ok (.aload_n 0, 1) := by decide +kernel
theorem dX3_lasts_6 : decode cX3_lasts 6 = .ok (.getfield 16, 3) := by decide +kernel
theorem dX3_lasts_9 : decode cX3_lasts 9 = .ok (.aload_n 0, 1) := by decide +kernel
theorem dX3_lasts_10 : decode cX3_lasts 10 = .ok (.getfield 10, 3) := by decide +kernel
theorem dX3_lasts_13 : decode cX3_lasts 13 = .ok (.invokevirtual 181, 3) := by decide +kernel
theorem dX3_lasts_16 : decode cX3_lasts 16 = .ok (.iconst 0, 1) := by decide +kernel
theorem dX3_lasts_17 : decode cX3_lasts 17 = .ok (.istore_n 2, 1) := by decide +kernel
theorem dX3_lasts_18 : decode cX3_lasts 18 = .ok (.iload_n 2, 1) := by decide +kernel
theorem dX3_lasts_19 : decode cX3_lasts 19 = .ok (.bipush 99, 2) := by decide +kernel
theorem dX3_lasts_21 : decode cX3_lasts 21 = .ok (.if_icmp .ge 40, 3) := by decide +kernel
theorem dX3_lasts_24 : decode cX3_lasts 24 = .ok (.aload_n 0, 1) := by decide +kernel
theorem dX3_lasts_25 : decode cX3_lasts 25 = .ok (.getfield 21, 3) := by decide +kernel
theorem dX3_lasts_28 : decode cX3_lasts 28 = .ok (.iload_n 1, 1) := by decide +kernel
theorem dX3_lasts_29 : decode cX3_lasts 29 = .ok (.aaload, 1) := by decide +kernel
theorem dX3_lasts_30 : decode cX3_lasts 30 = .ok (.aload_n 0, 1) := by decide +kernel
theorem dX3_lasts_31 : decode cX3_lasts 31 = .ok (.getfield 16, 3) := by decide +kernel
theorem dX3_lasts_34 : decode cX3_lasts 34 = .ok (.invokevirtual 156, 3) := by decide +kernel
theorem dX3_lasts_37 : decode cX3_lasts 37 = .ok (.bipush 30, 2) := by decide +kernel
theorem dX3_lasts_39 : decode cX3_lasts 39 = .ok (.if_icmp .lt 22, 3) := by decide +kernel
theorem dX3_lasts_42 : decode cX3_lasts 42 = .ok (.aload_n 0, 1) := by decide +kernel
theorem dX3_lasts_43 : decode cX3_lasts 43 = .ok (.getfield 21, 3) := by decide +kernel
theorem dX3_lasts_46 : decode cX3_lasts 46 = .ok (.iload_n 1, 1) := by decide +kernel
theorem dX3_lasts_47 : decode cX3_lasts 47 = .ok (.aaload, 1) := by decide +kernel
theorem dX3_lasts_48 : decode cX3_lasts 48 = .ok (.aload_n 0, 1) := by decide +kernel
theorem dX3_lasts_49 : decode cX3_lasts 49 = .ok (.getfield 16, 3) := by decide +kernel
theorem dX3_lasts_52 : decode cX3_lasts 52 = .ok (.invokevirtual 127, 3) := by decide +kernel
theorem dX3_lasts_55 : decode cX3_lasts 55 = .ok (.iinc 2 1, 3) := by decide +kernel
theorem dX3_lasts_58 : decode cX3_lasts 58 = .ok (.goto (-40), 3) := by decide +kernel
theorem dX3_lasts_61 : decode cX3_lasts 61 = .ok (.iload_n 2, 1) := by decide +kernel
theorem dX3_lasts_62 : decode cX3_lasts 62 = .ok (.ireturn, 1) := by decide +kernel
theorem dX3_mean_0 : decode cX3_mean 0 = .ok (.aload_n 0, 1) := by decide +kernel
theorem dX3_mean_1 : decode cX3_mean 1 = .ok (.getfield 41, 3) := by decide +kernel
theorem dX3_mean_4 : decode cX3_mean 4 = .ok (.ifCond .ne 5, 3) := by decide +kernel
theorem dX3_mean_7 : decode cX3_mean 7 = .ok (.dconst 0, 1) := by decide +kernel
theorem dX3_mean_8 : decode cX3_mean 8 = .ok (.dreturn, 1) := by decide +kernel
theorem dX3_mean_9 : decode cX3_mean 9 = .ok (.iconst 0, 1) := by decide +kernel
theorem dX3_mean_10 : decode cX3_mean 10 = .ok (.istore_n 1, 1) := by decide +kernel
theorem dX3_mean_11 : decode cX3_mean 11 = .ok (.iconst 0, 1) := by decide +kernel
theorem dX3_mean_12 : decode cX3_mean 12 = .ok (.istore_n 2, 1) := by decide +kernel
theorem dX3_mean_13 : decode cX3_mean 13 = .ok (.iload_n 2, 1) := by decide +kernel
theorem dX3_mean_14 : decode cX3_mean 14 = .ok (.aload_n 0, 1) := by decide +kernel
theorem dX3_mean_15 : decode cX3_mean 15 = .ok (.getfield 41, 3) := by decide +kernel
theorem dX3_mean_18 : decode cX3_mean 18 = .ok (.if_icmp .ge 25, 3) := by decide +kernel
theorem dX3_mean_21 : decode cX3_mean 21 = .ok (.iload_n 1, 1) := by decide +kernel
theorem dX3_mean_22 : decode cX3_mean 22 = .ok (.aload_n 0, 1) := by decide +kernel
theorem dX3_mean_23 : decode cX3_mean 23 = .ok (.getfield 21, 3) := by decide +kernel
theorem dX3_mean_26 : decode cX3_mean 26 = .ok (.iload_n 2, 1) := by decide +kernel
theorem dX3_mean_27 : decode cX3_mean 27 = .ok (.aaload, 1) := by decide +kernel
theorem dX3_mean_28 : decode cX3_mean 28 = .ok (.aload_n 0, 1) := by decide +kernel
theorem dX3_mean_29 : decode cX3_mean 29 = .ok (.getfield 10, 3) := by decide +kernel
theorem dX3_mean_32 : decode cX3_mean 32 = .ok (.invokevirtual 156, 3) := by decide +kernel
theorem dX3_mean_35 : decode cX3_mean 35 = .ok (.iadd, 1) := by decide +kernel
theorem dX3_mean_36 : decode cX3_mean 36 = .ok (.istore_n 1, 1) := by decide +kernel
theorem dX3_mean_37 : decode cX3_mean 37 = .ok (.iinc 2 1, 3) := by decide +kernel
theorem dX3_mean_40 : decode cX3_mean 40 = .ok (.goto (-27), 3) := by decide +kernel
theorem dX3_mean_43 : decode cX3_mean 43 = .ok (.iload_n 1, 1) := by decide +kernel
theorem dX3_mean_44 : decode cX3_mean 44 = .ok (.i2d, 1) := by decide +kernel
theorem dX3_mean_45 : decode cX3_mean 45 = .ok (.aload_n 0, 1) := by decide +kernel
theorem dX3_mean_46 : decode cX3_mean 46 = .ok (.getfield 41, 3) := by decide +kernel
theorem dX3_mean_49 : decode cX3_mean 49 = .ok (.i2d, 1) := by decide +kernel
theorem dX3_mean_50 : decode cX3_mean 50 = .ok (.ddiv, 1) := by decide +kernel
theorem dX3_mean_51 : decode cX3_mean 51 = .ok (.dreturn, 1) := by decide +kernel
theorem dX3_digest_0 : decode cX3_digest 0 = .ok (.ldc2_w 187, 3) := by decide +kernel
theorem dX3_digest_3 : decode cX3_digest 3 = .ok (.lstore_n 1, 1) := by decide +kernel
theorem dX3_digest_4 : decode cX3_digest 4 = .ok (.iconst 0, 1) := by decide +kernel
theorem dX3_digest_5 : decode cX3_digest 5 = .ok (.istore_n 3, 1) := by decide +kernel
theorem dX3_digest_6 : decode cX3_digest 6 = .ok (.iload_n 3, 1) := by decide +kernel
theorem dX3_digest_7 : decode cX3_digest 7 = .ok (.bipush 9, 2) := by decide +kernel
theorem dX3_digest_9 : decode cX3_digest 9 = .ok (.if_icmp .ge 19, 3) := by decide +kernel
theorem dX3_digest_12 : decode cX3_digest 12 = .ok (.lload_n 1, 1) := by decide +kernel
theorem dX3_digest_13 : decode cX3_digest 13 = .ok (.aload_n 0, 1) := by decide +kernel
theorem dX3_digest_14 : decode cX3_digest 14 = .ok (.iload_n 3, 1) := by decide +kernel
theorem dX3_digest_15 : decode cX3_digest 15 = .ok (.invokevirtual 163, 3) := by decide +kernel
theorem dX3_digest_18 : decode cX3_digest 18 = .ok (.invokestatic 189, 3) := by decide +kernel
theorem dX3_digest_21 : decode cX3_digest 21 = .ok (.lstore_n 1, 1) := by decide +kernel
theorem dX3_digest_22 : decode cX3_digest 22 = .ok (.iinc 3 1, 3) := by decide +kernel
theorem dX3_digest_25 : decode cX3_digest 25 = .ok (.goto (-19), 3) := by decide +kernel
theorem dX3_digest_28 : decode cX3_digest 28 = .ok (.iconst 0, 1) := by decide +kernel
theorem dX3_digest_29 : decode cX3_digest 29 = .ok (.istore_n 3, 1) := by decide +kernel
theorem dX3_digest_30 : decode cX3_digest 30 = .ok (.iload_n 3, 1) := by decide +kernel
theorem dX3_digest_31 : decode cX3_digest 31 = .ok (.bipush 12, 2) := by decide +kernel
theorem dX3_digest_33 : decode cX3_digest 33 = .ok (.if_icmp .ge 39, 3) := by decide +kernel
theorem dX3_digest_36 : decode cX3_digest 36 = .ok (.iconst 0, 1) := by decide +kernel
theorem dX3_digest_37 : decode cX3_digest 37 = .ok (.istore 4, 2) := by decide +kernel
theorem dX3_digest_39 : decode cX3_digest 39 = .ok (.iload 4, 2) := by decide +kernel
theorem dX3_digest_41 : decode cX3_digest 41 = .ok (.iconst 5, 1) := by decide +kernel
theorem dX3_digest_42 : decode cX3_digest 42 = .ok (.if_icmp .ge 24, 3) := by decide +kernel
theorem dX3_digest_45 : decode cX3_digest 45 = .ok (.lload_n 1, 1) := by decide +kernel
theorem dX3_digest_46 : decode cX3_digest 46 = .ok (.aload_n 0, 1) := by decide +kernel
theorem dX3_digest_47 : decode cX3_digest 47 = .ok (.getfield 10, 3) := by decide +kernel
theorem dX3_digest_50 : decode cX3_digest 50 = .ok (.iload_n 3, 1) := by decide +kernel
theorem dX3_digest_51 : decode cX3_digest 51 = .ok (.iload 4, 2) := by decide +kernel
theorem dX3_digest_53 : decode cX3_digest 53 = .ok (.invokevirtual 153, 3) := by decide +kernel
theorem dX3_digest_56 : decode cX3_digest 56 = .ok (.invokestatic 189, 3) := by decide +kernel
theorem dX3_digest_59 : decode cX3_digest 59 = .ok (.lstore_n 1, 1) := by decide +kernel
theorem dX3_digest_60 : decode cX3_digest 60 = .ok (.iinc 4 1, 3) := by decide +kernel
theorem dX3_digest_63 : decode cX3_digest 63 = .ok (.goto (-24), 3) := by decide +kernel
theorem dX3_digest_66 : decode cX3_digest 66 = .ok (.iinc 3 1, 3) := by decide +kernel
theorem dX3_digest_69 : decode cX3_digest 69 = .ok (.goto (-39), 3) := by decide +kernel
theorem dX3_digest_72 : decode cX3_digest 72 = .ok (.iconst 0, 1) := by decide +kernel
theorem dX3_digest_73 : decode cX3_digest 73 = .ok (.istore_n 3, 1) := by decide +kernel
theorem dX3_digest_74 : decode cX3_digest 74 = .ok (.iload_n 3, 1) := by decide +kernel
theorem dX3_digest_75 : decode cX3_digest 75 = .ok (.bipush 7, 2) := by decide +kernel
theorem dX3_digest_77 : decode cX3_digest 77 = .ok (.if_icmp .ge 20, 3) := by decide +kernel
theorem dX3_digest_80 : decode cX3_digest 80 = .ok (.lload_n 1, 1) := by decide +kernel
theorem dX3_digest_81 : decode cX3_digest 81 = .ok (.aload_n 0, 1) := by decide +kernel
theorem dX3_digest_82 : decode cX3_digest 82 = .ok (.getfield 33, 3) := by decide +kernel
theorem dX3_digest_85 : decode cX3_digest 85 = .ok (.iload_n 3, 1) := by decide +kernel
theorem dX3_digest_86 : decode cX3_digest 86 = .ok (.iaload, 1) := by decide +kernel
theorem dX3_digest_87 : decode cX3_digest 87 = .ok (.invokestatic 189, 3) := by decide +kernel
theorem dX3_digest_90 : decode cX3_digest 90 = .ok (.lstore_n 1, 1) := by decide +kernel
theorem dX3_digest_91 : decode cX3_digest 91 = .ok (.iinc 3 1, 3) := by decide +kernel
theorem dX3_digest_94 : decode cX3_digest 94 = .ok (.goto (-20), 3) := by decide +kernel
theorem dX3_digest_97 : decode cX3_digest 97 = .ok (.iconst 0, 1) := by decide +kernel
theorem dX3_digest_98 : decode cX3_digest 98 = .ok (.istore_n 3, 1) := by decide +kernel
theorem dX3_digest_99 : decode cX3_digest 99 = .ok (.iload_n 3, 1) := by decide +kernel
theorem dX3_digest_100 : decode cX3_digest 100 = .ok (.aload_n 0, 1) := by decide +kernel
theorem dX3_digest_101 : decode cX3_digest 101 = .ok (.getfield 41, 3) := by decide +kernel
theorem dX3_digest_104 : decode cX3_digest 104 = .ok (.if_icmp .ge 21, 3) := by decide +kernel
theorem dX3_digest_107 : decode cX3_digest 107 = .ok (.aload_n 0, 1) := by decide +kernel
theorem dX3_digest_108 : decode cX3_digest 108 = .ok (.lload_n 1, 1) := by decide +kernel
theorem dX3_digest_109 : decode cX3_digest 109 = .ok (.aload_n 0, 1) := by decide +kernel
theorem dX3_digest_110 : decode cX3_digest 110 = .ok (.getfield 21, 3) := by decide +kernel
theorem dX3_digest_113 : decode cX3_digest 113 = .ok (.iload_n 3, 1) := by decide +kernel
theorem dX3_digest_114 : decode cX3_digest 114 = .ok (.aaload, 1) := by decide +kernel
theorem dX3_digest_115 : decode cX3_digest 115 = .ok (.invokevirtual 193, 3) := by decide +kernel
theorem dX3_digest_118 : decode cX3_digest 118 = .ok (.lstore_n 1, 1) := by decide +kernel
theorem dX3_digest_119 : decode cX3_digest 119 = .ok (.iinc 3 1, 3) := by decide +kernel
theorem dX3_digest_122 : decode cX3_digest 122 = .ok (.goto (-23), 3) := by decide +kernel
theorem dX3_digest_125 : decode cX3_digest 125 = .ok (.iconst 0, 1) := by decide +kernel
theorem dX3_digest_126 : decode cX3_digest 126 = .ok (.istore_n 3, 1) := by decide +kernel
theorem dX3_digest_127 : decode cX3_digest 127 = .ok (.iload_n 3, 1) := by decide +kernel
theorem dX3_digest_128 : decode cX3_digest 128 = .ok (.aload_n 0, 1) := by decide +kernel
theorem dX3_digest_129 : decode cX3_digest 129 = .ok (.getfield 83, 3) := by decide +kernel
theorem dX3_digest_132 : decode cX3_digest 132 = .ok (.if_icmp .ge 16, 3) := by decide +kernel
theorem dX3_digest_135 : decode cX3_digest 135 = .ok (.aload_n 0, 1) := by decide +kernel
theorem dX3_digest_136 : decode cX3_digest 136 = .ok (.lload_n 1, 1) := by decide +kernel
theorem dX3_digest_137 : decode cX3_digest 137 = .ok (.iload_n 3, 1) := by decide +kernel
theorem dX3_digest_138 : decode cX3_digest 138 = .ok (.invokevirtual 197, 3) := by decide +kernel
theorem dX3_digest_141 : decode cX3_digest 141 = .ok (.lstore_n 1, 1) := by decide +kernel
theorem dX3_digest_142 : decode cX3_digest 142 = .ok (.iinc 3 1, 3) := by decide +kernel
theorem dX3_digest_145 : decode cX3_digest 145 = .ok (.goto (-18), 3) := by decide +kernel
theorem dX3_digest_148 : decode cX3_digest 148 = .ok (.lload_n 1, 1) := by decide +kernel
theorem dX3_digest_149 : decode cX3_digest 149 = .ok (.lreturn, 1) := by decide +kernel
theorem dX3_checkTune_0 : decode cX3_checkTune 0 = .ok (.iload_n 1, 1) := by decide +kernel
theorem dX3_checkTune_1 : decode cX3_checkTune 1 = .ok (.ifCond .lt 11, 3) := by decide +kernel
theorem dX3_checkTune_4 : decode cX3_checkTune 4 = .ok (.iload_n 1, 1) := by decide +kernel
theorem dX3_checkTune_5 : decode cX3_checkTune 5 = .ok (.aload_n 0, 1) := by decide +kernel
theorem dX3_checkTune_6 : decode cX3_checkTune 6 = .ok (.getfield 41, 3) := by decide +kernel
theorem dX3_checkTune_9 : decode cX3_checkTune 9 = .ok (.if_icmp .lt 13, 3) := by decide +kernel
theorem dX3_checkTune_12 : decode cX3_checkTune 12 = .ok (.new 67, 3) := by decide +kernel
theorem dX3_checkTune_15 : decode cX3_checkTune 15 = .ok (.dup, 1) := by decide +kernel
theorem dX3_checkTune_16 : decode cX3_checkTune 16 = .ok (.ldc 200, 2) := by decide +kernel
theorem dX3_checkTune_18 : decode cX3_checkTune 18 = .ok (.invokespecial 71, 3) := by decide +kernel
theorem dX3_checkTune_21 : decode cX3_checkTune 21 = .ok (.athrow, 1) := by decide +kernel
theorem dX3_checkTune_22 : decode cX3_checkTune 22 = .ok (.return_, 1) := by decide +kernel
theorem dX3_checkStreet_0 : decode cX3_checkStreet 0 = .ok (.iload_n 1, 1) := by decide +kernel
theorem dX3_checkStreet_1 : decode cX3_checkStreet 1 = .ok (.ifCond .lt 11, 3) := by decide +kernel
theorem dX3_checkStreet_4 : decode cX3_checkStreet 4 = .ok (.iload_n 1, 1) := by decide +kernel
theorem dX3_checkStreet_5 : decode cX3_checkStreet 5 = .ok (.aload_n 0, 1) := by decide +kernel
theorem dX3_checkStreet_6 : decode cX3_checkStreet 6 = .ok (.getfield 83, 3) := by decide +kernel
theorem dX3_checkStreet_9 : decode cX3_checkStreet 9 = .ok (.if_icmp .lt 13, 3) := by decide +kernel
theorem dX3_checkStreet_12 : decode cX3_checkStreet 12 = .ok (.new 67, 3) := by decide +kernel
theorem dX3_checkStreet_15 : decode cX3_checkStreet 15 = .ok (.dup, 1) := by decide +kernel
theorem dX3_checkStreet_16 : decode cX3_checkStreet 16 = .ok (.ldc 202, 2) := by decide +kernel
theorem dX3_checkStreet_18 : decode cX3_checkStreet 18 = .ok (.invokespecial 71, 3) := by decide +kernel
theorem dX3_checkStreet_21 : decode cX3_checkStreet 21 = .ok (.athrow, 1) := by decide +kernel
theorem dX3_checkStreet_22 : decode cX3_checkStreet 22 = .ok (.return_, 1) := by decide +kernel
theorem dX3_checkPipe_0 : decode cX3_checkPipe 0 = .ok (.iload_n 0, 1) := by decide +kernel
theorem dX3_checkPipe_1 : decode cX3_checkPipe 1 = .ok (.ifCond .lt 9, 3) := by decide +kernel
theorem dX3_checkPipe_4 : decode cX3_checkPipe 4 = .ok (.iload_n 0, 1) := by decide +kernel
theorem dX3_checkPipe_5 : decode cX3_checkPipe 5 = .ok (.bipush 12, 2) := by decide +kernel
theorem dX3_checkPipe_7 : decode cX3_checkPipe 7 = .ok (.if_icmp .lt 13, 3) := by decide +kernel
theorem dX3_checkPipe_10 : decode cX3_checkPipe 10 = .ok (.new 67, 3) := by decide +kernel
theorem dX3_checkPipe_13 : decode cX3_checkPipe 13 = .ok (.dup, 1) := by decide +kernel
theorem dX3_checkPipe_14 : decode cX3_checkPipe 14 = .ok (.ldc 204, 2) := by decide +kernel
theorem dX3_checkPipe_16 : decode cX3_checkPipe 16 = .ok (.invokespecial 71, 3) := by decide +kernel
theorem dX3_checkPipe_19 : decode cX3_checkPipe 19 = .ok (.athrow, 1) := by decide +kernel
theorem dX3_checkPipe_20 : decode cX3_checkPipe 20 = .ok (.return_, 1) := by decide +kernel
theorem dX3_checkPermits_0 : decode cX3_checkPermits 0 = .ok (.iload_n 0, 1) := by decide +kernel
theorem dX3_checkPermits_1 : decode cX3_checkPermits 1 = .ok (.ifCond .lt 9, 3) := by decide +kernel
theorem dX3_checkPermits_4 : decode cX3_checkPermits 4 = .ok (.iload_n 0, 1) := by decide +kernel
theorem dX3_checkPermits_5 : decode cX3_checkPermits 5 = .ok (.bipush 127, 2) := by decide +kernel
theorem dX3_checkPermits_7 : decode cX3_checkPermits 7 = .ok (.if_icmp .le 13, 3) := by decide +kernel
theorem dX3_checkPermits_10 : decode cX3_checkPermits 10 = .ok (.new 75, 3) := by decide +kernel
theorem dX3_checkPermits_13 : decode cX3_checkPermits 13 = .ok (.dup, 1) := by decide +kernel
theorem dX3_checkPermits_14 : decode cX3_checkPermits 14 = .ok (.ldc 206, 2) := by decide +kernel
theorem dX3_checkPermits_16 : decode cX3_checkPermits 16 = .ok (.invokespecial 79, 3) := by decide +kernel
theorem dX3_checkPermits_19 : decode cX3_checkPermits 19 = .ok (.athrow, 1) := by decide +kernel
theorem dX3_checkPermits_20 : decode cX3_checkPermits 20 = .ok (.return_, 1) := by decide +kernel
theorem dX3_checkNights_0 : decode cX3_checkNights 0 = .ok (.iload_n 0, 1) := by decide +kernel
theorem dX3_checkNights_1 : decode cX3_checkNights 1 = .ok (.iconst 1, 1) := by decide +kernel
theorem dX3_checkNights_2 : decode cX3_checkNights 2 = .ok (.if_icmp .lt 9, 3) := by decide +kernel
theorem dX3_checkNights_5 : decode cX3_checkNights 5 = .ok (.iload_n 0, 1) := by decide +kernel
theorem dX3_checkNights_6 : decode cX3_checkNights 6 = .ok (.bipush 60, 2) := by decide +kernel
theorem dX3_checkNights_8 : decode cX3_checkNights 8 = .ok (.if_icmp .le 13, 3) := by decide +kernel
theorem dX3_checkNights_11 : decode cX3_checkNights 11 = .ok (.new 75, 3) := by decide +kernel
theorem dX3_checkNights_14 : decode cX3_checkNights 14 = .ok (.dup, 1) := by decide +kernel
theorem dX3_checkNights_15 : decode cX3_checkNights 15 = .ok (.ldc 208, 2) := by decide +kernel
theorem dX3_checkNights_17 : decode cX3_checkNights 17 = .ok (.invokespecial 79, 3) := by decide +kernel
theorem dX3_checkNights_20 : decode cX3_checkNights 20 = .ok (.athrow, 1) := by decide +kernel
theorem dX3_checkNights_21 : decode cX3_checkNights 21 = .ok (.return_, 1) := by decide +kernel
theorem dX3_weekdayOf_0 : decode cX3_weekdayOf 0 = .ok (.iload_n 0, 1) := by decide +kernel
theorem dX3_weekdayOf_1 : decode cX3_weekdayOf 1 = .ok (.bipush 7, 2) := by decide +kernel
theorem dX3_weekdayOf_3 : decode cX3_weekdayOf 3 = .ok (.invokestatic 210, 3) := by decide +kernel
theorem dX3_weekdayOf_6 : decode cX3_weekdayOf 6 = .ok (.ireturn, 1) := by decide +kernel
theorem dX3_payNow_0 : decode cX3_payNow 0 = .ok (.aload_n 0, 1) := by decide +kernel
theorem dX3_payNow_1 : decode cX3_payNow 1 = .ok (.getfield 28, 3) := by decide +kernel
theorem dX3_payNow_4 : decode cX3_payNow 4 = .ok (.iload_n 1, 1) := by decide +kernel
theorem dX3_payNow_5 : decode cX3_payNow 5 = .ok (.aaload, 1) := by decide +kernel
theorem dX3_payNow_6 : decode cX3_payNow 6 = .ok (.iload_n 2, 1) := by decide +kernel
theorem dX3_payNow_7 : decode cX3_payNow 7 = .ok (.aload_n 0, 1) := by decide +kernel
theorem dX3_payNow_8 : decode cX3_payNow 8 = .ok (.getfield 21, 3) := by decide +kernel
theorem dX3_payNow_11 : decode cX3_payNow 11 = .ok (.iload_n 2, 1) := by decide +kernel
theorem dX3_payNow_12 : decode cX3_payNow 12 = .ok (.aaload, 1) := by decide +kernel
theorem dX3_payNow_13 : decode cX3_payNow 13 = .ok (.aload_n 0, 1) := by decide +kernel
theorem dX3_payNow_14 : decode cX3_payNow 14 = .ok (.getfield 10, 3) := by decide +kernel
theorem dX3_payNow_17 : decode cX3_payNow 17 = .ok (.invokevirtual 156, 3) := by decide +kernel
theorem dX3_payNow_20 : decode cX3_payNow 20 = .ok (.invokevirtual 215, 3) := by decide +kernel
theorem dX3_payNow_23 : decode cX3_payNow 23 = .ok (.ireturn, 1) := by decide +kernel
theorem dX3_payFine_0 : decode cX3_payFine 0 = .ok (.bipush 10, 2) := by decide +kernel
theorem dX3_payFine_2 : decode cX3_payFine 2 = .ok (.aload_n 0, 1) := by decide +kernel
theorem dX3_payFine_3 : decode cX3_payFine 3 = .ok (.getfield 37, 3) := by decide +kernel
theorem dX3_payFine_6 : decode cX3_payFine 6 = .ok (.invokestatic 218, 3) := by decide +kernel
theorem dX3_payFine_9 : decode cX3_payFine 9 = .ok (.istore_n 1, 1) := by decide +kernel
theorem dX3_payFine_10 : decode cX3_payFine 10 = .ok (.aload_n 0, 1) := by decide +kernel
theorem dX3_payFine_11 : decode cX3_payFine 11 = .ok (.dup, 1) := by decide +kernel
theorem dX3_payFine_12 : decode cX3_payFine 12 = .ok (.getfield 37, 3) := by decide +kernel
theorem dX3_payFine_15 : decode cX3_payFine 15 = .ok (.iload_n 1, 1) := by decide +kernel
theorem dX3_payFine_16 : decode cX3_payFine 16 = .ok (.isub, 1) := by decide +kernel
theorem dX3_payFine_17 : decode cX3_payFine 17 = .ok (.putfield 37, 3) := by decide +kernel
theorem dX3_payFine_20 : decode cX3_payFine 20 = .ok (.aload_n 0, 1) := by decide +kernel
theorem dX3_payFine_21 : decode cX3_payFine 21 = .ok (.dup, 1) := by decide +kernel
theorem dX3_payFine_22 : decode cX3_payFine 22 = .ok (.getfield 221, 3) := by decide +kernel
theorem dX3_payFine_25 : decode cX3_payFine 25 = .ok (.iload_n 1, 1) := by decide +kernel
theorem dX3_payFine_26 : decode cX3_payFine 26 = .ok (.iadd, 1) := by decide +kernel
theorem dX3_payFine_27 : decode cX3_payFine 27 = .ok (.putfield 221, 3) := by decide +kernel
theorem dX3_payFine_30 : decode cX3_payFine 30 = .ok (.iload_n 1, 1) := by decide +kernel
theorem dX3_payFine_31 : decode cX3_payFine 31 = .ok (.ireturn, 1) := by decide +kernel
theorem dX3_passNights_0 : decode cX3_passNights 0 = .ok (.iconst 0, 1) := by decide +kernel
theorem dX3_passNights_1 : decode cX3_passNights 1 = .ok (.istore_n 3, 1) := by decide +kernel
theorem dX3_passNights_2 : decode cX3_passNights 2 = .ok (.iconst 0, 1) := by decide +kernel
theorem dX3_passNights_3 : decode cX3_passNights 3 = .ok (.istore 4, 2) := by decide +kernel
theorem dX3_passNights_5 : decode cX3_passNights 5 = .ok (.iload 4, 2) := by decide +kernel
theorem dX3_passNights_7 : decode cX3_passNights 7 = .ok (.iload_n 2, 1) := by decide +kernel
theorem dX3_passNights_8 : decode cX3_passNights 8 = .ok (.if_icmp .ge 31, 3) := by decide +kernel
theorem dX3_passNights_11 : decode cX3_passNights 11 = .ok (.iload_n 3, 1) := by decide +kernel
theorem dX3_passNights_12 : decode cX3_passNights 12 = .ok (.aload_n 1, 1) := by decide +kernel
theorem dX3_passNights_13 : decode cX3_passNights 13 = .ok (.aload_n 0, 1) := by decide +kernel
theorem dX3_passNights_14 : decode cX3_passNights 14 = .ok (.getfield 33, 3) := by decide +kernel
theorem dX3_passNights_17 : decode cX3_passNights 17 = .ok (.aload_n 0, 1) := by decide +kernel
theorem dX3_passNights_18 : decode cX3_passNights 18 = .ok (.getfield 103, 3) := by decide +kernel
theorem dX3_passNights_21 : decode cX3_passNights 21 = .ok (.iload 4, 2) := by decide +kernel
theorem dX3_passNights_23 : decode cX3_passNights 23 = .ok (.iadd, 1) := by decide +kernel
theorem dX3_passNights_24 : decode cX3_passNights 24 = .ok (.invokestatic 106, 3) := by decide +kernel
theorem dX3_passNights_27 : decode cX3_passNights 27 = .ok (.iaload, 1) := by decide +kernel
theorem dX3_passNights_28 : decode cX3_passNights 28 = .ok (.invokevirtual 224, 3) := by decide +kernel
theorem dX3_passNights_31 : decode cX3_passNights 31 = .ok (.iadd, 1) := by decide +kernel
theorem dX3_passNights_32 : decode cX3_passNights 32 = .ok (.istore_n 3, 1) := by decide +kernel
theorem dX3_passNights_33 : decode cX3_passNights 33 = .ok (.iinc 4 1, 3) := by decide +kernel
theorem dX3_passNights_36 : decode cX3_passNights 36 = .ok (.goto (-31), 3) := by decide +kernel
theorem dX3_passNights_39 : decode cX3_passNights 39 = .ok (.iload_n 3, 1) := by decide +kernel
theorem dX3_passNights_40 : decode cX3_passNights 40 = .ok (.ireturn, 1) := by decide +kernel
theorem dX3_countNow_0 : decode cX3_countNow 0 = .ok (.iload_n 1, 1) := by decide +kernel
theorem dX3_countNow_1 : decode cX3_countNow 1 = .ok (.tableswitch 84 0 8 #[51, 56, 64, 69, 74, 84, 84, 84, 79], 51) := by decide +kernel
theorem dX3_countNow_52 : decode cX3_countNow 52 = .ok (.aload_n 0, 1) := by decide +kernel
theorem dX3_countNow_53 : decode cX3_countNow 53 = .ok (.getfield 103, 3) := by decide +kernel
theorem dX3_countNow_56 : decode cX3_countNow 56 = .ok (.ireturn, 1) := by decide +kernel
theorem dX3_countNow_57 : decode cX3_countNow 57 = .ok (.aload_n 0, 1) := by decide +kernel
theorem dX3_countNow_58 : decode cX3_countNow 58 = .ok (.getfield 103, 3) := by decide +kernel
theorem dX3_countNow_61 : decode cX3_countNow 61 = .ok (.invokestatic 106, 3) := by decide +kernel
theorem dX3_countNow_64 : decode cX3_countNow 64 = .ok (.ireturn, 1) := by decide +kernel
theorem dX3_countNow_65 : decode cX3_countNow 65 = .ok (.aload_n 0, 1) := by decide +kernel
theorem dX3_countNow_66 : decode cX3_countNow 66 = .ok (.getfield 37, 3) := by decide +kernel
theorem dX3_countNow_69 : decode cX3_countNow 69 = .ok (.ireturn, 1) := by decide +kernel
theorem dX3_countNow_70 : decode cX3_countNow 70 = .ok (.aload_n 0, 1) := by decide +kernel
theorem dX3_countNow_71 : decode cX3_countNow 71 = .ok (.getfield 41, 3) := by decide +kernel
theorem dX3_countNow_74 : decode cX3_countNow 74 = .ok (.ireturn, 1) := by decide +kernel
theorem dX3_countNow_75 : decode cX3_countNow 75 = .ok (.aload_n 0, 1) := by decide +kernel
theorem dX3_countNow_76 : decode cX3_countNow 76 = .ok (.getfield 83, 3) := by decide +kernel
theorem dX3_countNow_79 : decode cX3_countNow 79 = .ok (.ireturn, 1) := by decide +kernel
theorem dX3_countNow_80 : decode cX3_countNow 80 = .ok (.aload_n 0, 1) := by decide +kernel
theorem dX3_countNow_81 : decode cX3_countNow 81 = .ok (.getfield 221, 3) := by decide +kernel
theorem dX3_countNow_84 : decode cX3_countNow 84 = .ok (.ireturn, 1) := by decide +kernel
theorem dX3_countNow_85 : decode cX3_countNow 85 = .ok (.aload_n 0, 1) := by decide +kernel
theorem dX3_countNow_86 : decode cX3_countNow 86 = .ok (.getfield 10, 3) := by decide +kernel
theorem dX3_countNow_89 : decode cX3_countNow 89 = .ok (.iload_n 1, 1) := by decide +kernel
theorem dX3_countNow_90 : decode cX3_countNow 90 = .ok (.invokevirtual 184, 3) := by decide +kernel
theorem dX3_countNow_93 : decode cX3_countNow 93 = .ok (.ireturn, 1) := by decide +kernel
theorem dX3_mix_0 : decode cX3_mix 0 = .ok (.lload_n 0, 1) := by decide +kernel
theorem dX3_mix_1 : decode cX3_mix 1 = .ok (.ldc2_w 227, 3) := by decide +kernel
theorem dX3_mix_4 : decode cX3_mix 4 = .ok (.lmul, 1) := by decide +kernel
theorem dX3_mix_5 : decode cX3_mix 5 = .ok (.iload_n 2, 1) := by decide +kernel
theorem dX3_mix_6 : decode cX3_mix 6 = .ok (.i2l, 1) := by decide +kernel
theorem dX3_mix_7 : decode cX3_mix 7 = .ok (.ladd, 1) := by decide +kernel
theorem dX3_mix_8 : decode cX3_mix 8 = .ok (.lreturn, 1) := by decide +kernel
theorem dX3_mixTune_0 : decode cX3_mixTune 0 = .ok (.lload_n 1, 1) := by decide +kernel
theorem dX3_mixTune_1 : decode cX3_mixTune 1 = .ok (.aload_n 3, 1) := by decide +kernel
theorem dX3_mixTune_2 : decode cX3_mixTune 2 = .ok (.getfield 58, 3) := by decide +kernel
theorem dX3_mixTune_5 : decode cX3_mixTune 5 = .ok (.invokestatic 189, 3) := by decide +kernel
theorem dX3_mixTune_8 : decode cX3_mixTune 8 = .ok (.lstore 4, 2) := by decide +kernel
theorem dX3_mixTune_10 : decode cX3_mixTune 10 = .ok (.iconst 0, 1) := by decide +kernel
theorem dX3_mixTune_11 : decode cX3_mixTune 11 = .ok (.istore 6, 2) := by decide +kernel
theorem dX3_mixTune_13 : decode cX3_mixTune 13 = .ok (.iload 6, 2) := by decide +kernel
theorem dX3_mixTune_15 : decode cX3_mixTune 15 = .ok (.aload_n 3, 1) := by decide +kernel
theorem dX3_mixTune_16 : decode cX3_mixTune 16 = .ok (.getfield 58, 3) := by decide +kernel
theorem dX3_mixTune_19 : decode cX3_mixTune 19 = .ok (.if_icmp .ge 30, 3) := by decide +kernel
theorem dX3_mixTune_22 : decode cX3_mixTune 22 = .ok (.iload 6, 2) := by decide +kernel
theorem dX3_mixTune_24 : decode cX3_mixTune 24 = .ok (.bipush 16, 2) := by decide +kernel
theorem dX3_mixTune_26 : decode cX3_mixTune 26 = .ok (.if_icmp .ge 23, 3) := by decide +kernel
theorem dX3_mixTune_29 : decode cX3_mixTune 29 = .ok (.lload 4, 2) := by decide +kernel
theorem dX3_mixTune_31 : decode cX3_mixTune 31 = .ok (.aload_n 3, 1) := by decide +kernel
theorem dX3_mixTune_32 : decode cX3_mixTune 32 = .ok (.getfield 72, 3) := by decide +kernel
theorem dX3_mixTune_35 : decode cX3_mixTune 35 = .ok (.iload 6, 2) := by decide +kernel
theorem dX3_mixTune_37 : decode cX3_mixTune 37 = .ok (.iaload, 1) := by decide +kernel
theorem dX3_mixTune_38 : decode cX3_mixTune 38 = .ok (.invokestatic 189, 3) := by decide +kernel
theorem dX3_mixTune_41 : decode cX3_mixTune 41 = .ok (.lstore 4, 2) := by decide +kernel
theorem dX3_mixTune_43 : decode cX3_mixTune 43 = .ok (.iinc 6 1, 3) := by decide +kernel
theorem dX3_mixTune_46 : decode cX3_mixTune 46 = .ok (.goto (-33), 3) := by decide +kernel
theorem dX3_mixTune_49 : decode cX3_mixTune 49 = .ok (.lload 4, 2) := by decide +kernel
theorem dX3_mixTune_51 : decode cX3_mixTune 51 = .ok (.aload_n 3, 1) := by decide +kernel
theorem dX3_mixTune_52 : decode cX3_mixTune 52 = .ok (.aload_n 0, 1) := by decide +kernel
theorem dX3_mixTune_53 : decode cX3_mixTune 53 = .ok (.getfield 10, 3) := by decide +kernel
theorem dX3_mixTune_56 : decode cX3_mixTune 56 = .ok (.invokevirtual 156, 3) := by decide +kernel
theorem dX3_mixTune_59 : decode cX3_mixTune 59 = .ok (.invokestatic 189, 3) := by decide +kernel
theorem dX3_mixTune_62 : decode cX3_mixTune 62 = .ok (.lreturn, 1) := by decide +kernel
theorem dX3_mixStreet_0 : decode cX3_mixStreet 0 = .ok (.lload_n 1, 1) := by decide +kernel
theorem dX3_mixStreet_1 : decode cX3_mixStreet 1 = .ok (.lstore 4, 2) := by decide +kernel
theorem dX3_mixStreet_3 : decode cX3_mixStreet 3 = .ok (.iconst 0, 1) := by decide +kernel
theorem dX3_mixStreet_4 : decode cX3_mixStreet 4 = .ok (.istore 6, 2) := by decide +kernel
theorem dX3_mixStreet_6 : decode cX3_mixStreet 6 = .ok (.iload 6, 2) := by decide +kernel
theorem dX3_mixStreet_8 : decode cX3_mixStreet 8 = .ok (.iconst 5, 1) := by decide +kernel
theorem dX3_mixStreet_9 : decode cX3_mixStreet 9 = .ok (.if_icmp .ge 34, 3) := by decide +kernel
theorem dX3_mixStreet_12 : decode cX3_mixStreet 12 = .ok (.lload 4, 2) := by decide +kernel
theorem dX3_mixStreet_14 : decode cX3_mixStreet 14 = .ok (.aload_n 0, 1) := by decide +kernel
theorem dX3_mixStreet_15 : decode cX3_mixStreet 15 = .ok (.getfield 28, 3) := by decide +kernel
theorem dX3_mixStreet_18 : decode cX3_mixStreet 18 = .ok (.iload_n 3, 1) := by decide +kernel
theorem dX3_mixStreet_19 : decode cX3_mixStreet 19 = .ok (.aaload, 1) := by decide +kernel
theorem dX3_mixStreet_20 : decode cX3_mixStreet 20 = .ok (.iload 6, 2) := by decide +kernel
theorem dX3_mixStreet_22 : decode cX3_mixStreet 22 = .ok (.aload_n 0, 1) := by decide +kernel
theorem dX3_mixStreet_23 : decode cX3_mixStreet 23 = .ok (.getfield 103, 3) := by decide +kernel
theorem dX3_mixStreet_26 : decode cX3_mixStreet 26 = .ok (.invokestatic 106, 3) := by decide +kernel
theorem dX3_mixStreet_29 : decode cX3_mixStreet 29 = .ok (.invokevirtual 160, 3) := by decide +kernel
theorem dX3_mixStreet_32 : decode cX3_mixStreet 32 = .ok (.invokestatic 189, 3) := by decide +kernel
theorem dX3_mixStreet_35 : decode cX3_mixStreet 35 = .ok (.lstore 4, 2) := by decide +kernel
theorem dX3_mixStreet_37 : decode cX3_mixStreet 37 = .ok (.iinc 6 1, 3) := by decide +kernel
theorem dX3_mixStreet_40 : decode cX3_mixStreet 40 = .ok (.goto (-34), 3) := by decide +kernel
theorem dX3_mixStreet_43 : decode cX3_mixStreet 43 = .ok (.iconst 0, 1) := by decide +kernel
theorem dX3_mixStreet_44 : decode cX3_mixStreet 44 = .ok (.istore 6, 2) := by decide +kernel
theorem dX3_mixStreet_46 : decode cX3_mixStreet 46 = .ok (.iload 6, 2) := by decide +kernel
theorem dX3_mixStreet_48 : decode cX3_mixStreet 48 = .ok (.aload_n 0, 1) := by decide +kernel
theorem dX3_mixStreet_49 : decode cX3_mixStreet 49 = .ok (.getfield 41, 3) := by decide +kernel
theorem dX3_mixStreet_52 : decode cX3_mixStreet 52 = .ok (.if_icmp .ge 23, 3) := by decide +kernel
theorem dX3_mixStreet_55 : decode cX3_mixStreet 55 = .ok (.lload 4, 2) := by decide +kernel
theorem dX3_mixStreet_57 : decode cX3_mixStreet 57 = .ok (.aload_n 0, 1) := by decide +kernel
theorem dX3_mixStreet_58 : decode cX3_mixStreet 58 = .ok (.iload_n 3, 1) := by decide +kernel
theorem dX3_mixStreet_59 : decode cX3_mixStreet 59 = .ok (.iload 6, 2) := by decide +kernel
theorem dX3_mixStreet_61 : decode cX3_mixStreet 61 = .ok (.invokevirtual 117, 3) := by decide +kernel
theorem dX3_mixStreet_64 : decode cX3_mixStreet 64 = .ok (.invokestatic 189, 3) := by decide +kernel
theorem dX3_mixStreet_67 : decode cX3_mixStreet 67 = .ok (.lstore 4, 2) := by decide +kernel
theorem dX3_mixStreet_69 : decode cX3_mixStreet 69 = .ok (.iinc 6 1, 3) := by decide +kernel
theorem dX3_mixStreet_72 : decode cX3_mixStreet 72 = .ok (.goto (-26), 3) := by decide +kernel
theorem dX3_mixStreet_75 : decode cX3_mixStreet 75 = .ok (.lload 4, 2) := by decide +kernel
theorem dX3_mixStreet_77 : decode cX3_mixStreet 77 = .ok (.lreturn, 1) := by decide +kernel
