theorem dX4_init_0 : decode cX4_init 0 = .ok (.aload_n 0, 1) := by decide +kernel
theorem dX4_init_1 : decode cX4_init 1 = .ok (.invokespecial 1, 3) := by decide +kernel
theorem dX4_init_4 : decode cX4_init 4 = .ok (.aload_n 0, 1) := by decide +kernel
theorem dX4_init_5 : decode cX4_init 5 = .ok (.bipush 20, 2) := by decide +kernel
theorem dX4_init_7 : decode cX4_init 7 = .ok (.putfield 7, 3) := by decide +kernel
theorem dX4_init_10 : decode cX4_init 10 = .ok (.aload_n 0, 1) := by decide +kernel
theorem dX4_init_11 : decode cX4_init 11 = .ok (.bipush 12, 2) := by decide +kernel
theorem dX4_init_13 : decode cX4_init 13 = .ok (.newarray .int, 2) := by decide +kernel
theorem dX4_init_15 : decode cX4_init 15 = .ok (.putfield 13, 3) := by decide +kernel
theorem dX4_init_18 : decode cX4_init 18 = .ok (.aload_n 0, 1) := by decide +kernel
theorem dX4_init_19 : decode cX4_init 19 = .ok (.bipush 12, 2) := by decide +kernel
theorem dX4_init_21 : decode cX4_init 21 = .ok (.newarray .int, 2) := by decide +kernel
theorem dX4_init_23 : decode cX4_init 23 = .ok (.putfield 17, 3) := by decide +kernel
theorem dX4_init_26 : decode cX4_init 26 = .ok (.aload_n 0, 1) := by decide +kernel
theorem dX4_init_27 : decode cX4_init 27 = .ok (.bipush 12, 2) := by decide +kernel
theorem dX4_init_29 : decode cX4_init 29 = .ok (.newarray .boolean, 2) := by decide +kernel
theorem dX4_init_31 : decode cX4_init 31 = .ok (.putfield 20, 3) := by decide +kernel
theorem dX4_init_34 : decode cX4_init 34 = .ok (.aload_n 0, 1) := by decide +kernel
theorem dX4_init_35 : decode cX4_init 35 = .ok (.bipush 12, 2) := by decide +kernel
theorem dX4_init_37 : decode cX4_init 37 = .ok (.newarray .boolean, 2) := by decide +kernel
theorem dX4_init_39 : decode cX4_init 39 = .ok (.putfield 24, 3) := by decide +kernel
theorem dX4_init_42 : decode cX4_init 42 = .ok (.aload_n 0, 1) := by decide +kernel
theorem dX4_init_43 : decode cX4_init 43 = .ok (.iconst 0, 1) := by decide +kernel
theorem dX4_init_44 : decode cX4_init 44 = .ok (.anewarray 27, 3) := by decide +kernel
theorem dX4_init_47 : decode cX4_init 47 = .ok (.putfield 28, 3) := by decide +kernel
theorem dX4_init_50 : decode cX4_init 50 = .ok (.aload_n 0, 1) := by decide +kernel
theorem dX4_init_51 : decode cX4_init 51 = .ok (.iconst 0, 1) := by decide +kernel
theorem dX4_init_52 : decode cX4_init 52 = .ok (.anewarray 27, 3) := by decide +kernel
theorem dX4_init_55 : decode cX4_init 55 = .ok (.putfield 32, 3) := by decide +kernel
theorem dX4_init_58 : decode cX4_init 58 = .ok (.aload_n 0, 1) := by decide +kernel
theorem dX4_init_59 : decode cX4_init 59 = .ok (.bipush 7, 2) := by decide +kernel
theorem dX4_init_61 : decode cX4_init 61 = .ok (.newarray .int, 2) := by decide +kernel
theorem dX4_init_63 : decode cX4_init 63 = .ok (.putfield 35, 3) := by decide +kernel
theorem dX4_init_66 : decode cX4_init 66 = .ok (.return_, 1) := by decide +kernel
theorem dX4_more_0 : decode cX4_more 0 = .ok (.aload_n 0, 1) := by decide +kernel
theorem dX4_more_1 : decode cX4_more 1 = .ok (.arraylength, 1) := by decide +kernel
theorem dX4_more_2 : decode cX4_more 2 = .ok (.iconst 1, 1) := by decide +kernel
theorem dX4_more_3 : decode cX4_more 3 = .ok (.iadd, 1) := by decide +kernel
theorem dX4_more_4 : decode cX4_more 4 = .ok (.anewarray 27, 3) := by decide +kernel
theorem dX4_more_7 : decode cX4_more 7 = .ok (.astore_n 2, 1) := by decide +kernel
theorem dX4_more_8 : decode cX4_more 8 = .ok (.iconst 0, 1) := by decide +kernel
theorem dX4_more_9 : decode cX4_more 9 = .ok (.istore_n 3, 1) := by decide +kernel
theorem dX4_more_10 : decode cX4_more 10 = .ok (.iload_n 3, 1) := by decide +kernel
theorem dX4_more_11 : decode cX4_more 11 = .ok (.aload_n 0, 1) := by decide +kernel
theorem dX4_more_12 : decode cX4_more 12 = .ok (.arraylength, 1) := by decide +kernel
theorem dX4_more_13 : decode cX4_more 13 = .ok (.if_icmp .ge 15, 3) := by decide +kernel
theorem dX4_more_16 : decode cX4_more 16 = .ok (.aload_n 2, 1) := by decide +kernel
theorem dX4_more_17 : decode cX4_more 17 = .ok (.iload_n 3, 1) := by decide +kernel
theorem dX4_more_18 : decode cX4_more 18 = .ok (.aload_n 0, 1) := by decide +kernel
theorem dX4_more_19 : decode cX4_more 19 = .ok (.iload_n 3, 1) := by decide +kernel
theorem dX4_more_20 : decode cX4_more 20 = .ok (.aaload, 1) := by decide +kernel
theorem dX4_more_21 : decode cX4_more 21 = .ok (.aastore, 1) := by decide +kernel
theorem dX4_more_22 : decode cX4_more 22 = .ok (.iinc 3 1, 3) := by decide +kernel
theorem dX4_more_25 : decode cX4_more 25 = .ok (.goto (-15), 3) := by decide +kernel
theorem dX4_more_28 : decode cX4_more 28 = .ok (.aload_n 2, 1) := by decide +kernel
theorem dX4_more_29 : decode cX4_more 29 = .ok (.aload_n 0, 1) := by decide +kernel
theorem dX4_more_30 : decode cX4_more 30 = .ok (.arraylength, 1) := by decide +kernel
theorem dX4_more_31 : decode cX4_more 31 = .ok (.aload_n 1, 1) := by decide +kernel
theorem dX4_more_32 : decode cX4_more 32 = .ok (.aastore, 1) := by decide +kernel
theorem dX4_more_33 : decode cX4_more 33 = .ok (.aload_n 2, 1) := by decide +kernel
theorem dX4_more_34 : decode cX4_more 34 = .ok (.areturn, 1) := by decide +kernel
theorem dX4_harm_0 : decode cX4_harm 0 = .ok (.aload_n 0, 1) := by decide +kernel
theorem dX4_harm_1 : decode cX4_harm 1 = .ok (.getfield 17, 3) := by decide +kernel
theorem dX4_harm_4 : decode cX4_harm 4 = .ok (.iload_n 1, 1) := by decide +kernel
theorem dX4_harm_5 : decode cX4_harm 5 = .ok (.iaload, 1) := by decide +kernel
theorem dX4_harm_6 : decode cX4_harm 6 = .ok (.ifCond .ge 13, 3) := by decide +kernel
theorem dX4_harm_9 : decode cX4_harm 9 = .ok (.aload_n 0, 1) := by decide +kernel
theorem dX4_harm_10 : decode cX4_harm 10 = .ok (.getfield 17, 3) := by decide +kernel
theorem dX4_harm_13 : decode cX4_harm 13 = .ok (.iload_n 1, 1) := by decide +kernel
theorem dX4_harm_14 : decode cX4_harm 14 = .ok (.iaload, 1) := by decide +kernel
theorem dX4_harm_15 : decode cX4_harm 15 = .ok (.ineg, 1) := by decide +kernel
theorem dX4_harm_16 : decode cX4_harm 16 = .ok (.goto 9, 3) := by decide +kernel
theorem dX4_harm_19 : decode cX4_harm 19 = .ok (.aload_n 0, 1) := by decide +kernel
theorem dX4_harm_20 : decode cX4_harm 20 = .ok (.getfield 17, 3) := by decide +kernel
theorem dX4_harm_23 : decode cX4_harm 23 = .ok (.iload_n 1, 1) := by decide +kernel
theorem dX4_harm_24 : decode cX4_harm 24 = .ok (.iaload, 1) := by decide +kernel
theorem dX4_harm_25 : decode cX4_harm 25 = .ok (.aload_n 0, 1) := by decide +kernel
theorem dX4_harm_26 : decode cX4_harm 26 = .ok (.getfield 13, 3) := by decide +kernel
theorem dX4_harm_29 : decode cX4_harm 29 = .ok (.iload_n 1, 1) := by decide +kernel
theorem dX4_harm_30 : decode cX4_harm 30 = .ok (.iaload, 1) := by decide +kernel
theorem dX4_harm_31 : decode cX4_harm 31 = .ok (.iadd, 1) := by decide +kernel
theorem dX4_harm_32 : decode cX4_harm 32 = .ok (.aload_n 0, 1) := by decide +kernel
theorem dX4_harm_33 : decode cX4_harm 33 = .ok (.getfield 13, 3) := by decide +kernel
theorem dX4_harm_36 : decode cX4_harm 36 = .ok (.iload_n 1, 1) := by decide +kernel
theorem dX4_harm_37 : decode cX4_harm 37 = .ok (.iaload, 1) := by decide +kernel
theorem dX4_harm_38 : decode cX4_harm 38 = .ok (.iadd, 1) := by decide +kernel
theorem dX4_harm_39 : decode cX4_harm 39 = .ok (.istore_n 2, 1) := by decide +kernel
theorem dX4_harm_40 : decode cX4_harm 40 = .ok (.aload_n 0, 1) := by decide +kernel
theorem dX4_harm_41 : decode cX4_harm 41 = .ok (.getfield 20, 3) := by decide +kernel
theorem dX4_harm_44 : decode cX4_harm 44 = .ok (.iload_n 1, 1) := by decide +kernel
theorem dX4_harm_45 : decode cX4_harm 45 = .ok (.baload, 1) := by decide +kernel
theorem dX4_harm_46 : decode cX4_harm 46 = .ok (.ifCond .ne 9, 3) := by decide +kernel
theorem dX4_harm_49 : decode cX4_harm 49 = .ok (.iload_n 2, 1) := by decide +kernel
theorem dX4_harm_50 : decode cX4_harm 50 = .ok (.bipush 60, 2) := by decide +kernel
theorem dX4_harm_52 : decode cX4_harm 52 = .ok (.if_icmp .le 8, 3) := by decide +kernel
theorem dX4_harm_55 : decode cX4_harm 55 = .ok (.bipush 60, 2) := by decide +kernel
theorem dX4_harm_57 : decode cX4_harm 57 = .ok (.goto 4, 3) := by decide +kernel
theorem dX4_harm_60 : decode cX4_harm 60 = .ok (.iload_n 2, 1) := by decide +kernel
theorem dX4_harm_61 : decode cX4_harm 61 = .ok (.ireturn, 1) := by decide +kernel
theorem dX4_sound_0 : decode cX4_sound 0 = .ok (.aload_n 0, 1) := by decide +kernel
theorem dX4_sound_1 : decode cX4_sound 1 = .ok (.getfield 28, 3) := by decide +kernel
theorem dX4_sound_4 : decode cX4_sound 4 = .ok (.iload_n 1, 1) := by decide +kernel
theorem dX4_sound_5 : decode cX4_sound 5 = .ok (.aaload, 1) := by decide +kernel
theorem dX4_sound_6 : decode cX4_sound 6 = .ok (.arraylength, 1) := by decide +kernel
theorem dX4_sound_7 : decode cX4_sound 7 = .ok (.ifCond .ne 5, 3) := by decide +kernel
theorem dX4_sound_10 : decode cX4_sound 10 = .ok (.iconst 0, 1) := by decide +kernel
theorem dX4_sound_11 : decode cX4_sound 11 = .ok (.ireturn, 1) := by decide +kernel
theorem dX4_sound_12 : decode cX4_sound 12 = .ok (.iconst 0, 1) := by decide +kernel
theorem dX4_sound_13 : decode cX4_sound 13 = .ok (.istore_n 2, 1) := by decide +kernel
theorem dX4_sound_14 : decode cX4_sound 14 = .ok (.aload_n 0, 1) := by decide +kernel
theorem dX4_sound_15 : decode cX4_sound 15 = .ok (.getfield 28, 3) := by decide +kernel
theorem dX4_sound_18 : decode cX4_sound 18 = .ok (.iload_n 1, 1) := by decide +kernel
theorem dX4_sound_19 : decode cX4_sound 19 = .ok (.aaload, 1) := by decide +kernel
theorem dX4_sound_20 : decode cX4_sound 20 = .ok (.astore_n 3, 1) := by decide +kernel
theorem dX4_sound_21 : decode cX4_sound 21 = .ok (.aload_n 3, 1) := by decide +kernel
theorem dX4_sound_22 : decode cX4_sound 22 = .ok (.arraylength, 1) := by decide +kernel
theorem dX4_sound_23 : decode cX4_sound 23 = .ok (.istore 4, 2) := by decide +kernel
theorem dX4_sound_25 : decode cX4_sound 25 = .ok (.iconst 0, 1) := by decide +kernel
theorem dX4_sound_26 : decode cX4_sound 26 = .ok (.istore 5, 2) := by decide +kernel
theorem dX4_sound_28 : decode cX4_sound 28 = .ok (.iload 5, 2) := by decide +kernel
theorem dX4_sound_30 : decode cX4_sound 30 = .ok (.iload 4, 2) := by decide +kernel
theorem dX4_sound_32 : decode cX4_sound 32 = .ok (.if_icmp .ge 24, 3) := by decide +kernel
theorem dX4_sound_35 : decode cX4_sound 35 = .ok (.aload_n 3, 1) := by decide +kernel
theorem dX4_sound_36 : decode cX4_sound 36 = .ok (.iload 5, 2) := by decide +kernel
theorem dX4_sound_38 : decode cX4_sound 38 = .ok (.iaload, 1) := by decide +kernel
theorem dX4_sound_39 : decode cX4_sound 39 = .ok (.istore 6, 2) := by decide +kernel
theorem dX4_sound_41 : decode cX4_sound 41 = .ok (.iload_n 2, 1) := by decide +kernel
theorem dX4_sound_42 : decode cX4_sound 42 = .ok (.aload_n 0, 1) := by decide +kernel
theorem dX4_sound_43 : decode cX4_sound 43 = .ok (.iload 6, 2) := by decide +kernel
theorem dX4_sound_45 : decode cX4_sound 45 = .ok (.invokevirtual 38, 3) := by decide +kernel
theorem dX4_sound_48 : decode cX4_sound 48 = .ok (.iadd, 1) := by decide +kernel
theorem dX4_sound_49 : decode cX4_sound 49 = .ok (.istore_n 2, 1) := by decide +kernel
theorem dX4_sound_50 : decode cX4_sound 50 = .ok (.iinc 5 1, 3) := by decide +kernel
theorem dX4_sound_53 : decode cX4_sound 53 = .ok (.goto (-25), 3) := by decide +kernel
theorem dX4_sound_56 : decode cX4_sound 56 = .ok (.bipush 60, 2) := by decide +kernel
theorem dX4_sound_58 : decode cX4_sound 58 = .ok (.iload_n 2, 1) := by decide +kernel
theorem dX4_sound_59 : decode cX4_sound 59 = .ok (.aload_n 0, 1) := by decide +kernel
theorem dX4_sound_60 : decode cX4_sound 60 = .ok (.getfield 28, 3) := by decide +kernel
theorem dX4_sound_63 : decode cX4_sound 63 = .ok (.iload_n 1, 1) := by decide +kernel
theorem dX4_sound_64 : decode cX4_sound 64 = .ok (.aaload, 1) := by decide +kernel
theorem dX4_sound_65 : decode cX4_sound 65 = .ok (.arraylength, 1) := by decide +kernel
theorem dX4_sound_66 : decode cX4_sound 66 = .ok (.idiv, 1) := by decide +kernel
theorem dX4_sound_67 : decode cX4_sound 67 = .ok (.isub, 1) := by decide +kernel
theorem dX4_sound_68 : decode cX4_sound 68 = .ok (.ireturn, 1) := by decide +kernel
theorem dX4_pays_0 : decode cX4_pays 0 = .ok (.aload_n 0, 1) := by decide +kernel
theorem dX4_pays_1 : decode cX4_pays 1 = .ok (.getfield 32, 3) := by decide +kernel
theorem dX4_pays_4 : decode cX4_pays 4 = .ok (.iload_n 1, 1) := by decide +kernel
theorem dX4_pays_5 : decode cX4_pays 5 = .ok (.aaload, 1) := by decide +kernel
theorem dX4_pays_6 : decode cX4_pays 6 = .ok (.iconst 0, 1) := by decide +kernel
theorem dX4_pays_7 : decode cX4_pays 7 = .ok (.iaload, 1) := by decide +kernel
theorem dX4_pays_8 : decode cX4_pays 8 = .ok (.aload_n 0, 1) := by decide +kernel
theorem dX4_pays_9 : decode cX4_pays 9 = .ok (.iload_n 2, 1) := by decide +kernel
theorem dX4_pays_10 : decode cX4_pays 10 = .ok (.invokevirtual 42, 3) := by decide +kernel
theorem dX4_pays_13 : decode cX4_pays 13 = .ok (.imul, 1) := by decide +kernel
theorem dX4_pays_14 : decode cX4_pays 14 = .ok (.bipush 60, 2) := by decide +kernel
theorem dX4_pays_16 : decode cX4_pays 16 = .ok (.idiv, 1) := by decide +kernel
theorem dX4_pays_17 : decode cX4_pays 17 = .ok (.istore_n 3, 1) := by decide +kernel
theorem dX4_pays_18 : decode cX4_pays 18 = .ok (.iconst 0, 1) := by decide +kernel
theorem dX4_pays_19 : decode cX4_pays 19 = .ok (.istore 4, 2) := by decide +kernel
theorem dX4_pays_21 : decode cX4_pays 21 = .ok (.iload 4, 2) := by decide +kernel
theorem dX4_pays_23 : decode cX4_pays 23 = .ok (.aload_n 0, 1) := by decide +kernel
theorem dX4_pays_24 : decode cX4_pays 24 = .ok (.getfield 32, 3) := by decide +kernel
theorem dX4_pays_27 : decode cX4_pays 27 = .ok (.iload_n 1, 1) := by decide +kernel
theorem dX4_pays_28 : decode cX4_pays 28 = .ok (.aaload, 1) := by decide +kernel
theorem dX4_pays_29 : decode cX4_pays 29 = .ok (.iconst 3, 1) := by decide +kernel
theorem dX4_pays_30 : decode cX4_pays 30 = .ok (.iload_n 2, 1) := by decide +kernel
theorem dX4_pays_31 : decode cX4_pays 31 = .ok (.iadd, 1) := by decide +kernel
theorem dX4_pays_32 : decode cX4_pays 32 = .ok (.iaload, 1) := by decide +kernel
theorem dX4_pays_33 : decode cX4_pays 33 = .ok (.if_icmp .ge 13, 3) := by decide +kernel
theorem dX4_pays_36 : decode cX4_pays 36 = .ok (.iload_n 3, 1) := by decide +kernel
theorem dX4_pays_37 : decode cX4_pays 37 = .ok (.iconst 2, 1) := by decide +kernel
theorem dX4_pays_38 : decode cX4_pays 38 = .ok (.idiv, 1) := by decide +kernel
theorem dX4_pays_39 : decode cX4_pays 39 = .ok (.istore_n 3, 1) := by decide +kernel
theorem dX4_pays_40 : decode cX4_pays 40 = .ok (.iinc 4 1, 3) := by decide +kernel
theorem dX4_pays_43 : decode cX4_pays 43 = .ok (.goto (-22), 3) := by decide +kernel
theorem dX4_pays_46 : decode cX4_pays 46 = .ok (.iload_n 3, 1) := by decide +kernel
theorem dX4_pays_47 : decode cX4_pays 47 = .ok (.ireturn, 1) := by decide +kernel
theorem dX4_sing_0 : decode cX4_sing 0 = .ok (.aload_n 0, 1) := by decide +kernel
theorem dX4_sing_1 : decode cX4_sing 1 = .ok (.getfield 28, 3) := by decide +kernel
theorem dX4_sing_4 : decode cX4_sing 4 = .ok (.iload_n 1, 1) := by decide +kernel
theorem dX4_sing_5 : decode cX4_sing 5 = .ok (.aaload, 1) := by decide +kernel
theorem dX4_sing_6 : decode cX4_sing 6 = .ok (.astore_n 2, 1) := by decide +kernel
theorem dX4_sing_7 : decode cX4_sing 7 = .ok (.aload_n 2, 1) := by decide +kernel
theorem dX4_sing_8 : decode cX4_sing 8 = .ok (.arraylength, 1) := by decide +kernel
theorem dX4_sing_9 : decode cX4_sing 9 = .ok (.istore_n 3, 1) := by decide +kernel
theorem dX4_sing_10 : decode cX4_sing 10 = .ok (.iconst 0, 1) := by decide +kernel
theorem dX4_sing_11 : decode cX4_sing 11 = .ok (.istore 4, 2) := by decide +kernel
theorem dX4_sing_13 : decode cX4_sing 13 = .ok (.iload 4, 2) := by decide +kernel
theorem dX4_sing_15 : decode cX4_sing 15 = .ok (.iload_n 3, 1) := by decide +kernel
theorem dX4_sing_16 : decode cX4_sing 16 = .ok (.if_icmp .ge 46, 3) := by decide +kernel
theorem dX4_sing_19 : decode cX4_sing 19 = .ok (.aload_n 2, 1) := by decide +kernel
theorem dX4_sing_20 : decode cX4_sing 20 = .ok (.iload 4, 2) := by decide +kernel
theorem dX4_sing_22 : decode cX4_sing 22 = .ok (.iaload, 1) := by decide +kernel
theorem dX4_sing_23 : decode cX4_sing 23 = .ok (.istore 5, 2) := by decide +kernel
theorem dX4_sing_25 : decode cX4_sing 25 = .ok (.aload_n 0, 1) := by decide +kernel
theorem dX4_sing_26 : decode cX4_sing 26 = .ok (.getfield 13, 3) := by decide +kernel
theorem dX4_sing_29 : decode cX4_sing 29 = .ok (.iload 5, 2) := by decide +kernel
theorem dX4_sing_31 : decode cX4_sing 31 = .ok (.iaload, 1) := by decide +kernel
theorem dX4_sing_32 : decode cX4_sing 32 = .ok (.bipush 30, 2) := by decide +kernel
theorem dX4_sing_34 : decode cX4_sing 34 = .ok (.if_icmp .ge 14, 3) := by decide +kernel
theorem dX4_sing_37 : decode cX4_sing 37 = .ok (.aload_n 0, 1) := by decide +kernel
theorem dX4_sing_38 : decode cX4_sing 38 = .ok (.getfield 13, 3) := by decide +kernel
theorem dX4_sing_41 : decode cX4_sing 41 = .ok (.iload 5, 2) := by decide +kernel
theorem dX4_sing_43 : decode cX4_sing 43 = .ok (.dup2, 1) := by decide +kernel
theorem dX4_sing_44 : decode cX4_sing 44 = .ok (.iaload, 1) := by decide +kernel
theorem dX4_sing_45 : decode cX4_sing 45 = .ok (.iconst 1, 1) := by decide +kernel
theorem dX4_sing_46 : decode cX4_sing 46 = .ok (.iadd, 1) := by decide +kernel
theorem dX4_sing_47 : decode cX4_sing 47 = .ok (.iastore, 1) := by decide +kernel
theorem dX4_sing_48 : decode cX4_sing 48 = .ok (.aload_n 0, 1) := by decide +kernel
theorem dX4_sing_49 : decode cX4_sing 49 = .ok (.getfield 24, 3) := by decide +kernel
theorem dX4_sing_52 : decode cX4_sing 52 = .ok (.iload 5, 2) := by decide +kernel
theorem dX4_sing_54 : decode cX4_sing 54 = .ok (.iconst 1, 1) := by decide +kernel
theorem dX4_sing_55 : decode cX4_sing 55 = .ok (.bastore, 1) := by decide +kernel
theorem dX4_sing_56 : decode cX4_sing 56 = .ok (.iinc 4 1, 3) := by decide +kernel
theorem dX4_sing_59 : decode cX4_sing 59 = .ok (.goto (-46), 3) := by decide +kernel
theorem dX4_sing_62 : decode cX4_sing 62 = .ok (.return_, 1) := by decide +kernel
theorem dX4_play_0 : decode cX4_play 0 = .ok (.aload_n 0, 1) := by decide +kernel
theorem dX4_play_1 : decode cX4_play 1 = .ok (.getfield 32, 3) := by decide +kernel
theorem dX4_play_4 : decode cX4_play 4 = .ok (.iload_n 1, 1) := by decide +kernel
theorem dX4_play_5 : decode cX4_play 5 = .ok (.aaload, 1) := by decide +kernel
theorem dX4_play_6 : decode cX4_play 6 = .ok (.astore_n 3, 1) := by decide +kernel
theorem dX4_play_7 : decode cX4_play 7 = .ok (.aload_n 3, 1) := by decide +kernel
theorem dX4_play_8 : decode cX4_play 8 = .ok (.iconst 1, 1) := by decide +kernel
theorem dX4_play_9 : decode cX4_play 9 = .ok (.iaload, 1) := by decide +kernel
theorem dX4_play_10 : decode cX4_play 10 = .ok (.iconst 1, 1) := by decide +kernel
theorem dX4_play_11 : decode cX4_play 11 = .ok (.aload_n 0, 1) := by decide +kernel
theorem dX4_play_12 : decode cX4_play 12 = .ok (.getfield 45, 3) := by decide +kernel
theorem dX4_play_15 : decode cX4_play 15 = .ok (.bipush 7, 2) := by decide +kernel
theorem dX4_play_17 : decode cX4_play 17 = .ok (.irem, 1) := by decide +kernel
theorem dX4_play_18 : decode cX4_play 18 = .ok (.ishl, 1) := by decide +kernel
theorem dX4_play_19 : decode cX4_play 19 = .ok (.iand, 1) := by decide +kernel
theorem dX4_play_20 : decode cX4_play 20 = .ok (.ifCond .ne 49, 3) := by decide +kernel
theorem dX4_play_23 : decode cX4_play 23 = .ok (.aload_n 0, 1) := by decide +kernel
theorem dX4_play_24 : decode cX4_play 24 = .ok (.getfield 7, 3) := by decide +kernel
theorem dX4_play_27 : decode cX4_play 27 = .ok (.bipush 10, 2) := by decide +kernel
theorem dX4_play_29 : decode cX4_play 29 = .ok (.if_icmp .le 8, 3) := by decide +kernel
theorem dX4_play_32 : decode cX4_play 32 = .ok (.bipush 10, 2) := by decide +kernel
theorem dX4_play_34 : decode cX4_play 34 = .ok (.goto 7, 3) := by decide +kernel
theorem dX4_play_37 : decode cX4_play 37 = .ok (.aload_n 0, 1) := by decide +kernel
theorem dX4_play_38 : decode cX4_play 38 = .ok (.getfield 7, 3) := by decide +kernel
theorem dX4_play_41 : decode cX4_play 41 = .ok (.istore 4, 2) := by decide +kernel
theorem dX4_play_43 : decode cX4_play 43 = .ok (.aload_n 0, 1) := by decide +kernel
theorem dX4_play_44 : decode cX4_play 44 = .ok (.dup, 1) := by decide +kernel
theorem dX4_play_45 : decode cX4_play 45 = .ok (.getfield 7, 3) := by decide +kernel
theorem dX4_play_48 : decode cX4_play 48 = .ok (.iload 4, 2) := by decide +kernel
theorem dX4_play_50 : decode cX4_play 50 = .ok (.isub, 1) := by decide +kernel
theorem dX4_play_51 : decode cX4_play 51 = .ok (.putfield 7, 3) := by decide +kernel
theorem dX4_play_54 : decode cX4_play 54 = .ok (.aload_n 0, 1) := by decide +kernel
theorem dX4_play_55 : decode cX4_play 55 = .ok (.dup, 1) := by decide +kernel
theorem dX4_play_56 : decode cX4_play 56 = .ok (.getfield 48, 3) := by decide +kernel
theorem dX4_play_59 : decode cX4_play 59 = .ok (.iload 4, 2) := by decide +kernel
theorem dX4_play_61 : decode cX4_play 61 = .ok (.iadd, 1) := by decide +kernel
theorem dX4_play_62 : decode cX4_play 62 = .ok (.putfield 48, 3) := by decide +kernel
theorem dX4_play_65 : decode cX4_play 65 = .ok (.iload 4, 2) := by decide +kernel
theorem dX4_play_67 : decode cX4_play 67 = .ok (.ineg, 1) := by decide +kernel
theorem dX4_play_68 : decode cX4_play 68 = .ok (.ireturn, 1) := by decide +kernel
theorem dX4_play_69 : decode cX4_play 69 = .ok (.aload_n 0, 1) := by decide +kernel
theorem dX4_play_70 : decode cX4_play 70 = .ok (.iload_n 1, 1) := by decide +kernel
theorem dX4_play_71 : decode cX4_play 71 = .ok (.iload_n 2, 1) := by decide +kernel
theorem dX4_play_72 : decode cX4_play 72 = .ok (.invokevirtual 51, 3) := by decide +kernel
theorem dX4_play_75 : decode cX4_play 75 = .ok (.istore 4, 2) := by decide +kernel
theorem dX4_play_77 : decode cX4_play 77 = .ok (.aload_n 0, 1) := by decide +kernel
theorem dX4_play_78 : decode cX4_play 78 = .ok (.dup, 1) := by decide +kernel
theorem dX4_play_79 : decode cX4_play 79 = .ok (.getfield 7, 3) := by decide +kernel
theorem dX4_play_82 : decode cX4_play 82 = .ok (.iload 4, 2) := by decide +kernel
theorem dX4_play_84 : decode cX4_play 84 = .ok (.iadd, 1) := by decide +kernel
theorem dX4_play_85 : decode cX4_play 85 = .ok (.putfield 7, 3) := by decide +kernel
theorem dX4_play_88 : decode cX4_play 88 = .ok (.aload_n 3, 1) := by decide +kernel
theorem dX4_play_89 : decode cX4_play 89 = .ok (.iconst 2, 1) := by decide +kernel
theorem dX4_play_90 : decode cX4_play 90 = .ok (.dup2, 1) := by decide +kernel
theorem dX4_play_91 : decode cX4_play 91 = .ok (.iaload, 1) := by decide +kernel
theorem dX4_play_92 : decode cX4_play 92 = .ok (.iload 4, 2) := by decide +kernel
theorem dX4_play_94 : decode cX4_play 94 = .ok (.iadd, 1) := by decide +kernel
theorem dX4_play_95 : decode cX4_play 95 = .ok (.iastore, 1) := by decide +kernel
theorem dX4_play_96 : decode cX4_play 96 = .ok (.aload_n 3, 1) := by decide +kernel
theorem dX4_play_97 : decode cX4_play 97 = .ok (.iconst 3, 1) := by decide +kernel
theorem dX4_play_98 : decode cX4_play 98 = .ok (.iload_n 2, 1) := by decide +kernel
theorem dX4_play_99 : decode cX4_play 99 = .ok (.iadd, 1) := by decide +kernel
theorem dX4_play_100 : decode cX4_play 100 = .ok (.dup2, 1) := by decide +kernel
theorem dX4_play_101 : decode cX4_play 101 = .ok (.iaload, 1) := by decide +kernel
theorem dX4_play_102 : decode cX4_play 102 = .ok (.iconst 1, 1) := by decide +kernel
theorem dX4_play_103 : decode cX4_play 103 = .ok (.iadd, 1) := by decide +kernel
theorem dX4_play_104 : decode cX4_play 104 = .ok (.iastore, 1) := by decide +kernel
theorem dX4_play_105 : decode cX4_play 105 = .ok (.aload_n 0, 1) := by decide +kernel
theorem dX4_play_106 : decode cX4_play 106 = .ok (.iload_n 2, 1) := by decide +kernel
theorem dX4_play_107 : decode cX4_play 107 = .ok (.invokevirtual 55, 3) := by decide +kernel
theorem dX4_play_110 : decode cX4_play 110 = .ok (.iload 4, 2) := by decide +kernel
theorem dX4_play_112 : decode cX4_play 112 = .ok (.ireturn, 1) := by decide +kernel
theorem dX4_rest_0 : decode cX4_rest 0 = .ok (.iconst 0, 1) := by decide +kernel
theorem dX4_rest_1 : decode cX4_rest 1 = .ok (.istore_n 1, 1) := by decide +kernel
theorem dX4_rest_2 : decode cX4_rest 2 = .ok (.iconst 0, 1) := by decide +kernel
theorem dX4_rest_3 : decode cX4_rest 3 = .ok (.istore_n 2, 1) := by decide +kernel
theorem dX4_rest_4 : decode cX4_rest 4 = .ok (.iload_n 2, 1) := by decide +kernel
theorem dX4_rest_5 : decode cX4_rest 5 = .ok (.bipush 12, 2) := by decide +kernel
theorem dX4_rest_7 : decode cX4_rest 7 = .ok (.if_icmp .ge 174, 3) := by decide +kernel
theorem dX4_rest_10 : decode cX4_rest 10 = .ok (.iload_n 1, 1) := by decide +kernel
theorem dX4_rest_11 : decode cX4_rest 11 = .ok (.aload_n 0, 1) := by decide +kernel
theorem dX4_rest_12 : decode cX4_rest 12 = .ok (.getfield 13, 3) := by decide +kernel
theorem dX4_rest_15 : decode cX4_rest 15 = .ok (.iload_n 2, 1) := by decide +kernel
theorem dX4_rest_16 : decode cX4_rest 16 = .ok (.iaload, 1) := by decide +kernel
theorem dX4_rest_17 : decode cX4_rest 17 = .ok (.bipush 9, 2) := by decide +kernel
theorem dX4_rest_19 : decode cX4_rest 19 = .ok (.if_icmp .le 25, 3) := by decide +kernel
theorem dX4_rest_22 : decode cX4_rest 22 = .ok (.aload_n 0, 1) := by decide +kernel
theorem dX4_rest_23 : decode cX4_rest 23 = .ok (.getfield 24, 3) := by decide +kernel
theorem dX4_rest_26 : decode cX4_rest 26 = .ok (.iload_n 2, 1) := by decide +kernel
theorem dX4_rest_27 : decode cX4_rest 27 = .ok (.baload, 1) := by decide +kernel
theorem dX4_rest_28 : decode cX4_rest 28 = .ok (.ifCond .ne 16, 3) := by decide +kernel
theorem dX4_rest_31 : decode cX4_rest 31 = .ok (.aload_n 0, 1) := by decide +kernel
theorem dX4_rest_32 : decode cX4_rest 32 = .ok (.getfield 20, 3) := by decide +kernel
theorem dX4_rest_35 : decode cX4_rest 35 = .ok (.iload_n 2, 1) := by decide +kernel
theorem dX4_rest_36 : decode cX4_rest 36 = .ok (.baload, 1) := by decide +kernel
theorem dX4_rest_37 : decode cX4_rest 37 = .ok (.ifCond .ne 7, 3) := by decide +kernel
theorem dX4_rest_40 : decode cX4_rest 40 = .ok (.iconst 1, 1) := by decide +kernel
theorem dX4_rest_41 : decode cX4_rest 41 = .ok (.goto 4, 3) := by decide +kernel
theorem dX4_rest_44 : decode cX4_rest 44 = .ok (.iconst 0, 1) := by decide +kernel
theorem dX4_rest_45 : decode cX4_rest 45 = .ok (.iadd, 1) := by decide +kernel
theorem dX4_rest_46 : decode cX4_rest 46 = .ok (.istore_n 1, 1) := by decide +kernel
theorem dX4_rest_47 : decode cX4_rest 47 = .ok (.aload_n 0, 1) := by decide +kernel
theorem dX4_rest_48 : decode cX4_rest 48 = .ok (.getfield 20, 3) := by decide +kernel
theorem dX4_rest_51 : decode cX4_rest 51 = .ok (.iload_n 2, 1) := by decide +kernel
theorem dX4_rest_52 : decode cX4_rest 52 = .ok (.dup2, 1) := by decide +kernel
theorem dX4_rest_53 : decode cX4_rest 53 = .ok (.baload, 1) := by decide +kernel
theorem dX4_rest_54 : decode cX4_rest 54 = .ok (.aload_n 0, 1) := by decide +kernel
theorem dX4_rest_55 : decode cX4_rest 55 = .ok (.getfield 13, 3) := by decide +kernel
theorem dX4_rest_58 : decode cX4_rest 58 = .ok (.iload_n 2, 1) := by decide +kernel
theorem dX4_rest_59 : decode cX4_rest 59 = .ok (.iaload, 1) := by decide +kernel
theorem dX4_rest_60 : decode cX4_rest 60 = .ok (.bipush 9, 2) := by decide +kernel
theorem dX4_rest_62 : decode cX4_rest 62 = .ok (.if_icmp .le 16, 3) := by decide +kernel
theorem dX4_rest_65 : decode cX4_rest 65 = .ok (.aload_n 0, 1) := by decide +kernel
theorem dX4_rest_66 : decode cX4_rest 66 = .ok (.getfield 24, 3) := by decide +kernel
theorem dX4_rest_69 : decode cX4_rest 69 = .ok (.iload_n 2, 1) := by decide +kernel
theorem dX4_rest_70 : decode cX4_rest 70 = .ok (.baload, 1) := by decide +kernel
theorem dX4_rest_71 : decode cX4_rest 71 = .ok (.ifCond .ne 7, 3) := by decide +kernel
theorem dX4_rest_74 : decode cX4_rest 74 = .ok (.iconst 1, 1) := by decide +kernel
theorem dX4_rest_75 : decode cX4_rest 75 = .ok (.goto 4, 3) := by decide +kernel
theorem dX4_rest_78 : decode cX4_rest 78 = .ok (.iconst 0, 1) := by decide +kernel
theorem dX4_rest_79 : decode cX4_rest 79 = .ok (.ior, 1) := by decide +kernel
theorem dX4_rest_80 : decode cX4_rest 80 = .ok (.bastore, 1) := by decide +kernel
theorem dX4_rest_81 : decode cX4_rest 81 = .ok (.aload_n 0, 1) := by decide +kernel
theorem dX4_rest_82 : decode cX4_rest 82 = .ok (.getfield 24, 3) := by decide +kernel
theorem dX4_rest_85 : decode cX4_rest 85 = .ok (.iload_n 2, 1) := by decide +kernel
theorem dX4_rest_86 : decode cX4_rest 86 = .ok (.iconst 0, 1) := by decide +kernel
theorem dX4_rest_87 : decode cX4_rest 87 = .ok (.bastore, 1) := by decide +kernel
theorem dX4_rest_88 : decode cX4_rest 88 = .ok (.aload_n 0, 1) := by decide +kernel
theorem dX4_rest_89 : decode cX4_rest 89 = .ok (.getfield 17, 3) := by decide +kernel
theorem dX4_rest_92 : decode cX4_rest 92 = .ok (.iload_n 2, 1) := by decide +kernel
theorem dX4_rest_93 : decode cX4_rest 93 = .ok (.dup2, 1) := by decide +kernel
theorem dX4_rest_94 : decode cX4_rest 94 = .ok (.iaload, 1) := by decide +kernel
theorem dX4_rest_95 : decode cX4_rest 95 = .ok (.iload_n 2, 1) := by decide +kernel
theorem dX4_rest_96 : decode cX4_rest 96 = .ok (.iconst 2, 1) := by decide +kernel
theorem dX4_rest_97 : decode cX4_rest 97 = .ok (.irem, 1) := by decide +kernel
theorem dX4_rest_98 : decode cX4_rest 98 = .ok (.ifCond .ne 18, 3) := by decide +kernel
theorem dX4_rest_101 : decode cX4_rest 101 = .ok (.aload_n 0, 1) := by decide +kernel
theorem dX4_rest_102 : decode cX4_rest 102 = .ok (.getfield 35, 3) := by decide +kernel
theorem dX4_rest_105 : decode cX4_rest 105 = .ok (.aload_n 0, 1) := by decide +kernel
theorem dX4_rest_106 : decode cX4_rest 106 = .ok (.getfield 45, 3) := by decide +kernel
theorem dX4_rest_109 : decode cX4_rest 109 = .ok (.bipush 7, 2) := by decide +kernel
theorem dX4_rest_111 : decode cX4_rest 111 = .ok (.irem, 1) := by decide +kernel
theorem dX4_rest_112 : decode cX4_rest 112 = .ok (.iaload, 1) := by decide +kernel
theorem dX4_rest_113 : decode cX4_rest 113 = .ok (.goto 16, 3) := by decide +kernel
theorem dX4_rest_116 : decode cX4_rest 116 = .ok (.aload_n 0, 1) := by decide +kernel
theorem dX4_rest_117 : decode cX4_rest 117 = .ok (.getfield 35, 3) := by decide +kernel
theorem dX4_rest_120 : decode cX4_rest 120 = .ok (.aload_n 0, 1) := by decide +kernel
theorem dX4_rest_121 : decode cX4_rest 121 = .ok (.getfield 45, 3) := by decide +kernel
theorem dX4_rest_124 : decode cX4_rest 124 = .ok (.bipush 7, 2) := by decide +kernel
theorem dX4_rest_126 : decode cX4_rest 126 = .ok (.irem, 1) := by decide +kernel
theorem dX4_rest_127 : decode cX4_rest 127 = .ok (.iaload, 1) := by decide +kernel
theorem dX4_rest_128 : decode cX4_rest 128 = .ok (.ineg, 1) := by decide +kernel
theorem dX4_rest_129 : decode cX4_rest 129 = .ok (.iadd, 1) := by decide +kernel
theorem dX4_rest_130 : decode cX4_rest 130 = .ok (.iastore, 1) := by decide +kernel
theorem dX4_rest_131 : decode cX4_rest 131 = .ok (.aload_n 0, 1) := by decide +kernel
theorem dX4_rest_132 : decode cX4_rest 132 = .ok (.getfield 17, 3) := by decide +kernel
theorem dX4_rest_135 : decode cX4_rest 135 = .ok (.iload_n 2, 1) := by decide +kernel
theorem dX4_rest_136 : decode cX4_rest 136 = .ok (.aload_n 0, 1) := by decide +kernel
theorem dX4_rest_137 : decode cX4_rest 137 = .ok (.getfield 17, 3) := by decide +kernel
theorem dX4_rest_140 : decode cX4_rest 140 = .ok (.iload_n 2, 1) := by decide +kernel
theorem dX4_rest_141 : decode cX4_rest 141 = .ok (.iaload, 1) := by decide +kernel
theorem dX4_rest_142 : decode cX4_rest 142 = .ok (.bipush 60, 2) := by decide +kernel
theorem dX4_rest_144 : decode cX4_rest 144 = .ok (.if_icmp .le 8, 3) := by decide +kernel
theorem dX4_rest_147 : decode cX4_rest 147 = .ok (.bipush 60, 2) := by decide +kernel
theorem dX4_rest_149 : decode cX4_rest 149 = .ok (.goto 25, 3) := by decide +kernel
theorem dX4_rest_152 : decode cX4_rest 152 = .ok (.aload_n 0, 1) := by decide +kernel
theorem dX4_rest_153 : decode cX4_rest 153 = .ok (.getfield 17, 3) := by decide +kernel
theorem dX4_rest_156 : decode cX4_rest 156 = .ok (.iload_n 2, 1) := by decide +kernel
theorem dX4_rest_157 : decode cX4_rest 157 = .ok (.iaload, 1) := by decide +kernel
theorem dX4_rest_158 : decode cX4_rest 158 = .ok (.bipush (-60), 2) := by decide +kernel
theorem dX4_rest_160 : decode cX4_rest 160 = .ok (.if_icmp .ge 8, 3) := by decide +kernel
theorem dX4_rest_163 : decode cX4_rest 163 = .ok (.bipush (-60), 2) := by decide +kernel
theorem dX4_rest_165 : decode cX4_rest 165 = .ok (.goto 9, 3) := by decide +kernel
theorem dX4_rest_168 : decode cX4_rest 168 = .ok (.aload_n 0, 1) := by decide +kernel
theorem dX4_rest_169 : decode cX4_rest 169 = .ok (.getfield 17, 3) := by decide +kernel
theorem dX4_rest_172 : decode cX4_rest 172 = .ok (.iload_n 2, 1) := by decide +kernel
theorem dX4_rest_173 : decode cX4_rest 173 = .ok (.iaload, 1) := by decide +kernel
theorem dX4_rest_174 : decode cX4_rest 174 = .ok (.iastore, 1) := by decide +kernel
theorem dX4_rest_175 : decode cX4_rest 175 = .ok (.iinc 2 1, 3) := by decide +kernel
theorem dX4_rest_178 : decode cX4_rest 178 = .ok (.goto (-174), 3) := by decide +kernel
theorem dX4_rest_181 : decode cX4_rest 181 = .ok (.aload_n 0, 1) := by decide +kernel
theorem dX4_rest_182 : decode cX4_rest 182 = .ok (.getfield 32, 3) := by decide +kernel
theorem dX4_rest_185 : decode cX4_rest 185 = .ok (.astore_n 2, 1) := by decide +kernel
theorem dX4_rest_186 : decode cX4_rest 186 = .ok (.aload_n 2, 1) := by decide +kernel
theorem dX4_rest_187 : decode cX4_rest 187 = .ok (.arraylength, 1) := by decide +kernel
theorem dX4_rest_188 : decode cX4_rest 188 = .ok (.istore_n 3, 1) := by decide +kernel
theorem dX4_rest_189 : decode cX4_rest 189 = .ok (.iconst 0, 1) := by decide +kernel
theorem dX4_rest_190 : decode cX4_rest 190 = .ok (.istore 4, 2) := by decide +kernel
theorem dX4_rest_192 : decode cX4_rest 192 = .ok (.iload 4, 2) := by decide +kernel
theorem dX4_rest_194 : decode cX4_rest 194 = .ok (.iload_n 3, 1) := by decide +kernel
theorem dX4_rest_195 : decode cX4_rest 195 = .ok (.if_icmp .ge 37, 3) := by decide +kernel
theorem dX4_rest_198 : decode cX4_rest 198 = .ok (.aload_n 2, 1) := by decide +kernel
theorem dX4_rest_199 : decode cX4_rest 199 = .ok (.iload 4, 2) := by decide +kernel
theorem dX4_rest_201 : decode cX4_rest 201 = .ok (.aaload, 1) := by decide +kernel
theorem dX4_rest_202 : decode cX4_rest 202 = .ok (.astore 5, 2) := by decide +kernel
theorem dX4_rest_204 : decode cX4_rest 204 = .ok (.iconst 3, 1) := by decide +kernel
theorem dX4_rest_205 : decode cX4_rest 205 = .ok (.istore 6, 2) := by decide +kernel
theorem dX4_rest_207 : decode cX4_rest 207 = .ok (.iload 6, 2) := by decide +kernel
theorem dX4_rest_209 : decode cX4_rest 209 = .ok (.bipush 9, 2) := by decide +kernel
theorem dX4_rest_211 : decode cX4_rest 211 = .ok (.if_icmp .ge 15, 3) := by decide +kernel
theorem dX4_rest_214 : decode cX4_rest 214 = .ok (.aload 5, 2) := by decide +kernel
theorem dX4_rest_216 : decode cX4_rest 216 = .ok (.iload 6, 2) := by decide +kernel
theorem dX4_rest_218 : decode cX4_rest 218 = .ok (.iconst 0, 1) := by decide +kernel
theorem dX4_rest_219 : decode cX4_rest 219 = .ok (.iastore, 1) := by decide +kernel
theorem dX4_rest_220 : decode cX4_rest 220 = .ok (.iinc 6 1, 3) := by decide +kernel
theorem dX4_rest_223 : decode cX4_rest 223 = .ok (.goto (-16), 3) := by decide +kernel
theorem dX4_rest_226 : decode cX4_rest 226 = .ok (.iinc 4 1, 3) := by decide +kernel
theorem dX4_rest_229 : decode cX4_rest 229 = .ok (.goto (-37), 3) := by decide +kernel
theorem dX4_rest_232 : decode cX4_rest 232 = .ok (.aload_n 0, 1) := by decide +kernel
theorem dX4_rest_233 : decode cX4_rest 233 = .ok (.dup, 1) := by decide +kernel
theorem dX4_rest_234 : decode cX4_rest 234 = .ok (.getfield 45, 3) := by decide +kernel
theorem dX4_rest_237 : decode cX4_rest 237 = .ok (.iconst 1, 1) := by decide +kernel
theorem dX4_rest_238 : decode cX4_rest 238 = .ok (.iadd, 1) := by decide +kernel
theorem dX4_rest_239 : decode cX4_rest 239 = .ok (.putfield 45, 3) := by decide +kernel
theorem dX4_rest_242 : decode cX4_rest 242 = .ok (.iload_n 1, 1) := by decide +kernel
theorem dX4_rest_243 : decode cX4_rest 243 = .ok (.ireturn, 1) := by decide +kernel
theorem dX4_crickets_0 : decode cX4_crickets 0 = .ok (.iconst 0, 1) := by decide +kernel
theorem dX4_crickets_1 : decode cX4_crickets 1 = .ok (.istore_n 1, 1) := by decide +kernel
theorem dX4_crickets_2 : decode cX4_crickets 2 = .ok (.aload_n 0, 1) := by decide +kernel
theorem dX4_crickets_3 : decode cX4_crickets 3 = .ok (.getfield 20, 3) := by decide +kernel
theorem dX4_crickets_6 : decode cX4_crickets 6 = .ok (.astore_n 2, 1) := by decide +kernel
theorem dX4_crickets_7 : decode cX4_crickets 7 = .ok (.aload_n 2, 1) := by decide +kernel
theorem dX4_crickets_8 : decode cX4_crickets 8 = .ok (.arraylength, 1) := by decide +kernel
theorem dX4_crickets_9 : decode cX4_crickets 9 = .ok (.istore_n 3, 1) := by decide +kernel
theorem dX4_crickets_10 : decode cX4_crickets 10 = .ok (.iconst 0, 1) := by decide +kernel
theorem dX4_crickets_11 : decode cX4_crickets 11 = .ok (.istore 4, 2) := by decide +kernel
theorem dX4_crickets_13 : decode cX4_crickets 13 = .ok (.iload 4, 2) := by decide +kernel
theorem dX4_crickets_15 : decode cX4_crickets 15 = .ok (.iload_n 3, 1) := by decide +kernel
theorem dX4_crickets_16 : decode cX4_crickets 16 = .ok (.if_icmp .ge 28, 3) := by decide +kernel
theorem dX4_crickets_19 : decode cX4_crickets 19 = .ok (.aload_n 2, 1) := by decide +kernel
theorem dX4_crickets_20 : decode cX4_crickets 20 = .ok (.iload 4, 2) := by decide +kernel
theorem dX4_crickets_22 : decode cX4_crickets 22 = .ok (.baload, 1) := by decide +kernel
theorem dX4_crickets_23 : decode cX4_crickets 23 = .ok (.istore 5, 2) := by decide +kernel
theorem dX4_crickets_25 : decode cX4_crickets 25 = .ok (.iload_n 1, 1) := by decide +kernel
theorem dX4_crickets_26 : decode cX4_crickets 26 = .ok (.iload 5, 2) := by decide +kernel
theorem dX4_crickets_28 : decode cX4_crickets 28 = .ok (.ifCond .eq 7, 3) := by decide +kernel
theorem dX4_crickets_31 : decode cX4_crickets 31 = .ok (.iconst 1, 1) := by decide +kernel
theorem dX4_crickets_32 : decode cX4_crickets 32 = .ok (.goto 4, 3) := by decide +kernel
theorem dX4_crickets_35 : decode cX4_crickets 35 = .ok (.iconst 0, 1) := by decide +kernel
theorem dX4_crickets_36 : decode cX4_crickets 36 = .ok (.iadd, 1) := by decide +kernel
theorem dX4_crickets_37 : decode cX4_crickets 37 = .ok (.istore_n 1, 1) := by decide +kernel
theorem dX4_crickets_38 : decode cX4_crickets 38 = .ok (.iinc 4 1, 3) := by decide +kernel
theorem dX4_crickets_41 : decode cX4_crickets 41 = .ok (.goto (-28), 3) := by decide +kernel
theorem dX4_crickets_44 : decode cX4_crickets 44 = .ok (.iload_n 1, 1) := by decide +kernel
theorem dX4_crickets_45 : decode cX4_crickets 45 = .ok (.ireturn, 1) := by decide +kernel
theorem dX4_sum_0 : decode cX4_sum 0 = .ok (.iconst 0, 1) := by decide +kernel
theorem dX4_sum_1 : decode cX4_sum 1 = .ok (.istore_n 2, 1) := by decide +kernel
theorem dX4_sum_2 : decode cX4_sum 2 = .ok (.aload_n 1, 1) := by decide +kernel
theorem dX4_sum_3 : decode cX4_sum 3 = .ok (.astore_n 3, 1) := by decide +kernel
theorem dX4_sum_4 : decode cX4_sum 4 = .ok (.aload_n 3, 1) := by decide +kernel
theorem dX4_sum_5 : decode cX4_sum 5 = .ok (.arraylength, 1) := by decide +kernel
theorem dX4_sum_6 : decode cX4_sum 6 = .ok (.istore 4, 2) := by decide +kernel
theorem dX4_sum_8 : decode cX4_sum 8 = .ok (.iconst 0, 1) := by decide +kernel
theorem dX4_sum_9 : decode cX4_sum 9 = .ok (.istore 5, 2) := by decide +kernel
theorem dX4_sum_11 : decode cX4_sum 11 = .ok (.iload 5, 2) := by decide +kernel
theorem dX4_sum_13 : decode cX4_sum 13 = .ok (.iload 4, 2) := by decide +kernel
theorem dX4_sum_15 : decode cX4_sum 15 = .ok (.if_icmp .ge 31, 3) := by decide +kernel
theorem dX4_sum_18 : decode cX4_sum 18 = .ok (.aload_n 3, 1) := by decide +kernel
theorem dX4_sum_19 : decode cX4_sum 19 = .ok (.iload 5, 2) := by decide +kernel
theorem dX4_sum_21 : decode cX4_sum 21 = .ok (.iaload, 1) := by decide +kernel
theorem dX4_sum_22 : decode cX4_sum 22 = .ok (.istore 6, 2) := by decide +kernel
theorem dX4_sum_24 : decode cX4_sum 24 = .ok (.iload_n 2, 1) := by decide +kernel
theorem dX4_sum_25 : decode cX4_sum 25 = .ok (.iload 6, 2) := by decide +kernel
theorem dX4_sum_27 : decode cX4_sum 27 = .ok (.ifCond .ge 9, 3) := by decide +kernel
theorem dX4_sum_30 : decode cX4_sum 30 = .ok (.iload 6, 2) := by decide +kernel
theorem dX4_sum_32 : decode cX4_sum 32 = .ok (.ineg, 1) := by decide +kernel
theorem dX4_sum_33 : decode cX4_sum 33 = .ok (.goto 5, 3) := by decide +kernel
theorem dX4_sum_36 : decode cX4_sum 36 = .ok (.iload 6, 2) := by decide +kernel
theorem dX4_sum_38 : decode cX4_sum 38 = .ok (.iadd, 1) := by decide +kernel
theorem dX4_sum_39 : decode cX4_sum 39 = .ok (.istore_n 2, 1) := by decide +kernel
theorem dX4_sum_40 : decode cX4_sum 40 = .ok (.iinc 5 1, 3) := by decide +kernel
theorem dX4_sum_43 : decode cX4_sum 43 = .ok (.goto (-32), 3) := by decide +kernel
theorem dX4_sum_46 : decode cX4_sum 46 = .ok (.iload_n 2, 1) := by decide +kernel
theorem dX4_sum_47 : decode cX4_sum 47 = .ok (.ireturn, 1) := by decide +kernel
theorem dX4_isSame_0 : decode cX4_isSame 0 = .ok (.bipush 9, 2) := by decide +kernel
theorem dX4_isSame_2 : decode cX4_isSame 2 = .ok (.newarray .int, 2) := by decide +kernel
theorem dX4_isSame_4 : decode cX4_isSame 4 = .ok (.dup, 1) := by decide +kernel
theorem dX4_isSame_5 : decode cX4_isSame 5 = .ok (.iconst 0, 1) := by decide +kernel
theorem dX4_isSame_6 : decode cX4_isSame 6 = .ok (.aload_n 0, 1) := by decide +kernel
theorem dX4_isSame_7 : decode cX4_isSame 7 = .ok (.getfield 45, 3) := by decide +kernel
theorem dX4_isSame_10 : decode cX4_isSame 10 = .ok (.iastore, 1) := by decide +kernel
theorem dX4_isSame_11 : decode cX4_isSame 11 = .ok (.dup, 1) := by decide +kernel
theorem dX4_isSame_12 : decode cX4_isSame 12 = .ok (.iconst 1, 1) := by decide +kernel
theorem dX4_isSame_13 : decode cX4_isSame 13 = .ok (.aload_n 0, 1) := by decide +kernel
theorem dX4_isSame_14 : decode cX4_isSame 14 = .ok (.getfield 45, 3) := by decide +kernel
theorem dX4_isSame_17 : decode cX4_isSame 17 = .ok (.bipush 7, 2) := by decide +kernel
theorem dX4_isSame_19 : decode cX4_isSame 19 = .ok (.irem, 1) := by decide +kernel
theorem dX4_isSame_20 : decode cX4_isSame 20 = .ok (.iastore, 1) := by decide +kernel
theorem dX4_isSame_21 : decode cX4_isSame 21 = .ok (.dup, 1) := by decide +kernel
theorem dX4_isSame_22 : decode cX4_isSame 22 = .ok (.iconst 2, 1) := by decide +kernel
theorem dX4_isSame_23 : decode cX4_isSame 23 = .ok (.aload_n 0, 1) := by decide +kernel
theorem dX4_isSame_24 : decode cX4_isSame 24 = .ok (.getfield 7, 3) := by decide +kernel
theorem dX4_isSame_27 : decode cX4_isSame 27 = .ok (.iastore, 1) := by decide +kernel
theorem dX4_isSame_28 : decode cX4_isSame 28 = .ok (.dup, 1) := by decide +kernel
theorem dX4_isSame_29 : decode cX4_isSame 29 = .ok (.iconst 3, 1) := by decide +kernel
theorem dX4_isSame_30 : decode cX4_isSame 30 = .ok (.aload_n 0, 1) := by decide +kernel
theorem dX4_isSame_31 : decode cX4_isSame 31 = .ok (.getfield 28, 3) := by decide +kernel
theorem dX4_isSame_34 : decode cX4_isSame 34 = .ok (.arraylength, 1) := by decide +kernel
theorem dX4_isSame_35 : decode cX4_isSame 35 = .ok (.iastore, 1) := by decide +kernel
theorem dX4_isSame_36 : decode cX4_isSame 36 = .ok (.dup, 1) := by decide +kernel
theorem dX4_isSame_37 : decode cX4_isSame 37 = .ok (.iconst 4, 1) := by decide +kernel
theorem dX4_isSame_38 : decode cX4_isSame 38 = .ok (.aload_n 0, 1) := by decide +kernel
theorem dX4_isSame_39 : decode cX4_isSame 39 = .ok (.getfield 32, 3) := by decide +kernel
theorem dX4_isSame_42 : decode cX4_isSame 42 = .ok (.arraylength, 1) := by decide +kernel
theorem dX4_isSame_43 : decode cX4_isSame 43 = .ok (.iastore, 1) := by decide +kernel
theorem dX4_isSame_44 : decode cX4_isSame 44 = .ok (.dup, 1) := by decide +kernel
theorem dX4_isSame_45 : decode cX4_isSame 45 = .ok (.iconst 5, 1) := by decide +kernel
theorem dX4_isSame_46 : decode cX4_isSame 46 = .ok (.aload_n 0, 1) := by decide +kernel
theorem dX4_isSame_47 : decode cX4_isSame 47 = .ok (.invokevirtual 66, 3) := by decide +kernel
theorem dX4_isSame_50 : decode cX4_isSame 50 = .ok (.iastore, 1) := by decide +kernel
theorem dX4_isSame_51 : decode cX4_isSame 51 = .ok (.dup, 1) := by decide +kernel
theorem dX4_isSame_52 : decode cX4_isSame 52 = .ok (.bipush 6, 2) := by decide +kernel
theorem dX4_isSame_54 : decode cX4_isSame 54 = .ok (.aload_n 0, 1) := by decide +kernel
theorem dX4_isSame_55 : decode cX4_isSame 55 = .ok (.aload_n 0, 1) := by decide +kernel
theorem dX4_isSame_56 : decode cX4_isSame 56 = .ok (.getfield 13, 3) := by decide +kernel
theorem dX4_isSame_59 : decode cX4_isSame 59 = .ok (.invokevirtual 70, 3) := by decide +kernel
theorem dX4_isSame_62 : decode cX4_isSame 62 = .ok (.iastore, 1) := by decide +kernel
theorem dX4_isSame_63 : decode cX4_isSame 63 = .ok (.dup, 1) := by decide +kernel
theorem dX4_isSame_64 : decode cX4_isSame 64 = .ok (.bipush 7, 2) := by decide +kernel
theorem dX4_isSame_66 : decode cX4_isSame 66 = .ok (.aload_n 0, 1) := by decide +kernel
theorem dX4_isSame_67 : decode cX4_isSame 67 = .ok (.aload_n 0, 1) := by decide +kernel
theorem dX4_isSame_68 : decode cX4_isSame 68 = .ok (.getfield 17, 3) := by decide +kernel
theorem dX4_isSame_71 : decode cX4_isSame 71 = .ok (.invokevirtual 70, 3) := by decide +kernel
theorem dX4_isSame_74 : decode cX4_isSame 74 = .ok (.iastore, 1) := by decide +kernel
theorem dX4_isSame_75 : decode cX4_isSame 75 = .ok (.dup, 1) := by decide +kernel
theorem dX4_isSame_76 : decode cX4_isSame 76 = .ok (.bipush 8, 2) := by decide +kernel
theorem dX4_isSame_78 : decode cX4_isSame 78 = .ok (.aload_n 0, 1) := by decide +kernel
theorem dX4_isSame_79 : decode cX4_isSame 79 = .ok (.getfield 48, 3) := by decide +kernel
theorem dX4_isSame_82 : decode cX4_isSame 82 = .ok (.iastore, 1) := by decide +kernel
theorem dX4_isSame_83 : decode cX4_isSame 83 = .ok (.astore_n 2, 1) := by decide +kernel
theorem dX4_isSame_84 : decode cX4_isSame 84 = .ok (.iconst 0, 1) := by decide +kernel
theorem dX4_isSame_85 : decode cX4_isSame 85 = .ok (.istore_n 3, 1) := by decide +kernel
theorem dX4_isSame_86 : decode cX4_isSame 86 = .ok (.iload_n 3, 1) := by decide +kernel
theorem dX4_isSame_87 : decode cX4_isSame 87 = .ok (.bipush 9, 2) := by decide +kernel
theorem dX4_isSame_89 : decode cX4_isSame 89 = .ok (.if_icmp .ge 22, 3) := by decide +kernel
theorem dX4_isSame_92 : decode cX4_isSame 92 = .ok (.aload_n 1, 1) := by decide +kernel
theorem dX4_isSame_93 : decode cX4_isSame 93 = .ok (.iload_n 3, 1) := by decide +kernel
theorem dX4_isSame_94 : decode cX4_isSame 94 = .ok (.invokevirtual 74, 3) := by decide +kernel
theorem dX4_isSame_97 : decode cX4_isSame 97 = .ok (.aload_n 2, 1) := by decide +kernel
theorem dX4_isSame_98 : decode cX4_isSame 98 = .ok (.iload_n 3, 1) := by decide +kernel
theorem dX4_isSame_99 : decode cX4_isSame 99 = .ok (.iaload, 1) := by decide +kernel
theorem dX4_isSame_100 : decode cX4_isSame 100 = .ok (.if_icmp .eq 5, 3) := by decide +kernel
theorem dX4_isSame_103 : decode cX4_isSame 103 = .ok (.iconst 0, 1) := by decide +kernel
theorem dX4_isSame_104 : decode cX4_isSame 104 = .ok (.ireturn, 1) := by decide +kernel
theorem dX4_isSame_105 : decode cX4_isSame 105 = .ok (.iinc 3 1, 3) := by decide +kernel
theorem dX4_isSame_108 : decode cX4_isSame 108 = .ok (.goto (-22), 3) := by decide +kernel
theorem dX4_isSame_111 : decode cX4_isSame 111 = .ok (.iconst 0, 1) := by decide +kernel
theorem dX4_isSame_112 : decode cX4_isSame 112 = .ok (.istore_n 3, 1) := by decide +kernel
theorem dX4_isSame_113 : decode cX4_isSame 113 = .ok (.iload_n 3, 1) := by decide +kernel
theorem dX4_isSame_114 : decode cX4_isSame 114 = .ok (.bipush 12, 2) := by decide +kernel
theorem dX4_isSame_116 : decode cX4_isSame 116 = .ok (.if_icmp .ge 106, 3) := by decide +kernel
theorem dX4_isSame_119 : decode cX4_isSame 119 = .ok (.iconst 5, 1) := by decide +kernel
theorem dX4_isSame_120 : decode cX4_isSame 120 = .ok (.newarray .int, 2) := by decide +kernel
theorem dX4_isSame_122 : decode cX4_isSame 122 = .ok (.dup, 1) := by decide +kernel
theorem dX4_isSame_123 : decode cX4_isSame 123 = .ok (.iconst 0, 1) := by decide +kernel
theorem dX4_isSame_124 : decode cX4_isSame 124 = .ok (.aload_n 0, 1) := by decide +kernel
theorem dX4_isSame_125 : decode cX4_isSame 125 = .ok (.getfield 13, 3) := by decide +kernel
theorem dX4_isSame_128 : decode cX4_isSame 128 = .ok (.iload_n 3, 1) := by decide +kernel
theorem dX4_isSame_129 : decode cX4_isSame 129 = .ok (.iaload, 1) := by decide +kernel
theorem dX4_isSame_130 : decode cX4_isSame 130 = .ok (.iastore, 1) := by decide +kernel
theorem dX4_isSame_131 : decode cX4_isSame 131 = .ok (.dup, 1) := by decide +kernel
theorem dX4_isSame_132 : decode cX4_isSame 132 = .ok (.iconst 1, 1) := by decide +kernel
theorem dX4_isSame_133 : decode cX4_isSame 133 = .ok (.aload_n 0, 1) := by decide +kernel
theorem dX4_isSame_134 : decode cX4_isSame 134 = .ok (.getfield 17, 3) := by decide +kernel
theorem dX4_isSame_137 : decode cX4_isSame 137 = .ok (.iload_n 3, 1) := by decide +kernel
theorem dX4_isSame_138 : decode cX4_isSame 138 = .ok (.iaload, 1) := by decide +kernel
theorem dX4_isSame_139 : decode cX4_isSame 139 = .ok (.iastore, 1) := by decide +kernel
theorem dX4_isSame_140 : decode cX4_isSame 140 = .ok (.dup, 1) := by decide +kernel
theorem dX4_isSame_141 : decode cX4_isSame 141 = .ok (.iconst 2, 1) := by decide +kernel
theorem dX4_isSame_142 : decode cX4_isSame 142 = .ok (.aload_n 0, 1) := by decide +kernel
theorem dX4_isSame_143 : decode cX4_isSame 143 = .ok (.getfield 20, 3) := by decide +kernel
theorem dX4_isSame_146 : decode cX4_isSame 146 = .ok (.iload_n 3, 1) := by decide +kernel
theorem dX4_isSame_147 : decode cX4_isSame 147 = .ok (.baload, 1) := by decide +kernel
theorem dX4_isSame_148 : decode cX4_isSame 148 = .ok (.ifCond .eq 7, 3) := by decide +kernel
theorem dX4_isSame_151 : decode cX4_isSame 151 = .ok (.iconst 1, 1) := by decide +kernel
theorem dX4_isSame_152 : decode cX4_isSame 152 = .ok (.goto 4, 3) := by decide +kernel
theorem dX4_isSame_155 : decode cX4_isSame 155 = .ok (.iconst 0, 1) := by decide +kernel
theorem dX4_isSame_156 : decode cX4_isSame 156 = .ok (.iastore, 1) := by decide +kernel
theorem dX4_isSame_157 : decode cX4_isSame 157 = .ok (.dup, 1) := by decide +kernel
theorem dX4_isSame_158 : decode cX4_isSame 158 = .ok (.iconst 3, 1) := by decide +kernel
theorem dX4_isSame_159 : decode cX4_isSame 159 = .ok (.aload_n 0, 1) := by decide +kernel
theorem dX4_isSame_160 : decode cX4_isSame 160 = .ok (.iload_n 3, 1) := by decide +kernel
theorem dX4_isSame_161 : decode cX4_isSame 161 = .ok (.invokevirtual 38, 3) := by decide +kernel
theorem dX4_isSame_164 : decode cX4_isSame 164 = .ok (.iastore, 1) := by decide +kernel
theorem dX4_isSame_165 : decode cX4_isSame 165 = .ok (.dup, 1) := by decide +kernel
theorem dX4_isSame_166 : decode cX4_isSame 166 = .ok (.iconst 4, 1) := by decide +kernel
theorem dX4_isSame_167 : decode cX4_isSame 167 = .ok (.aload_n 0, 1) := by decide +kernel
theorem dX4_isSame_168 : decode cX4_isSame 168 = .ok (.getfield 24, 3) := by decide +kernel
theorem dX4_isSame_171 : decode cX4_isSame 171 = .ok (.iload_n 3, 1) := by decide +kernel
theorem dX4_isSame_172 : decode cX4_isSame 172 = .ok (.baload, 1) := by decide +kernel
theorem dX4_isSame_173 : decode cX4_isSame 173 = .ok (.ifCond .eq 7, 3) := by decide +kernel
theorem dX4_isSame_176 : decode cX4_isSame 176 = .ok (.iconst 1, 1) := by decide +kernel
theorem dX4_isSame_177 : decode cX4_isSame 177 = .ok (.goto 4, 3) := by decide +kernel
theorem dX4_isSame_180 : decode cX4_isSame 180 = .ok (.iconst 0, 1) := by decide +kernel
theorem dX4_isSame_181 : decode cX4_isSame 181 = .ok (.iastore, 1) := by decide +kernel
theorem dX4_isSame_182 : decode cX4_isSame 182 = .ok (.astore 4, 2) := by decide +kernel
theorem dX4_isSame_184 : decode cX4_isSame 184 = .ok (.iconst 0, 1) := by decide +kernel
theorem dX4_isSame_185 : decode cX4_isSame 185 = .ok (.istore 5, 2) := by decide +kernel
theorem dX4_isSame_187 : decode cX4_isSame 187 = .ok (.iload 5, 2) := by decide +kernel
theorem dX4_isSame_189 : decode cX4_isSame 189 = .ok (.iconst 5, 1) := by decide +kernel
theorem dX4_isSame_190 : decode cX4_isSame 190 = .ok (.if_icmp .ge 26, 3) := by decide +kernel
theorem dX4_isSame_193 : decode cX4_isSame 193 = .ok (.aload_n 1, 1) := by decide +kernel
theorem dX4_isSame_194 : decode cX4_isSame 194 = .ok (.iload_n 3, 1) := by decide +kernel
theorem dX4_isSame_195 : decode cX4_isSame 195 = .ok (.iload 5, 2) := by decide +kernel
theorem dX4_isSame_197 : decode cX4_isSame 197 = .ok (.invokevirtual 79, 3) := by decide +kernel
theorem dX4_isSame_200 : decode cX4_isSame 200 = .ok (.aload 4, 2) := by decide +kernel
theorem dX4_isSame_202 : decode cX4_isSame 202 = .ok (.iload 5, 2) := by decide +kernel
theorem dX4_isSame_204 : decode cX4_isSame 204 = .ok (.iaload, 1) := by decide +kernel
theorem dX4_isSame_205 : decode cX4_isSame 205 = .ok (.if_icmp .eq 5, 3) := by decide +kernel
theorem dX4_isSame_208 : decode cX4_isSame 208 = .ok (.iconst 0, 1) := by decide +kernel
theorem dX4_isSame_209 : decode cX4_isSame 209 = .ok (.ireturn, 1) := by decide +kernel
theorem dX4_isSame_210 : decode cX4_isSame 210 = .ok (.iinc 5 1, 3) := by decide +kernel
theorem dX4_isSame_213 : decode cX4_isSame 213 = .ok (.goto (-26), 3) := by decide +kernel
theorem dX4_isSame_216 : decode cX4_isSame 216 = .ok (.iinc 3 1, 3) := by decide +kernel
theorem dX4_isSame_219 : decode cX4_isSame 219 = .ok (.goto (-106), 3) := by decide +kernel
theorem dX4_isSame_222 : decode cX4_isSame 222 = .ok (.iconst 0, 1) := by decide +kernel
theorem dX4_isSame_223 : decode cX4_isSame 223 = .ok (.istore_n 3, 1) := by decide +kernel
theorem dX4_isSame_224 : decode cX4_isSame 224 = .ok (.iconst 0, 1) := by decide +kernel
theorem dX4_isSame_225 : decode cX4_isSame 225 = .ok (.istore 4, 2) := by decide +kernel
theorem dX4_isSame_227 : decode cX4_isSame 227 = .ok (.iload 4, 2) := by decide +kernel
theorem dX4_isSame_229 : decode cX4_isSame 229 = .ok (.aload_n 0, 1) := by decide +kernel
theorem dX4_isSame_230 : decode cX4_isSame 230 = .ok (.getfield 28, 3) := by decide +kernel
theorem dX4_isSame_233 : decode cX4_isSame 233 = .ok (.arraylength, 1) := by decide +kernel
theorem dX4_isSame_234 : decode cX4_isSame 234 = .ok (.if_icmp .ge 80, 3) := by decide +kernel
theorem dX4_isSame_237 : decode cX4_isSame 237 = .ok (.aload_n 1, 1) := by decide +kernel
theorem dX4_isSame_238 : decode cX4_isSame 238 = .ok (.iload 4, 2) := by decide +kernel
theorem dX4_isSame_240 : decode cX4_isSame 240 = .ok (.invokevirtual 82, 3) := by decide +kernel
theorem dX4_isSame_243 : decode cX4_isSame 243 = .ok (.aload_n 0, 1) := by decide +kernel
theorem dX4_isSame_244 : decode cX4_isSame 244 = .ok (.iload 4, 2) := by decide +kernel
theorem dX4_isSame_246 : decode cX4_isSame 246 = .ok (.invokevirtual 42, 3) := by decide +kernel
theorem dX4_isSame_249 : decode cX4_isSame 249 = .ok (.if_icmp .eq 5, 3) := by decide +kernel
theorem dX4_isSame_252 : decode cX4_isSame 252 = .ok (.iconst 0, 1) := by decide +kernel
theorem dX4_isSame_253 : decode cX4_isSame 253 = .ok (.ireturn, 1) := by decide +kernel
theorem dX4_isSame_254 : decode cX4_isSame 254 = .ok (.iload_n 3, 1) := by decide +kernel
theorem dX4_isSame_255 : decode cX4_isSame 255 = .ok (.aload_n 0, 1) := by decide +kernel
theorem dX4_isSame_256 : decode cX4_isSame 256 = .ok (.iload 4, 2) := by decide +kernel
theorem dX4_isSame_258 : decode cX4_isSame 258 = .ok (.invokevirtual 42, 3) := by decide +kernel
theorem dX4_isSame_261 : decode cX4_isSame 261 = .ok (.iadd, 1) := by decide +kernel
theorem dX4_isSame_262 : decode cX4_isSame 262 = .ok (.istore_n 3, 1) := by decide +kernel
theorem dX4_isSame_263 : decode cX4_isSame 263 = .ok (.iconst 0, 1) := by decide +kernel
theorem dX4_isSame_264 : decode cX4_isSame 264 = .ok (.istore 5, 2) := by decide +kernel
theorem dX4_isSame_266 : decode cX4_isSame 266 = .ok (.iload 5, 2) := by decide +kernel
theorem dX4_isSame_268 : decode cX4_isSame 268 = .ok (.aload_n 0, 1) := by decide +kernel
theorem dX4_isSame_269 : decode cX4_isSame 269 = .ok (.getfield 28, 3) := by decide +kernel
theorem dX4_isSame_272 : decode cX4_isSame 272 = .ok (.iload 4, 2) := by decide +kernel
theorem dX4_isSame_274 : decode cX4_isSame 274 = .ok (.aaload, 1) := by decide +kernel
theorem dX4_isSame_275 : decode cX4_isSame 275 = .ok (.arraylength, 1) := by decide +kernel
theorem dX4_isSame_276 : decode cX4_isSame 276 = .ok (.if_icmp .ge 32, 3) := by decide +kernel
theorem dX4_isSame_279 : decode cX4_isSame 279 = .ok (.aload_n 1, 1) := by decide +kernel
theorem dX4_isSame_280 : decode cX4_isSame 280 = .ok (.iload 4, 2) := by decide +kernel
theorem dX4_isSame_282 : decode cX4_isSame 282 = .ok (.iload 5, 2) := by decide +kernel
theorem dX4_isSame_284 : decode cX4_isSame 284 = .ok (.invokevirtual 83, 3) := by decide +kernel
theorem dX4_isSame_287 : decode cX4_isSame 287 = .ok (.aload_n 0, 1) := by decide +kernel
theorem dX4_isSame_288 : decode cX4_isSame 288 = .ok (.getfield 28, 3) := by decide +kernel
theorem dX4_isSame_291 : decode cX4_isSame 291 = .ok (.iload 4, 2) := by decide +kernel
theorem dX4_isSame_293 : decode cX4_isSame 293 = .ok (.aaload, 1) := by decide +kernel
theorem dX4_isSame_294 : decode cX4_isSame 294 = .ok (.iload 5, 2) := by decide +kernel
theorem dX4_isSame_296 : decode cX4_isSame 296 = .ok (.iaload, 1) := by decide +kernel
theorem dX4_isSame_297 : decode cX4_isSame 297 = .ok (.if_icmp .eq 5, 3) := by decide +kernel
theorem dX4_isSame_300 : decode cX4_isSame 300 = .ok (.iconst 0, 1) := by decide +kernel
theorem dX4_isSame_301 : decode cX4_isSame 301 = .ok (.ireturn, 1) := by decide +kernel
theorem dX4_isSame_302 : decode cX4_isSame 302 = .ok (.iinc 5 1, 3) := by decide +kernel
theorem dX4_isSame_305 : decode cX4_isSame 305 = .ok (.goto (-39), 3) := by decide +kernel
theorem dX4_isSame_308 : decode cX4_isSame 308 = .ok (.iinc 4 1, 3) := by decide +kernel
theorem dX4_isSame_311 : decode cX4_isSame 311 = .ok (.goto (-84), 3) := by decide +kernel
theorem dX4_isSame_314 : decode cX4_isSame 314 = .ok (.iconst 0, 1) := by decide +kernel
theorem dX4_isSame_315 : decode cX4_isSame 315 = .ok (.istore 4, 2) := by decide +kernel
theorem dX4_isSame_317 : decode cX4_isSame 317 = .ok (.iload 4, 2) := by decide +kernel
theorem dX4_isSame_319 : decode cX4_isSame 319 = .ok (.aload_n 0, 1) := by decide +kernel
theorem dX4_isSame_320 : decode cX4_isSame 320 = .ok (.getfield 32, 3) := by decide +kernel
theorem dX4_isSame_323 : decode cX4_isSame 323 = .ok (.arraylength, 1) := by decide +kernel
theorem dX4_isSame_324 : decode cX4_isSame 324 = .ok (.if_icmp .ge 154, 3) := by decide +kernel
theorem dX4_isSame_327 : decode cX4_isSame 327 = .ok (.aload_n 0, 1) := by decide +kernel
theorem dX4_isSame_328 : decode cX4_isSame 328 = .ok (.getfield 32, 3) := by decide +kernel
theorem dX4_isSame_331 : decode cX4_isSame 331 = .ok (.iload 4, 2) := by decide +kernel
theorem dX4_isSame_333 : decode cX4_isSame 333 = .ok (.aaload, 1) := by decide +kernel
theorem dX4_isSame_334 : decode cX4_isSame 334 = .ok (.astore 5, 2) := by decide +kernel
theorem dX4_isSame_336 : decode cX4_isSame 336 = .ok (.iconst 0, 1) := by decide +kernel
theorem dX4_isSame_337 : decode cX4_isSame 337 = .ok (.istore 6, 2) := by decide +kernel
theorem dX4_isSame_339 : decode cX4_isSame 339 = .ok (.iconst 0, 1) := by decide +kernel
theorem dX4_isSame_340 : decode cX4_isSame 340 = .ok (.istore 7, 2) := by decide +kernel
theorem dX4_isSame_342 : decode cX4_isSame 342 = .ok (.iload 7, 2) := by decide +kernel
theorem dX4_isSame_344 : decode cX4_isSame 344 = .ok (.aload_n 0, 1) := by decide +kernel
theorem dX4_isSame_345 : decode cX4_isSame 345 = .ok (.getfield 28, 3) := by decide +kernel
theorem dX4_isSame_348 : decode cX4_isSame 348 = .ok (.arraylength, 1) := by decide +kernel
theorem dX4_isSame_349 : decode cX4_isSame 349 = .ok (.if_icmp .ge 42, 3) := by decide +kernel
theorem dX4_isSame_352 : decode cX4_isSame 352 = .ok (.iload 6, 2) := by decide +kernel
theorem dX4_isSame_354 : decode cX4_isSame 354 = .ok (.aload 5, 2) := by decide +kernel
theorem dX4_isSame_356 : decode cX4_isSame 356 = .ok (.iconst 3, 1) := by decide +kernel
theorem dX4_isSame_357 : decode cX4_isSame 357 = .ok (.iload 7, 2) := by decide +kernel
theorem dX4_isSame_359 : decode cX4_isSame 359 = .ok (.iadd, 1) := by decide +kernel
theorem dX4_isSame_360 : decode cX4_isSame 360 = .ok (.iaload, 1) := by decide +kernel
theorem dX4_isSame_361 : decode cX4_isSame 361 = .ok (.iadd, 1) := by decide +kernel
theorem dX4_isSame_362 : decode cX4_isSame 362 = .ok (.istore 6, 2) := by decide +kernel
theorem dX4_isSame_364 : decode cX4_isSame 364 = .ok (.aload_n 1, 1) := by decide +kernel
theorem dX4_isSame_365 : decode cX4_isSame 365 = .ok (.iload 4, 2) := by decide +kernel
theorem dX4_isSame_367 : decode cX4_isSame 367 = .ok (.iload 7, 2) := by decide +kernel
theorem dX4_isSame_369 : decode cX4_isSame 369 = .ok (.invokevirtual 86, 3) := by decide +kernel
theorem dX4_isSame_372 : decode cX4_isSame 372 = .ok (.aload_n 0, 1) := by decide +kernel
theorem dX4_isSame_373 : decode cX4_isSame 373 = .ok (.iload 4, 2) := by decide +kernel
theorem dX4_isSame_375 : decode cX4_isSame 375 = .ok (.iload 7, 2) := by decide +kernel
theorem dX4_isSame_377 : decode cX4_isSame 377 = .ok (.invokevirtual 51, 3) := by decide +kernel
theorem dX4_isSame_380 : decode cX4_isSame 380 = .ok (.if_icmp .eq 5, 3) := by decide +kernel
theorem dX4_isSame_383 : decode cX4_isSame 383 = .ok (.iconst 0, 1) := by decide +kernel
theorem dX4_isSame_384 : decode cX4_isSame 384 = .ok (.ireturn, 1) := by decide +kernel
theorem dX4_isSame_385 : decode cX4_isSame 385 = .ok (.iinc 7 1, 3) := by decide +kernel
theorem dX4_isSame_388 : decode cX4_isSame 388 = .ok (.goto (-46), 3) := by decide +kernel
theorem dX4_isSame_391 : decode cX4_isSame 391 = .ok (.iconst 5, 1) := by decide +kernel
theorem dX4_isSame_392 : decode cX4_isSame 392 = .ok (.newarray .int, 2) := by decide +kernel
theorem dX4_isSame_394 : decode cX4_isSame 394 = .ok (.dup, 1) := by decide +kernel
theorem dX4_isSame_395 : decode cX4_isSame 395 = .ok (.iconst 0, 1) := by decide +kernel
theorem dX4_isSame_396 : decode cX4_isSame 396 = .ok (.aload 5, 2) := by decide +kernel
theorem dX4_isSame_398 : decode cX4_isSame 398 = .ok (.iconst 0, 1) := by decide +kernel
theorem dX4_isSame_399 : decode cX4_isSame 399 = .ok (.iaload, 1) := by decide +kernel
theorem dX4_isSame_400 : decode cX4_isSame 400 = .ok (.iastore, 1) := by decide +kernel
theorem dX4_isSame_401 : decode cX4_isSame 401 = .ok (.dup, 1) := by decide +kernel
theorem dX4_isSame_402 : decode cX4_isSame 402 = .ok (.iconst 1, 1) := by decide +kernel
theorem dX4_isSame_403 : decode cX4_isSame 403 = .ok (.aload 5, 2) := by decide +kernel
theorem dX4_isSame_405 : decode cX4_isSame 405 = .ok (.iconst 1, 1) := by decide +kernel
theorem dX4_isSame_406 : decode cX4_isSame 406 = .ok (.iaload, 1) := by decide +kernel
theorem dX4_isSame_407 : decode cX4_isSame 407 = .ok (.iastore, 1) := by decide +kernel
theorem dX4_isSame_408 : decode cX4_isSame 408 = .ok (.dup, 1) := by decide +kernel
theorem dX4_isSame_409 : decode cX4_isSame 409 = .ok (.iconst 2, 1) := by decide +kernel
theorem dX4_isSame_410 : decode cX4_isSame 410 = .ok (.aload 5, 2) := by decide +kernel
theorem dX4_isSame_412 : decode cX4_isSame 412 = .ok (.iconst 1, 1) := by decide +kernel
theorem dX4_isSame_413 : decode cX4_isSame 413 = .ok (.iaload, 1) := by decide +kernel
theorem dX4_isSame_414 : decode cX4_isSame 414 = .ok (.aload_n 0, 1) := by decide +kernel
theorem dX4_isSame_415 : decode cX4_isSame 415 = .ok (.getfield 45, 3) := by decide +kernel
theorem dX4_isSame_418 : decode cX4_isSame 418 = .ok (.bipush 7, 2) := by decide +kernel
theorem dX4_isSame_420 : decode cX4_isSame 420 = .ok (.irem, 1) := by decide +kernel
theorem dX4_isSame_421 : decode cX4_isSame 421 = .ok (.ishr, 1) := by decide +kernel
theorem dX4_isSame_422 : decode cX4_isSame 422 = .ok (.iconst 1, 1) := by decide +kernel
theorem dX4_isSame_423 : decode cX4_isSame 423 = .ok (.iand, 1) := by decide +kernel
theorem dX4_isSame_424 : decode cX4_isSame 424 = .ok (.iastore, 1) := by decide +kernel
theorem dX4_isSame_425 : decode cX4_isSame 425 = .ok (.dup, 1) := by decide +kernel
theorem dX4_isSame_426 : decode cX4_isSame 426 = .ok (.iconst 3, 1) := by decide +kernel
theorem dX4_isSame_427 : decode cX4_isSame 427 = .ok (.aload 5, 2) := by decide +kernel
theorem dX4_isSame_429 : decode cX4_isSame 429 = .ok (.iconst 2, 1) := by decide +kernel
theorem dX4_isSame_430 : decode cX4_isSame 430 = .ok (.iaload, 1) := by decide +kernel
theorem dX4_isSame_431 : decode cX4_isSame 431 = .ok (.iastore, 1) := by decide +kernel
theorem dX4_isSame_432 : decode cX4_isSame 432 = .ok (.dup, 1) := by decide +kernel
theorem dX4_isSame_433 : decode cX4_isSame 433 = .ok (.iconst 4, 1) := by decide +kernel
theorem dX4_isSame_434 : decode cX4_isSame 434 = .ok (.iload 6, 2) := by decide +kernel
theorem dX4_isSame_436 : decode cX4_isSame 436 = .ok (.iastore, 1) := by decide +kernel
theorem dX4_isSame_437 : decode cX4_isSame 437 = .ok (.astore 7, 2) := by decide +kernel
theorem dX4_isSame_439 : decode cX4_isSame 439 = .ok (.iconst 0, 1) := by decide +kernel
theorem dX4_isSame_440 : decode cX4_isSame 440 = .ok (.istore 8, 2) := by decide +kernel
theorem dX4_isSame_442 : decode cX4_isSame 442 = .ok (.iload 8, 2) := by decide +kernel
theorem dX4_isSame_444 : decode cX4_isSame 444 = .ok (.iconst 5, 1) := by decide +kernel
theorem dX4_isSame_445 : decode cX4_isSame 445 = .ok (.if_icmp .ge 27, 3) := by decide +kernel
theorem dX4_isSame_448 : decode cX4_isSame 448 = .ok (.aload_n 1, 1) := by decide +kernel
theorem dX4_isSame_449 : decode cX4_isSame 449 = .ok (.iload 4, 2) := by decide +kernel
theorem dX4_isSame_451 : decode cX4_isSame 451 = .ok (.iload 8, 2) := by decide +kernel
theorem dX4_isSame_453 : decode cX4_isSame 453 = .ok (.invokevirtual 87, 3) := by decide +kernel
theorem dX4_isSame_456 : decode cX4_isSame 456 = .ok (.aload 7, 2) := by decide +kernel
theorem dX4_isSame_458 : decode cX4_isSame 458 = .ok (.iload 8, 2) := by decide +kernel
theorem dX4_isSame_460 : decode cX4_isSame 460 = .ok (.iaload, 1) := by decide +kernel
theorem dX4_isSame_461 : decode cX4_isSame 461 = .ok (.if_icmp .eq 5, 3) := by decide +kernel
theorem dX4_isSame_464 : decode cX4_isSame 464 = .ok (.iconst 0, 1) := by decide +kernel
theorem dX4_isSame_465 : decode cX4_isSame 465 = .ok (.ireturn, 1) := by decide +kernel
theorem dX4_isSame_466 : decode cX4_isSame 466 = .ok (.iinc 8 1, 3) := by decide +kernel
theorem dX4_isSame_469 : decode cX4_isSame 469 = .ok (.goto (-27), 3) := by decide +kernel
theorem dX4_isSame_472 : decode cX4_isSame 472 = .ok (.iinc 4 1, 3) := by decide +kernel
theorem dX4_isSame_475 : decode cX4_isSame 475 = .ok (.goto (-158), 3) := by decide +kernel
theorem dX4_isSame_478 : decode cX4_isSame 478 = .ok (.aload_n 1, 1) := by decide +kernel
theorem dX4_isSame_479 : decode cX4_isSame 479 = .ok (.invokevirtual 90, 3) := by decide +kernel
theorem dX4_isSame_482 : decode cX4_isSame 482 = .ok (.aload_n 0, 1) := by decide +kernel
theorem dX4_isSame_483 : decode cX4_isSame 483 = .ok (.getfield 28, 3) := by decide +kernel
theorem dX4_isSame_486 : decode cX4_isSame 486 = .ok (.arraylength, 1) := by decide +kernel
theorem dX4_isSame_487 : decode cX4_isSame 487 = .ok (.ifCond .ne 7, 3) := by decide +kernel
theorem dX4_isSame_490 : decode cX4_isSame 490 = .ok (.dconst 0, 1) := by decide +kernel
theorem dX4_isSame_491 : decode cX4_isSame 491 = .ok (.goto 12, 3) := by decide +kernel
theorem dX4_isSame_494 : decode cX4_isSame 494 = .ok (.iload_n 3, 1) := by decide +kernel
theorem dX4_isSame_495 : decode cX4_isSame 495 = .ok (.i2d, 1) := by decide +kernel
theorem dX4_isSame_496 : decode cX4_isSame 496 = .ok (.aload_n 0, 1) := by decide +kernel
theorem dX4_isSame_497 : decode cX4_isSame 497 = .ok (.getfield 28, 3) := by decide +kernel
theorem dX4_isSame_500 : decode cX4_isSame 500 = .ok (.arraylength, 1) := by decide +kernel
theorem dX4_isSame_501 : decode cX4_isSame 501 = .ok (.i2d, 1) := by decide +kernel
theorem dX4_isSame_502 : decode cX4_isSame 502 = .ok (.ddiv, 1) := by decide +kernel
theorem dX4_isSame_503 : decode cX4_isSame 503 = .ok (.dcmp .l, 1) := by decide +kernel
theorem dX4_isSame_504 : decode cX4_isSame 504 = .ok (.ifCond .ne 7, 3) := by decide +kernel
theorem dX4_isSame_507 : decode cX4_isSame 507 = .ok (.iconst 1, 1) := by decide +kernel
theorem dX4_isSame_508 : decode cX4_isSame 508 = .ok (.goto 4, 3) := by decide +kernel
theorem dX4_isSame_511 : decode cX4_isSame 511 = .ok (.iconst 0, 1) := by decide +kernel
theorem dX4_isSame_512 : decode cX4_isSame 512 = .ok (.ireturn, 1) := by decide +kernel
theorem dJ9_floorMod_7cf53_0 : decode cJ9_floorMod_7cf53 0 = .ok (.iload_n 0, 1) := by decide +kernel
theorem dJ9_floorMod_7cf53_1 : decode cJ9_floorMod_7cf53 1 = .ok (.iload_n 1, 1) := by decide +kernel
theorem dJ9_floorMod_7cf53_2 : decode cJ9_floorMod_7cf53 2 = .ok (.irem, 1) := by decide +kernel
theorem dJ9_floorMod_7cf53_3 : decode cJ9_floorMod_7cf53 3 = .ok (.istore_n 2, 1) := by decide +kernel
theorem dJ9_floorMod_7cf53_4 : decode cJ9_floorMod_7cf53 4 = .ok (.iload_n 0, 1) := by decide +kernel
theorem dJ9_floorMod_7cf53_5 : decode cJ9_floorMod_7cf53 5 = .ok (.iload_n 1, 1) := by decide +kernel
theorem dJ9_floorMod_7cf53_6 : decode cJ9_floorMod_7cf53 6 = .ok (.ixor, 1) := by decide +kernel
theorem dJ9_floorMod_7cf53_7 : decode cJ9_floorMod_7cf53 7 = .ok (.ifCond .ge 11, 3) := by decide +kernel
theorem dJ9_floorMod_7cf53_10 : decode cJ9_floorMod_7cf53 10 = .ok (.iload_n 2, 1) := by decide +kernel
theorem dJ9_floorMod_7cf53_11 : decode cJ9_floorMod_7cf53 11 = .ok (.ifCond .eq 7, 3) := by decide +kernel
theorem dJ9_floorMod_7cf53_14 : decode cJ9_floorMod_7cf53 14 = .ok (.iload_n 2, 1) := by decide +kernel
theorem dJ9_floorMod_7cf53_15 : decode cJ9_floorMod_7cf53 15 = .ok (.iload_n 1, 1) := by decide +kernel
theorem dJ9_floorMod_7cf53_16 : decode cJ9_floorMod_7cf53 16 = .ok (.iadd, 1) := by decide +kernel
theorem dJ9_floorMod_7cf53_17 : decode cJ9_floorMod_7cf53 17 = .ok (.ireturn, 1) := by decide +kernel
theorem dJ9_floorMod_7cf53_18 : decode cJ9_floorMod_7cf53 18 = .ok (.iload_n 2, 1) := by decide +kernel
theorem dJ9_floorMod_7cf53_19 : decode cJ9_floorMod_7cf53 19 = .ok (.ireturn, 1) := by decide +kernel
theorem dJ9_abs_0f7a4_0 : decode cJ9_abs_0f7a4 0 = .ok (.iload_n 0, 1) := by decide +kernel
theorem dJ9_abs_0f7a4_1 : decode cJ9_abs_0f7a4 1 = .ok (.ifCond .ge 8, 3) := by decide +kernel
theorem dJ9_abs_0f7a4_4 : decode cJ9_abs_0f7a4 4 = .ok (.iload_n 0, 1) := by decide +kernel
theorem dJ9_abs_0f7a4_5 : decode cJ9_abs_0f7a4 5 = .ok (.ineg, 1) := by decide +kernel
theorem dJ9_abs_0f7a4_6 : decode cJ9_abs_0f7a4 6 = .ok (.goto 4, 3) := by decide +kernel
theorem dJ9_abs_0f7a4_9 : decode cJ9_abs_0f7a4 9 = .ok (.iload_n 0, 1) := by decide +kernel
theorem dJ9_abs_0f7a4_10 : decode cJ9_abs_0f7a4 10 = .ok (.ireturn, 1) := by decide +kernel
theorem dJ9_max_7cf53_0 : decode cJ9_max_7cf53 0 = .ok (.iload_n 0, 1) := by decide +kernel
theorem dJ9_max_7cf53_1 : decode cJ9_max_7cf53 1 = .ok (.iload_n 1, 1) := by decide +kernel
theorem dJ9_max_7cf53_2 : decode cJ9_max_7cf53 2 = .ok (.if_icmp .lt 7, 3) := by decide +kernel
theorem dJ9_max_7cf53_5 : decode cJ9_max_7cf53 5 = .ok (.iload_n 0, 1) := by decide +kernel
theorem dJ9_max_7cf53_6 : decode cJ9_max_7cf53 6 = .ok (.goto 4, 3) := by decide +kernel
theorem dJ9_max_7cf53_9 : decode cJ9_max_7cf53 9 = .ok (.iload_n 1, 1) := by decide +kernel
theorem dJ9_max_7cf53_10 : decode cJ9_max_7cf53 10 = .ok (.ireturn, 1) := by decide +kernel
theorem dJ9_min_7cf53_0 : decode cJ9_min_7cf53 0 = .ok (.iload_n 0, 1) := by decide +kernel
theorem dJ9_min_7cf53_1 : decode cJ9_min_7cf53 1 = .ok (.iload_n 1, 1) := by decide +kernel
theorem dJ9_min_7cf53_2 : decode cJ9_min_7cf53 2 = .ok (.if_icmp .gt 7, 3) := by decide +kernel
theorem dJ9_min_7cf53_5 : decode cJ9_min_7cf53 5 = .ok (.iload_n 0, 1) := by decide +kernel
theorem dJ9_min_7cf53_6 : decode cJ9_min_7cf53 6 = .ok (.goto 4, 3) := by decide +kernel
theorem dJ9_min_7cf53_9 : decode cJ9_min_7cf53 9 = .ok (.iload_n 1, 1) := by decide +kernel
theorem dJ9_min_7cf53_10 : decode cJ9_min_7cf53 10 = .ok (.ireturn, 1) := by decide +kernel
theorem dJ7_copyOf_59c91_0 : decode cJ7_copyOf_59c91 0 = .ok (.iload_n 1, 1) := by decide +kernel
theorem dJ7_copyOf_59c91_1 : decode cJ7_copyOf_59c91 1 = .ok (.aload_n 0, 1) := by decide +kernel
theorem dJ7_copyOf_59c91_2 : decode cJ7_copyOf_59c91 2 = .ok (.arraylength, 1) := by decide +kernel
theorem dJ7_copyOf_59c91_3 : decode cJ7_copyOf_59c91 3 = .ok (.if_icmp .ne 11, 3) := by decide +kernel
theorem dJ7_copyOf_59c91_6 : decode cJ7_copyOf_59c91 6 = .ok (.aload_n 0, 1) := by decide +kernel
theorem dJ7_copyOf_59c91_7 : decode cJ7_copyOf_59c91 7 = .ok (.invokevirtual 316, 3) := by decide +kernel
theorem dJ7_copyOf_59c91_10 : decode cJ7_copyOf_59c91 10 = .ok (.checkcast 317, 3) := by decide +kernel
theorem dJ7_copyOf_59c91_13 : decode cJ7_copyOf_59c91 13 = .ok (.areturn, 1) := by decide +kernel
theorem dJ7_copyOf_59c91_14 : decode cJ7_copyOf_59c91 14 = .ok (.iload_n 1, 1) := by decide +kernel
theorem dJ7_copyOf_59c91_15 : decode cJ7_copyOf_59c91 15 = .ok (.newarray .int, 2) := by decide +kernel
theorem dJ7_copyOf_59c91_17 : decode cJ7_copyOf_59c91 17 = .ok (.astore_n 2, 1) := by decide +kernel
theorem dJ7_copyOf_59c91_18 : decode cJ7_copyOf_59c91 18 = .ok (.aload_n 0, 1) := by decide +kernel
theorem dJ7_copyOf_59c91_19 : decode cJ7_copyOf_59c91 19 = .ok (.iconst 0, 1) := by decide +kernel
theorem dJ7_copyOf_59c91_20 : decode cJ7_copyOf_59c91 20 = .ok (.aload_n 2, 1) := by decide +kernel
theorem dJ7_copyOf_59c91_21 : decode cJ7_copyOf_59c91 21 = .ok (.iconst 0, 1) := by decide +kernel
theorem dJ7_copyOf_59c91_22 : decode cJ7_copyOf_59c91 22 = .ok (.aload_n 0, 1) := by decide +kernel
theorem dJ7_copyOf_59c91_23 : decode cJ7_copyOf_59c91 23 = .ok (.arraylength, 1) := by decide +kernel
theorem dJ7_copyOf_59c91_24 : decode cJ7_copyOf_59c91 24 = .ok (.iload_n 1, 1) := by decide +kernel
theorem dJ7_copyOf_59c91_25 : decode cJ7_copyOf_59c91 25 = .ok (.invokestatic 304, 3) := by decide +kernel
theorem dJ7_copyOf_59c91_28 : decode cJ7_copyOf_59c91 28 = .ok (.invokestatic 150, 3) := by decide +kernel
theorem dJ7_copyOf_59c91_31 : decode cJ7_copyOf_59c91 31 = .ok (.aload_n 2, 1) := by decide +kernel
theorem dJ7_copyOf_59c91_32 : decode cJ7_copyOf_59c91 32 = .ok (.areturn, 1) := by decide +kernel
