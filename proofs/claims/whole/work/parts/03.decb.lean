theorem dX4_init_0 : decode cX4_init 0 = .ok (.aload_n 0, 1) := by decide +kernel
theorem dX4_init_1 : decode cX4_init 1 = .ok (.invokespecial 3, 3) := by decide +kernel
theorem dX4_init_4 : decode cX4_init 4 = .ok (.aload_n 0, 1) := by decide +kernel
theorem dX4_init_5 : decode cX4_init 5 = .ok (.bipush 12, 2) := by decide +kernel
theorem dX4_init_7 : decode cX4_init 7 = .ok (.newarray .int, 2) := by decide +kernel
theorem dX4_init_9 : decode cX4_init 9 = .ok (.putfield 9, 3) := by decide +kernel
theorem dX4_init_12 : decode cX4_init 12 = .ok (.aload_n 0, 1) := by decide +kernel
theorem dX4_init_13 : decode cX4_init 13 = .ok (.bipush 12, 2) := by decide +kernel
theorem dX4_init_15 : decode cX4_init 15 = .ok (.newarray .int, 2) := by decide +kernel
theorem dX4_init_17 : decode cX4_init 17 = .ok (.putfield 15, 3) := by decide +kernel
theorem dX4_init_20 : decode cX4_init 20 = .ok (.aload_n 0, 1) := by decide +kernel
theorem dX4_init_21 : decode cX4_init 21 = .ok (.bipush 12, 2) := by decide +kernel
theorem dX4_init_23 : decode cX4_init 23 = .ok (.newarray .int, 2) := by decide +kernel
theorem dX4_init_25 : decode cX4_init 25 = .ok (.putfield 18, 3) := by decide +kernel
theorem dX4_init_28 : decode cX4_init 28 = .ok (.aload_n 0, 1) := by decide +kernel
theorem dX4_init_29 : decode cX4_init 29 = .ok (.bipush 12, 2) := by decide +kernel
theorem dX4_init_31 : decode cX4_init 31 = .ok (.newarray .int, 2) := by decide +kernel
theorem dX4_init_33 : decode cX4_init 33 = .ok (.putfield 21, 3) := by decide +kernel
theorem dX4_init_36 : decode cX4_init 36 = .ok (.return_, 1) := by decide +kernel
theorem dX4_become_0 : decode cX4_become 0 = .ok (.aload_n 0, 1) := by decide +kernel
theorem dX4_become_1 : decode cX4_become 1 = .ok (.aload_n 1, 1) := by decide +kernel
theorem dX4_become_2 : decode cX4_become 2 = .ok (.getfield 24, 3) := by decide +kernel
theorem dX4_become_5 : decode cX4_become 5 = .ok (.putfield 24, 3) := by decide +kernel
theorem dX4_become_8 : decode cX4_become 8 = .ok (.aload_n 1, 1) := by decide +kernel
theorem dX4_become_9 : decode cX4_become 9 = .ok (.getfield 9, 3) := by decide +kernel
theorem dX4_become_12 : decode cX4_become 12 = .ok (.iconst 0, 1) := by decide +kernel
theorem dX4_become_13 : decode cX4_become 13 = .ok (.aload_n 0, 1) := by decide +kernel
theorem dX4_become_14 : decode cX4_become 14 = .ok (.getfield 9, 3) := by decide +kernel
theorem dX4_become_17 : decode cX4_become 17 = .ok (.iconst 0, 1) := by decide +kernel
theorem dX4_become_18 : decode cX4_become 18 = .ok (.bipush 12, 2) := by decide +kernel
theorem dX4_become_20 : decode cX4_become 20 = .ok (.invokestatic 28, 3) := by decide +kernel
theorem dX4_become_23 : decode cX4_become 23 = .ok (.aload_n 1, 1) := by decide +kernel
theorem dX4_become_24 : decode cX4_become 24 = .ok (.getfield 15, 3) := by decide +kernel
theorem dX4_become_27 : decode cX4_become 27 = .ok (.iconst 0, 1) := by decide +kernel
theorem dX4_become_28 : decode cX4_become 28 = .ok (.aload_n 0, 1) := by decide +kernel
theorem dX4_become_29 : decode cX4_become 29 = .ok (.getfield 15, 3) := by decide +kernel
theorem dX4_become_32 : decode cX4_become 32 = .ok (.iconst 0, 1) := by decide +kernel
theorem dX4_become_33 : decode cX4_become 33 = .ok (.bipush 12, 2) := by decide +kernel
theorem dX4_become_35 : decode cX4_become 35 = .ok (.invokestatic 28, 3) := by decide +kernel
theorem dX4_become_38 : decode cX4_become 38 = .ok (.aload_n 1, 1) := by decide +kernel
theorem dX4_become_39 : decode cX4_become 39 = .ok (.getfield 18, 3) := by decide +kernel
theorem dX4_become_42 : decode cX4_become 42 = .ok (.iconst 0, 1) := by decide +kernel
theorem dX4_become_43 : decode cX4_become 43 = .ok (.aload_n 0, 1) := by decide +kernel
theorem dX4_become_44 : decode cX4_become 44 = .ok (.getfield 18, 3) := by decide +kernel
theorem dX4_become_47 : decode cX4_become 47 = .ok (.iconst 0, 1) := by decide +kernel
theorem dX4_become_48 : decode cX4_become 48 = .ok (.bipush 12, 2) := by decide +kernel
theorem dX4_become_50 : decode cX4_become 50 = .ok (.invokestatic 28, 3) := by decide +kernel
theorem dX4_become_53 : decode cX4_become 53 = .ok (.aload_n 1, 1) := by decide +kernel
theorem dX4_become_54 : decode cX4_become 54 = .ok (.getfield 21, 3) := by decide +kernel
theorem dX4_become_57 : decode cX4_become 57 = .ok (.iconst 0, 1) := by decide +kernel
theorem dX4_become_58 : decode cX4_become 58 = .ok (.aload_n 0, 1) := by decide +kernel
theorem dX4_become_59 : decode cX4_become 59 = .ok (.getfield 21, 3) := by decide +kernel
theorem dX4_become_62 : decode cX4_become 62 = .ok (.iconst 0, 1) := by decide +kernel
theorem dX4_become_63 : decode cX4_become 63 = .ok (.bipush 12, 2) := by decide +kernel
theorem dX4_become_65 : decode cX4_become 65 = .ok (.invokestatic 28, 3) := by decide +kernel
theorem dX4_become_68 : decode cX4_become 68 = .ok (.return_, 1) := by decide +kernel
theorem dX4_harm_0 : decode cX4_harm 0 = .ok (.aload_n 0, 1) := by decide +kernel
theorem dX4_harm_1 : decode cX4_harm 1 = .ok (.getfield 18, 3) := by decide +kernel
theorem dX4_harm_4 : decode cX4_harm 4 = .ok (.iload_n 1, 1) := by decide +kernel
theorem dX4_harm_5 : decode cX4_harm 5 = .ok (.iaload, 1) := by decide +kernel
theorem dX4_harm_6 : decode cX4_harm 6 = .ok (.iconst 1, 1) := by decide +kernel
theorem dX4_harm_7 : decode cX4_harm 7 = .ok (.if_icmp .ne 8, 3) := by decide +kernel
theorem dX4_harm_10 : decode cX4_harm 10 = .ok (.bipush 60, 2) := by decide +kernel
theorem dX4_harm_12 : decode cX4_harm 12 = .ok (.goto 26, 3) := by decide +kernel
theorem dX4_harm_15 : decode cX4_harm 15 = .ok (.bipush 60, 2) := by decide +kernel
theorem dX4_harm_17 : decode cX4_harm 17 = .ok (.aload_n 0, 1) := by decide +kernel
theorem dX4_harm_18 : decode cX4_harm 18 = .ok (.getfield 15, 3) := by decide +kernel
theorem dX4_harm_21 : decode cX4_harm 21 = .ok (.iload_n 1, 1) := by decide +kernel
theorem dX4_harm_22 : decode cX4_harm 22 = .ok (.iaload, 1) := by decide +kernel
theorem dX4_harm_23 : decode cX4_harm 23 = .ok (.invokestatic 34, 3) := by decide +kernel
theorem dX4_harm_26 : decode cX4_harm 26 = .ok (.iconst 2, 1) := by decide +kernel
theorem dX4_harm_27 : decode cX4_harm 27 = .ok (.aload_n 0, 1) := by decide +kernel
theorem dX4_harm_28 : decode cX4_harm 28 = .ok (.getfield 9, 3) := by decide +kernel
theorem dX4_harm_31 : decode cX4_harm 31 = .ok (.iload_n 1, 1) := by decide +kernel
theorem dX4_harm_32 : decode cX4_harm 32 = .ok (.iaload, 1) := by decide +kernel
theorem dX4_harm_33 : decode cX4_harm 33 = .ok (.imul, 1) := by decide +kernel
theorem dX4_harm_34 : decode cX4_harm 34 = .ok (.iadd, 1) := by decide +kernel
theorem dX4_harm_35 : decode cX4_harm 35 = .ok (.invokestatic 40, 3) := by decide +kernel
theorem dX4_harm_38 : decode cX4_harm 38 = .ok (.ireturn, 1) := by decide +kernel
theorem dX4_sing_0 : decode cX4_sing 0 = .ok (.aload_n 0, 1) := by decide +kernel
theorem dX4_sing_1 : decode cX4_sing 1 = .ok (.getfield 9, 3) := by decide +kernel
theorem dX4_sing_4 : decode cX4_sing 4 = .ok (.iload_n 1, 1) := by decide +kernel
theorem dX4_sing_5 : decode cX4_sing 5 = .ok (.bipush 30, 2) := by decide +kernel
theorem dX4_sing_7 : decode cX4_sing 7 = .ok (.aload_n 0, 1) := by decide +kernel
theorem dX4_sing_8 : decode cX4_sing 8 = .ok (.getfield 9, 3) := by decide +kernel
theorem dX4_sing_11 : decode cX4_sing 11 = .ok (.iload_n 1, 1) := by decide +kernel
theorem dX4_sing_12 : decode cX4_sing 12 = .ok (.iaload, 1) := by decide +kernel
theorem dX4_sing_13 : decode cX4_sing 13 = .ok (.iconst 1, 1) := by decide +kernel
theorem dX4_sing_14 : decode cX4_sing 14 = .ok (.iadd, 1) := by decide +kernel
theorem dX4_sing_15 : decode cX4_sing 15 = .ok (.invokestatic 40, 3) := by decide +kernel
theorem dX4_sing_18 : decode cX4_sing 18 = .ok (.iastore, 1) := by decide +kernel
theorem dX4_sing_19 : decode cX4_sing 19 = .ok (.aload_n 0, 1) := by decide +kernel
theorem dX4_sing_20 : decode cX4_sing 20 = .ok (.getfield 21, 3) := by decide +kernel
theorem dX4_sing_23 : decode cX4_sing 23 = .ok (.iload_n 1, 1) := by decide +kernel
theorem dX4_sing_24 : decode cX4_sing 24 = .ok (.iconst 1, 1) := by decide +kernel
theorem dX4_sing_25 : decode cX4_sing 25 = .ok (.iastore, 1) := by decide +kernel
theorem dX4_sing_26 : decode cX4_sing 26 = .ok (.return_, 1) := by decide +kernel
theorem dX4_rest_0 : decode cX4_rest 0 = .ok (.iconst 0, 1) := by decide +kernel
theorem dX4_rest_1 : decode cX4_rest 1 = .ok (.istore_n 2, 1) := by decide +kernel
theorem dX4_rest_2 : decode cX4_rest 2 = .ok (.iconst 0, 1) := by decide +kernel
theorem dX4_rest_3 : decode cX4_rest 3 = .ok (.istore_n 3, 1) := by decide +kernel
theorem dX4_rest_4 : decode cX4_rest 4 = .ok (.iload_n 3, 1) := by decide +kernel
theorem dX4_rest_5 : decode cX4_rest 5 = .ok (.bipush 12, 2) := by decide +kernel
theorem dX4_rest_7 : decode cX4_rest 7 = .ok (.if_icmp .ge 83, 3) := by decide +kernel
theorem dX4_rest_10 : decode cX4_rest 10 = .ok (.aload_n 0, 1) := by decide +kernel
theorem dX4_rest_11 : decode cX4_rest 11 = .ok (.getfield 9, 3) := by decide +kernel
theorem dX4_rest_14 : decode cX4_rest 14 = .ok (.iload_n 3, 1) := by decide +kernel
theorem dX4_rest_15 : decode cX4_rest 15 = .ok (.iaload, 1) := by decide +kernel
theorem dX4_rest_16 : decode cX4_rest 16 = .ok (.bipush 10, 2) := by decide +kernel
theorem dX4_rest_18 : decode cX4_rest 18 = .ok (.if_icmp .lt 31, 3) := by decide +kernel
theorem dX4_rest_21 : decode cX4_rest 21 = .ok (.aload_n 0, 1) := by decide +kernel
theorem dX4_rest_22 : decode cX4_rest 22 = .ok (.getfield 21, 3) := by decide +kernel
theorem dX4_rest_25 : decode cX4_rest 25 = .ok (.iload_n 3, 1) := by decide +kernel
theorem dX4_rest_26 : decode cX4_rest 26 = .ok (.iaload, 1) := by decide +kernel
theorem dX4_rest_27 : decode cX4_rest 27 = .ok (.ifCond .ne 22, 3) := by decide +kernel
theorem dX4_rest_30 : decode cX4_rest 30 = .ok (.aload_n 0, 1) := by decide +kernel
theorem dX4_rest_31 : decode cX4_rest 31 = .ok (.getfield 18, 3) := by decide +kernel
theorem dX4_rest_34 : decode cX4_rest 34 = .ok (.iload_n 3, 1) := by decide +kernel
theorem dX4_rest_35 : decode cX4_rest 35 = .ok (.iaload, 1) := by decide +kernel
theorem dX4_rest_36 : decode cX4_rest 36 = .ok (.ifCond .ne 13, 3) := by decide +kernel
theorem dX4_rest_39 : decode cX4_rest 39 = .ok (.aload_n 0, 1) := by decide +kernel
theorem dX4_rest_40 : decode cX4_rest 40 = .ok (.getfield 18, 3) := by decide +kernel
theorem dX4_rest_43 : decode cX4_rest 43 = .ok (.iload_n 3, 1) := by decide +kernel
theorem dX4_rest_44 : decode cX4_rest 44 = .ok (.iconst 1, 1) := by decide +kernel
theorem dX4_rest_45 : decode cX4_rest 45 = .ok (.iastore, 1) := by decide +kernel
theorem dX4_rest_46 : decode cX4_rest 46 = .ok (.iinc 2 1, 3) := by decide +kernel
theorem dX4_rest_49 : decode cX4_rest 49 = .ok (.aload_n 0, 1) := by decide +kernel
theorem dX4_rest_50 : decode cX4_rest 50 = .ok (.getfield 15, 3) := by decide +kernel
theorem dX4_rest_53 : decode cX4_rest 53 = .ok (.iload_n 3, 1) := by decide +kernel
theorem dX4_rest_54 : decode cX4_rest 54 = .ok (.aload_n 0, 1) := by decide +kernel
theorem dX4_rest_55 : decode cX4_rest 55 = .ok (.getfield 15, 3) := by decide +kernel
theorem dX4_rest_58 : decode cX4_rest 58 = .ok (.iload_n 3, 1) := by decide +kernel
theorem dX4_rest_59 : decode cX4_rest 59 = .ok (.iaload, 1) := by decide +kernel
theorem dX4_rest_60 : decode cX4_rest 60 = .ok (.iload_n 3, 1) := by decide +kernel
theorem dX4_rest_61 : decode cX4_rest 61 = .ok (.iconst 2, 1) := by decide +kernel
theorem dX4_rest_62 : decode cX4_rest 62 = .ok (.irem, 1) := by decide +kernel
theorem dX4_rest_63 : decode cX4_rest 63 = .ok (.ifCond .ne 7, 3) := by decide +kernel
theorem dX4_rest_66 : decode cX4_rest 66 = .ok (.iload_n 1, 1) := by decide +kernel
theorem dX4_rest_67 : decode cX4_rest 67 = .ok (.goto 5, 3) := by decide +kernel
theorem dX4_rest_70 : decode cX4_rest 70 = .ok (.iload_n 1, 1) := by decide +kernel
theorem dX4_rest_71 : decode cX4_rest 71 = .ok (.ineg, 1) := by decide +kernel
theorem dX4_rest_72 : decode cX4_rest 72 = .ok (.iadd, 1) := by decide +kernel
theorem dX4_rest_73 : decode cX4_rest 73 = .ok (.invokestatic 44, 3) := by decide +kernel
theorem dX4_rest_76 : decode cX4_rest 76 = .ok (.iastore, 1) := by decide +kernel
theorem dX4_rest_77 : decode cX4_rest 77 = .ok (.aload_n 0, 1) := by decide +kernel
theorem dX4_rest_78 : decode cX4_rest 78 = .ok (.getfield 21, 3) := by decide +kernel
theorem dX4_rest_81 : decode cX4_rest 81 = .ok (.iload_n 3, 1) := by decide +kernel
theorem dX4_rest_82 : decode cX4_rest 82 = .ok (.iconst 0, 1) := by decide +kernel
theorem dX4_rest_83 : decode cX4_rest 83 = .ok (.iastore, 1) := by decide +kernel
theorem dX4_rest_84 : decode cX4_rest 84 = .ok (.iinc 3 1, 3) := by decide +kernel
theorem dX4_rest_87 : decode cX4_rest 87 = .ok (.goto (-83), 3) := by decide +kernel
theorem dX4_rest_90 : decode cX4_rest 90 = .ok (.aload_n 0, 1) := by decide +kernel
theorem dX4_rest_91 : decode cX4_rest 91 = .ok (.dup, 1) := by decide +kernel
theorem dX4_rest_92 : decode cX4_rest 92 = .ok (.getfield 24, 3) := by decide +kernel
theorem dX4_rest_95 : decode cX4_rest 95 = .ok (.iconst 1, 1) := by decide +kernel
theorem dX4_rest_96 : decode cX4_rest 96 = .ok (.iadd, 1) := by decide +kernel
theorem dX4_rest_97 : decode cX4_rest 97 = .ok (.putfield 24, 3) := by decide +kernel
theorem dX4_rest_100 : decode cX4_rest 100 = .ok (.iload_n 2, 1) := by decide +kernel
theorem dX4_rest_101 : decode cX4_rest 101 = .ok (.ireturn, 1) := by decide +kernel
theorem dX4_crickets_0 : decode cX4_crickets 0 = .ok (.iconst 0, 1) := by decide +kernel
theorem dX4_crickets_1 : decode cX4_crickets 1 = .ok (.istore_n 1, 1) := by decide +kernel
theorem dX4_crickets_2 : decode cX4_crickets 2 = .ok (.aload_n 0, 1) := by decide +kernel
theorem dX4_crickets_3 : decode cX4_crickets 3 = .ok (.getfield 18, 3) := by decide +kernel
theorem dX4_crickets_6 : decode cX4_crickets 6 = .ok (.astore_n 2, 1) := by decide +kernel
theorem dX4_crickets_7 : decode cX4_crickets 7 = .ok (.aload_n 2, 1) := by decide +kernel
theorem dX4_crickets_8 : decode cX4_crickets 8 = .ok (.arraylength, 1) := by decide +kernel
theorem dX4_crickets_9 : decode cX4_crickets 9 = .ok (.istore_n 3, 1) := by decide +kernel
theorem dX4_crickets_10 : decode cX4_crickets 10 = .ok (.iconst 0, 1) := by decide +kernel
theorem dX4_crickets_11 : decode cX4_crickets 11 = .ok (.istore 4, 2) := by decide +kernel
theorem dX4_crickets_13 : decode cX4_crickets 13 = .ok (.iload 4, 2) := by decide +kernel
theorem dX4_crickets_15 : decode cX4_crickets 15 = .ok (.iload_n 3, 1) := by decide +kernel
theorem dX4_crickets_16 : decode cX4_crickets 16 = .ok (.if_icmp .ge 20, 3) := by decide +kernel
theorem dX4_crickets_19 : decode cX4_crickets 19 = .ok (.aload_n 2, 1) := by decide +kernel
theorem dX4_crickets_20 : decode cX4_crickets 20 = .ok (.iload 4, 2) := by decide +kernel
theorem dX4_crickets_22 : decode cX4_crickets 22 = .ok (.iaload, 1) := by decide +kernel
theorem dX4_crickets_23 : decode cX4_crickets 23 = .ok (.istore 5, 2) := by decide +kernel
theorem dX4_crickets_25 : decode cX4_crickets 25 = .ok (.iload_n 1, 1) := by decide +kernel
theorem dX4_crickets_26 : decode cX4_crickets 26 = .ok (.iload 5, 2) := by decide +kernel
theorem dX4_crickets_28 : decode cX4_crickets 28 = .ok (.iadd, 1) := by decide +kernel
theorem dX4_crickets_29 : decode cX4_crickets 29 = .ok (.istore_n 1, 1) := by decide +kernel
theorem dX4_crickets_30 : decode cX4_crickets 30 = .ok (.iinc 4 1, 3) := by decide +kernel
theorem dX4_crickets_33 : decode cX4_crickets 33 = .ok (.goto (-20), 3) := by decide +kernel
theorem dX4_crickets_36 : decode cX4_crickets 36 = .ok (.iload_n 1, 1) := by decide +kernel
theorem dX4_crickets_37 : decode cX4_crickets 37 = .ok (.ireturn, 1) := by decide +kernel
theorem dX4_allWorn_0 : decode cX4_allWorn 0 = .ok (.iconst 0, 1) := by decide +kernel
theorem dX4_allWorn_1 : decode cX4_allWorn 1 = .ok (.istore_n 1, 1) := by decide +kernel
theorem dX4_allWorn_2 : decode cX4_allWorn 2 = .ok (.aload_n 0, 1) := by decide +kernel
theorem dX4_allWorn_3 : decode cX4_allWorn 3 = .ok (.getfield 9, 3) := by decide +kernel
theorem dX4_allWorn_6 : decode cX4_allWorn 6 = .ok (.astore_n 2, 1) := by decide +kernel
theorem dX4_allWorn_7 : decode cX4_allWorn 7 = .ok (.aload_n 2, 1) := by decide +kernel
theorem dX4_allWorn_8 : decode cX4_allWorn 8 = .ok (.arraylength, 1) := by decide +kernel
theorem dX4_allWorn_9 : decode cX4_allWorn 9 = .ok (.istore_n 3, 1) := by decide +kernel
theorem dX4_allWorn_10 : decode cX4_allWorn 10 = .ok (.iconst 0, 1) := by decide +kernel
theorem dX4_allWorn_11 : decode cX4_allWorn 11 = .ok (.istore 4, 2) := by decide +kernel
theorem dX4_allWorn_13 : decode cX4_allWorn 13 = .ok (.iload 4, 2) := by decide +kernel
theorem dX4_allWorn_15 : decode cX4_allWorn 15 = .ok (.iload_n 3, 1) := by decide +kernel
theorem dX4_allWorn_16 : decode cX4_allWorn 16 = .ok (.if_icmp .ge 20, 3) := by decide +kernel
theorem dX4_allWorn_19 : decode cX4_allWorn 19 = .ok (.aload_n 2, 1) := by decide +kernel
theorem dX4_allWorn_20 : decode cX4_allWorn 20 = .ok (.iload 4, 2) := by decide +kernel
theorem dX4_allWorn_22 : decode cX4_allWorn 22 = .ok (.iaload, 1) := by decide +kernel
theorem dX4_allWorn_23 : decode cX4_allWorn 23 = .ok (.istore 5, 2) := by decide +kernel
theorem dX4_allWorn_25 : decode cX4_allWorn 25 = .ok (.iload_n 1, 1) := by decide +kernel
theorem dX4_allWorn_26 : decode cX4_allWorn 26 = .ok (.iload 5, 2) := by decide +kernel
theorem dX4_allWorn_28 : decode cX4_allWorn 28 = .ok (.iadd, 1) := by decide +kernel
theorem dX4_allWorn_29 : decode cX4_allWorn 29 = .ok (.istore_n 1, 1) := by decide +kernel
theorem dX4_allWorn_30 : decode cX4_allWorn 30 = .ok (.iinc 4 1, 3) := by decide +kernel
theorem dX4_allWorn_33 : decode cX4_allWorn 33 = .ok (.goto (-20), 3) := by decide +kernel
theorem dX4_allWorn_36 : decode cX4_allWorn 36 = .ok (.iload_n 1, 1) := by decide +kernel
theorem dX4_allWorn_37 : decode cX4_allWorn 37 = .ok (.ireturn, 1) := by decide +kernel
theorem dX4_allOff_0 : decode cX4_allOff 0 = .ok (.iconst 0, 1) := by decide +kernel
theorem dX4_allOff_1 : decode cX4_allOff 1 = .ok (.istore_n 1, 1) := by decide +kernel
theorem dX4_allOff_2 : decode cX4_allOff 2 = .ok (.aload_n 0, 1) := by decide +kernel
theorem dX4_allOff_3 : decode cX4_allOff 3 = .ok (.getfield 15, 3) := by decide +kernel
theorem dX4_allOff_6 : decode cX4_allOff 6 = .ok (.astore_n 2, 1) := by decide +kernel
theorem dX4_allOff_7 : decode cX4_allOff 7 = .ok (.aload_n 2, 1) := by decide +kernel
theorem dX4_allOff_8 : decode cX4_allOff 8 = .ok (.arraylength, 1) := by decide +kernel
theorem dX4_allOff_9 : decode cX4_allOff 9 = .ok (.istore_n 3, 1) := by decide +kernel
theorem dX4_allOff_10 : decode cX4_allOff 10 = .ok (.iconst 0, 1) := by decide +kernel
theorem dX4_allOff_11 : decode cX4_allOff 11 = .ok (.istore 4, 2) := by decide +kernel
theorem dX4_allOff_13 : decode cX4_allOff 13 = .ok (.iload 4, 2) := by decide +kernel
theorem dX4_allOff_15 : decode cX4_allOff 15 = .ok (.iload_n 3, 1) := by decide +kernel
theorem dX4_allOff_16 : decode cX4_allOff 16 = .ok (.if_icmp .ge 23, 3) := by decide +kernel
theorem dX4_allOff_19 : decode cX4_allOff 19 = .ok (.aload_n 2, 1) := by decide +kernel
theorem dX4_allOff_20 : decode cX4_allOff 20 = .ok (.iload 4, 2) := by decide +kernel
theorem dX4_allOff_22 : decode cX4_allOff 22 = .ok (.iaload, 1) := by decide +kernel
theorem dX4_allOff_23 : decode cX4_allOff 23 = .ok (.istore 5, 2) := by decide +kernel
theorem dX4_allOff_25 : decode cX4_allOff 25 = .ok (.iload_n 1, 1) := by decide +kernel
theorem dX4_allOff_26 : decode cX4_allOff 26 = .ok (.iload 5, 2) := by decide +kernel
theorem dX4_allOff_28 : decode cX4_allOff 28 = .ok (.invokestatic 34, 3) := by decide +kernel
theorem dX4_allOff_31 : decode cX4_allOff 31 = .ok (.iadd, 1) := by decide +kernel
theorem dX4_allOff_32 : decode cX4_allOff 32 = .ok (.istore_n 1, 1) := by decide +kernel
theorem dX4_allOff_33 : decode cX4_allOff 33 = .ok (.iinc 4 1, 3) := by decide +kernel
theorem dX4_allOff_36 : decode cX4_allOff 36 = .ok (.goto (-23), 3) := by decide +kernel
theorem dX4_allOff_39 : decode cX4_allOff 39 = .ok (.iload_n 1, 1) := by decide +kernel
theorem dX4_allOff_40 : decode cX4_allOff 40 = .ok (.ireturn, 1) := by decide +kernel
theorem dX5_init_0 : decode cX5_init 0 = .ok (.aload_n 0, 1) := by decide +kernel
theorem dX5_init_1 : decode cX5_init 1 = .ok (.invokespecial 1, 3) := by decide +kernel
theorem dX5_init_4 : decode cX5_init 4 = .ok (.aload_n 0, 1) := by decide +kernel
theorem dX5_init_5 : decode cX5_init 5 = .ok (.bipush 6, 2) := by decide +kernel
theorem dX5_init_7 : decode cX5_init 7 = .ok (.newarray .int, 2) := by decide +kernel
theorem dX5_init_9 : decode cX5_init 9 = .ok (.putfield 9, 3) := by decide +kernel
theorem dX5_init_12 : decode cX5_init 12 = .ok (.aload_n 0, 1) := by decide +kernel
theorem dX5_init_13 : decode cX5_init 13 = .ok (.bipush 96, 2) := by decide +kernel
theorem dX5_init_15 : decode cX5_init 15 = .ok (.newarray .int, 2) := by decide +kernel
theorem dX5_init_17 : decode cX5_init 17 = .ok (.putfield 13, 3) := by decide +kernel
theorem dX5_init_20 : decode cX5_init 20 = .ok (.aload_n 0, 1) := by decide +kernel
theorem dX5_init_21 : decode cX5_init 21 = .ok (.bipush 8, 2) := by decide +kernel
theorem dX5_init_23 : decode cX5_init 23 = .ok (.newarray .int, 2) := by decide +kernel
theorem dX5_init_25 : decode cX5_init 25 = .ok (.putfield 16, 3) := by decide +kernel
theorem dX5_init_28 : decode cX5_init 28 = .ok (.aload_n 0, 1) := by decide +kernel
theorem dX5_init_29 : decode cX5_init 29 = .ok (.bipush 8, 2) := by decide +kernel
theorem dX5_init_31 : decode cX5_init 31 = .ok (.newarray .int, 2) := by decide +kernel
theorem dX5_init_33 : decode cX5_init 33 = .ok (.putfield 19, 3) := by decide +kernel
theorem dX5_init_36 : decode cX5_init 36 = .ok (.aload_n 0, 1) := by decide +kernel
theorem dX5_init_37 : decode cX5_init 37 = .ok (.bipush 8, 2) := by decide +kernel
theorem dX5_init_39 : decode cX5_init 39 = .ok (.newarray .int, 2) := by decide +kernel
theorem dX5_init_41 : decode cX5_init 41 = .ok (.putfield 22, 3) := by decide +kernel
theorem dX5_init_44 : decode cX5_init 44 = .ok (.aload_n 0, 1) := by decide +kernel
theorem dX5_init_45 : decode cX5_init 45 = .ok (.bipush 48, 2) := by decide +kernel
theorem dX5_init_47 : decode cX5_init 47 = .ok (.newarray .int, 2) := by decide +kernel
theorem dX5_init_49 : decode cX5_init 49 = .ok (.putfield 25, 3) := by decide +kernel
theorem dX5_init_52 : decode cX5_init 52 = .ok (.aload_n 0, 1) := by decide +kernel
theorem dX5_init_53 : decode cX5_init 53 = .ok (.bipush 7, 2) := by decide +kernel
theorem dX5_init_55 : decode cX5_init 55 = .ok (.newarray .int, 2) := by decide +kernel
theorem dX5_init_57 : decode cX5_init 57 = .ok (.putfield 28, 3) := by decide +kernel
theorem dX5_init_60 : decode cX5_init 60 = .ok (.aload_n 0, 1) := by decide +kernel
theorem dX5_init_61 : decode cX5_init 61 = .ok (.bipush 20, 2) := by decide +kernel
theorem dX5_init_63 : decode cX5_init 63 = .ok (.putfield 31, 3) := by decide +kernel
theorem dX5_init_66 : decode cX5_init 66 = .ok (.aload_n 0, 1) := by decide +kernel
theorem dX5_init_67 : decode cX5_init 67 = .ok (.new 35, 3) := by decide +kernel
theorem dX5_init_70 : decode cX5_init 70 = .ok (.dup, 1) := by decide +kernel
theorem dX5_init_71 : decode cX5_init 71 = .ok (.invokespecial 37, 3) := by decide +kernel
theorem dX5_init_74 : decode cX5_init 74 = .ok (.putfield 38, 3) := by decide +kernel
theorem dX5_init_77 : decode cX5_init 77 = .ok (.aload_n 0, 1) := by decide +kernel
theorem dX5_init_78 : decode cX5_init 78 = .ok (.new 35, 3) := by decide +kernel
theorem dX5_init_81 : decode cX5_init 81 = .ok (.dup, 1) := by decide +kernel
theorem dX5_init_82 : decode cX5_init 82 = .ok (.invokespecial 37, 3) := by decide +kernel
theorem dX5_init_85 : decode cX5_init 85 = .ok (.putfield 42, 3) := by decide +kernel
theorem dX5_init_88 : decode cX5_init 88 = .ok (.return_, 1) := by decide +kernel
theorem dX5_thrown_0 : decode cX5_thrown 0 = .ok (.aload_n 0, 1) := by decide +kernel
theorem dX5_thrown_1 : decode cX5_thrown 1 = .ok (.getfield 45, 3) := by decide +kernel
theorem dX5_thrown_4 : decode cX5_thrown 4 = .ok (.ireturn, 1) := by decide +kernel
theorem dX5_no_0 : decode cX5_no 0 = .ok (.aload_n 0, 1) := by decide +kernel
theorem dX5_no_1 : decode cX5_no 1 = .ok (.iload_n 1, 1) := by decide +kernel
theorem dX5_no_2 : decode cX5_no 2 = .ok (.putfield 45, 3) := by decide +kernel
theorem dX5_no_5 : decode cX5_no 5 = .ok (.iconst 0, 1) := by decide +kernel
theorem dX5_no_6 : decode cX5_no 6 = .ok (.ireturn, 1) := by decide +kernel
theorem dX5_held_0 : decode cX5_held 0 = .ok (.bipush (-60), 2) := by decide +kernel
theorem dX5_held_2 : decode cX5_held 2 = .ok (.bipush 60, 2) := by decide +kernel
theorem dX5_held_4 : decode cX5_held 4 = .ok (.iload_n 0, 1) := by decide +kernel
theorem dX5_held_5 : decode cX5_held 5 = .ok (.invokestatic 48, 3) := by decide +kernel
theorem dX5_held_8 : decode cX5_held 8 = .ok (.invokestatic 54, 3) := by decide +kernel
theorem dX5_held_11 : decode cX5_held 11 = .ok (.ireturn, 1) := by decide +kernel
theorem dX5_isIn_0 : decode cX5_isIn 0 = .ok (.iload_n 0, 1) := by decide +kernel
theorem dX5_isIn_1 : decode cX5_isIn 1 = .ok (.iload_n 1, 1) := by decide +kernel
theorem dX5_isIn_2 : decode cX5_isIn 2 = .ok (.if_icmp .lt 12, 3) := by decide +kernel
theorem dX5_isIn_5 : decode cX5_isIn 5 = .ok (.iload_n 0, 1) := by decide +kernel
theorem dX5_isIn_6 : decode cX5_isIn 6 = .ok (.iload_n 2, 1) := by decide +kernel
theorem dX5_isIn_7 : decode cX5_isIn 7 = .ok (.if_icmp .gt 7, 3) := by decide +kernel
theorem dX5_isIn_10 : decode cX5_isIn 10 = .ok (.iconst 1, 1) := by decide +kernel
theorem dX5_isIn_11 : decode cX5_isIn 11 = .ok (.goto 4, 3) := by decide +kernel
theorem dX5_isIn_14 : decode cX5_isIn 14 = .ok (.iconst 0, 1) := by decide +kernel
theorem dX5_isIn_15 : decode cX5_isIn 15 = .ok (.ireturn, 1) := by decide +kernel
theorem dX5_isTune_0 : decode cX5_isTune 0 = .ok (.iload_n 1, 1) := by decide +kernel
theorem dX5_isTune_1 : decode cX5_isTune 1 = .ok (.iconst 0, 1) := by decide +kernel
theorem dX5_isTune_2 : decode cX5_isTune 2 = .ok (.aload_n 0, 1) := by decide +kernel
theorem dX5_isTune_3 : decode cX5_isTune 3 = .ok (.getfield 57, 3) := by decide +kernel
theorem dX5_isTune_6 : decode cX5_isTune 6 = .ok (.iconst 1, 1) := by decide +kernel
theorem dX5_isTune_7 : decode cX5_isTune 7 = .ok (.isub, 1) := by decide +kernel
theorem dX5_isTune_8 : decode cX5_isTune 8 = .ok (.invokestatic 60, 3) := by decide +kernel
theorem dX5_isTune_11 : decode cX5_isTune 11 = .ok (.ireturn, 1) := by decide +kernel
theorem dX5_isStreet_0 : decode cX5_isStreet 0 = .ok (.iload_n 1, 1) := by decide +kernel
theorem dX5_isStreet_1 : decode cX5_isStreet 1 = .ok (.iconst 0, 1) := by decide +kernel
theorem dX5_isStreet_2 : decode cX5_isStreet 2 = .ok (.aload_n 0, 1) := by decide +kernel
theorem dX5_isStreet_3 : decode cX5_isStreet 3 = .ok (.getfield 64, 3) := by decide +kernel
theorem dX5_isStreet_6 : decode cX5_isStreet 6 = .ok (.iconst 1, 1) := by decide +kernel
theorem dX5_isStreet_7 : decode cX5_isStreet 7 = .ok (.isub, 1) := by decide +kernel
theorem dX5_isStreet_8 : decode cX5_isStreet 8 = .ok (.invokestatic 60, 3) := by decide +kernel
theorem dX5_isStreet_11 : decode cX5_isStreet 11 = .ok (.ireturn, 1) := by decide +kernel
theorem dX5_isPipe_0 : decode cX5_isPipe 0 = .ok (.iload_n 0, 1) := by decide +kernel
theorem dX5_isPipe_1 : decode cX5_isPipe 1 = .ok (.iconst 0, 1) := by decide +kernel
theorem dX5_isPipe_2 : decode cX5_isPipe 2 = .ok (.bipush 11, 2) := by decide +kernel
theorem dX5_isPipe_4 : decode cX5_isPipe 4 = .ok (.invokestatic 60, 3) := by decide +kernel
theorem dX5_isPipe_7 : decode cX5_isPipe 7 = .ok (.ireturn, 1) := by decide +kernel
theorem dX5_isDays_0 : decode cX5_isDays 0 = .ok (.iload_n 0, 1) := by decide +kernel
theorem dX5_isDays_1 : decode cX5_isDays 1 = .ok (.iconst 0, 1) := by decide +kernel
theorem dX5_isDays_2 : decode cX5_isDays 2 = .ok (.bipush 127, 2) := by decide +kernel
theorem dX5_isDays_4 : decode cX5_isDays 4 = .ok (.invokestatic 60, 3) := by decide +kernel
theorem dX5_isDays_7 : decode cX5_isDays 7 = .ok (.ireturn, 1) := by decide +kernel
theorem dX5_barrel_0 : decode cX5_barrel 0 = .ok (.aload_n 0, 1) := by decide +kernel
theorem dX5_barrel_1 : decode cX5_barrel 1 = .ok (.iconst 0, 1) := by decide +kernel
theorem dX5_barrel_2 : decode cX5_barrel 2 = .ok (.putfield 45, 3) := by decide +kernel
theorem dX5_barrel_5 : decode cX5_barrel 5 = .ok (.aload_n 0, 1) := by decide +kernel
theorem dX5_barrel_6 : decode cX5_barrel 6 = .ok (.getfield 57, 3) := by decide +kernel
theorem dX5_barrel_9 : decode cX5_barrel 9 = .ok (.bipush 6, 2) := by decide +kernel
theorem dX5_barrel_11 : decode cX5_barrel 11 = .ok (.if_icmp .ne 9, 3) := by decide +kernel
theorem dX5_barrel_14 : decode cX5_barrel 14 = .ok (.aload_n 0, 1) := by decide +kernel
theorem dX5_barrel_15 : decode cX5_barrel 15 = .ok (.iconst 1, 1) := by decide +kernel
theorem dX5_barrel_16 : decode cX5_barrel 16 = .ok (.invokevirtual 67, 3) := by decide +kernel
theorem dX5_barrel_19 : decode cX5_barrel 19 = .ok (.ireturn, 1) := by decide +kernel
theorem dX5_barrel_20 : decode cX5_barrel 20 = .ok (.aload_n 0, 1) := by decide +kernel
theorem dX5_barrel_21 : decode cX5_barrel 21 = .ok (.dup, 1) := by decide +kernel
theorem dX5_barrel_22 : decode cX5_barrel 22 = .ok (.getfield 57, 3) := by decide +kernel
theorem dX5_barrel_25 : decode cX5_barrel 25 = .ok (.iconst 1, 1) := by decide +kernel
theorem dX5_barrel_26 : decode cX5_barrel 26 = .ok (.iadd, 1) := by decide +kernel
theorem dX5_barrel_27 : decode cX5_barrel 27 = .ok (.putfield 57, 3) := by decide +kernel
theorem dX5_barrel_30 : decode cX5_barrel 30 = .ok (.aload_n 0, 1) := by decide +kernel
theorem dX5_barrel_31 : decode cX5_barrel 31 = .ok (.getfield 57, 3) := by decide +kernel
theorem dX5_barrel_34 : decode cX5_barrel 34 = .ok (.iconst 1, 1) := by decide +kernel
theorem dX5_barrel_35 : decode cX5_barrel 35 = .ok (.isub, 1) := by decide +kernel
theorem dX5_barrel_36 : decode cX5_barrel 36 = .ok (.ireturn, 1) := by decide +kernel
theorem dX5_pin_0 : decode cX5_pin 0 = .ok (.aload_n 0, 1) := by decide +kernel
theorem dX5_pin_1 : decode cX5_pin 1 = .ok (.iconst 0, 1) := by decide +kernel
theorem dX5_pin_2 : decode cX5_pin 2 = .ok (.putfield 45, 3) := by decide +kernel
theorem dX5_pin_5 : decode cX5_pin 5 = .ok (.aload_n 0, 1) := by decide +kernel
theorem dX5_pin_6 : decode cX5_pin 6 = .ok (.iload_n 1, 1) := by decide +kernel
theorem dX5_pin_7 : decode cX5_pin 7 = .ok (.invokevirtual 71, 3) := by decide +kernel
theorem dX5_pin_10 : decode cX5_pin 10 = .ok (.ifCond .eq 10, 3) := by decide +kernel
theorem dX5_pin_13 : decode cX5_pin 13 = .ok (.iload_n 2, 1) := by decide +kernel
theorem dX5_pin_14 : decode cX5_pin 14 = .ok (.invokestatic 75, 3) := by decide +kernel
theorem dX5_pin_17 : decode cX5_pin 17 = .ok (.ifCond .ne 9, 3) := by decide +kernel
theorem dX5_pin_20 : decode cX5_pin 20 = .ok (.aload_n 0, 1) := by decide +kernel
theorem dX5_pin_21 : decode cX5_pin 21 = .ok (.iconst 1, 1) := by decide +kernel
theorem dX5_pin_22 : decode cX5_pin 22 = .ok (.invokevirtual 67, 3) := by decide +kernel
theorem dX5_pin_25 : decode cX5_pin 25 = .ok (.ireturn, 1) := by decide +kernel
theorem dX5_pin_26 : decode cX5_pin 26 = .ok (.aload_n 0, 1) := by decide +kernel
theorem dX5_pin_27 : decode cX5_pin 27 = .ok (.getfield 9, 3) := by decide +kernel
theorem dX5_pin_30 : decode cX5_pin 30 = .ok (.iload_n 1, 1) := by decide +kernel
theorem dX5_pin_31 : decode cX5_pin 31 = .ok (.iaload, 1) := by decide +kernel
theorem dX5_pin_32 : decode cX5_pin 32 = .ok (.bipush 16, 2) := by decide +kernel
theorem dX5_pin_34 : decode cX5_pin 34 = .ok (.if_icmp .ne 9, 3) := by decide +kernel
theorem dX5_pin_37 : decode cX5_pin 37 = .ok (.aload_n 0, 1) := by decide +kernel
theorem dX5_pin_38 : decode cX5_pin 38 = .ok (.iconst 2, 1) := by decide +kernel
theorem dX5_pin_39 : decode cX5_pin 39 = .ok (.invokevirtual 67, 3) := by decide +kernel
theorem dX5_pin_42 : decode cX5_pin 42 = .ok (.ireturn, 1) := by decide +kernel
theorem dX5_pin_43 : decode cX5_pin 43 = .ok (.aload_n 0, 1) := by decide +kernel
theorem dX5_pin_44 : decode cX5_pin 44 = .ok (.getfield 13, 3) := by decide +kernel
theorem dX5_pin_47 : decode cX5_pin 47 = .ok (.bipush 16, 2) := by decide +kernel
theorem dX5_pin_49 : decode cX5_pin 49 = .ok (.iload_n 1, 1) := by decide +kernel
theorem dX5_pin_50 : decode cX5_pin 50 = .ok (.imul, 1) := by decide +kernel
theorem dX5_pin_51 : decode cX5_pin 51 = .ok (.aload_n 0, 1) := by decide +kernel
theorem dX5_pin_52 : decode cX5_pin 52 = .ok (.getfield 9, 3) := by decide +kernel
theorem dX5_pin_55 : decode cX5_pin 55 = .ok (.iload_n 1, 1) := by decide +kernel
theorem dX5_pin_56 : decode cX5_pin 56 = .ok (.iaload, 1) := by decide +kernel
theorem dX5_pin_57 : decode cX5_pin 57 = .ok (.iadd, 1) := by decide +kernel
theorem dX5_pin_58 : decode cX5_pin 58 = .ok (.iload_n 2, 1) := by decide +kernel
theorem dX5_pin_59 : decode cX5_pin 59 = .ok (.iastore, 1) := by decide +kernel
theorem dX5_pin_60 : decode cX5_pin 60 = .ok (.aload_n 0, 1) := by decide +kernel
theorem dX5_pin_61 : decode cX5_pin 61 = .ok (.getfield 9, 3) := by decide +kernel
theorem dX5_pin_64 : decode cX5_pin 64 = .ok (.iload_n 1, 1) := by decide +kernel
theorem dX5_pin_65 : decode cX5_pin 65 = .ok (.dup2, 1) := by decide +kernel
theorem dX5_pin_66 : decode cX5_pin 66 = .ok (.iaload, 1) := by decide +kernel
theorem dX5_pin_67 : decode cX5_pin 67 = .ok (.iconst 1, 1) := by decide +kernel
theorem dX5_pin_68 : decode cX5_pin 68 = .ok (.iadd, 1) := by decide +kernel
theorem dX5_pin_69 : decode cX5_pin 69 = .ok (.iastore, 1) := by decide +kernel
theorem dX5_pin_70 : decode cX5_pin 70 = .ok (.aload_n 0, 1) := by decide +kernel
theorem dX5_pin_71 : decode cX5_pin 71 = .ok (.getfield 9, 3) := by decide +kernel
theorem dX5_pin_74 : decode cX5_pin 74 = .ok (.iload_n 1, 1) := by decide +kernel
theorem dX5_pin_75 : decode cX5_pin 75 = .ok (.iaload, 1) := by decide +kernel
theorem dX5_pin_76 : decode cX5_pin 76 = .ok (.ireturn, 1) := by decide +kernel
theorem dX5_note_0 : decode cX5_note 0 = .ok (.aload_n 0, 1) := by decide +kernel
theorem dX5_note_1 : decode cX5_note 1 = .ok (.iconst 0, 1) := by decide +kernel
theorem dX5_note_2 : decode cX5_note 2 = .ok (.putfield 45, 3) := by decide +kernel
theorem dX5_note_5 : decode cX5_note 5 = .ok (.aload_n 0, 1) := by decide +kernel
theorem dX5_note_6 : decode cX5_note 6 = .ok (.iload_n 1, 1) := by decide +kernel
theorem dX5_note_7 : decode cX5_note 7 = .ok (.invokevirtual 71, 3) := by decide +kernel
theorem dX5_note_10 : decode cX5_note 10 = .ok (.ifCond .eq 33, 3) := by decide +kernel
theorem dX5_note_13 : decode cX5_note 13 = .ok (.iload_n 2, 1) := by decide +kernel
theorem dX5_note_14 : decode cX5_note 14 = .ok (.iconst 0, 1) := by decide +kernel
theorem dX5_note_15 : decode cX5_note 15 = .ok (.aload_n 0, 1) := by decide +kernel
theorem dX5_note_16 : decode cX5_note 16 = .ok (.getfield 9, 3) := by decide +kernel
theorem dX5_note_19 : decode cX5_note 19 = .ok (.iload_n 1, 1) := by decide +kernel
theorem dX5_note_20 : decode cX5_note 20 = .ok (.iaload, 1) := by decide +kernel
theorem dX5_note_21 : decode cX5_note 21 = .ok (.iconst 1, 1) := by decide +kernel
theorem dX5_note_22 : decode cX5_note 22 = .ok (.isub, 1) := by decide +kernel
theorem dX5_note_23 : decode cX5_note 23 = .ok (.invokestatic 60, 3) := by decide +kernel
theorem dX5_note_26 : decode cX5_note 26 = .ok (.ifCond .eq 17, 3) := by decide +kernel
theorem dX5_note_29 : decode cX5_note 29 = .ok (.aload_n 0, 1) := by decide +kernel
theorem dX5_note_30 : decode cX5_note 30 = .ok (.getfield 13, 3) := by decide +kernel
theorem dX5_note_33 : decode cX5_note 33 = .ok (.bipush 16, 2) := by decide +kernel
theorem dX5_note_35 : decode cX5_note 35 = .ok (.iload_n 1, 1) := by decide +kernel
theorem dX5_note_36 : decode cX5_note 36 = .ok (.imul, 1) := by decide +kernel
theorem dX5_note_37 : decode cX5_note 37 = .ok (.iload_n 2, 1) := by decide +kernel
theorem dX5_note_38 : decode cX5_note 38 = .ok (.iadd, 1) := by decide +kernel
theorem dX5_note_39 : decode cX5_note 39 = .ok (.iaload, 1) := by decide +kernel
theorem dX5_note_40 : decode cX5_note 40 = .ok (.goto 8, 3) := by decide +kernel
theorem dX5_note_43 : decode cX5_note 43 = .ok (.aload_n 0, 1) := by decide +kernel
theorem dX5_note_44 : decode cX5_note 44 = .ok (.iconst 1, 1) := by decide +kernel
theorem dX5_note_45 : decode cX5_note 45 = .ok (.invokevirtual 67, 3) := by decide +kernel
theorem dX5_note_48 : decode cX5_note 48 = .ok (.ireturn, 1) := by decide +kernel
theorem dX5_street_0 : decode cX5_street 0 = .ok (.aload_n 0, 1) := by decide +kernel
theorem dX5_street_1 : decode cX5_street 1 = .ok (.iconst 0, 1) := by decide +kernel
theorem dX5_street_2 : decode cX5_street 2 = .ok (.putfield 45, 3) := by decide +kernel
theorem dX5_street_5 : decode cX5_street 5 = .ok (.iload_n 1, 1) := by decide +kernel
theorem dX5_street_6 : decode cX5_street 6 = .ok (.iconst 0, 1) := by decide +kernel
theorem dX5_street_7 : decode cX5_street 7 = .ok (.bipush 90, 2) := by decide +kernel
theorem dX5_street_9 : decode cX5_street 9 = .ok (.invokestatic 60, 3) := by decide +kernel
theorem dX5_street_12 : decode cX5_street 12 = .ok (.ifCond .eq 10, 3) := by decide +kernel
theorem dX5_street_15 : decode cX5_street 15 = .ok (.iload_n 2, 1) := by decide +kernel
theorem dX5_street_16 : decode cX5_street 16 = .ok (.invokestatic 78, 3) := by decide +kernel
theorem dX5_street_19 : decode cX5_street 19 = .ok (.ifCond .ne 9, 3) := by decide +kernel
theorem dX5_street_22 : decode cX5_street 22 = .ok (.aload_n 0, 1) := by decide +kernel
theorem dX5_street_23 : decode cX5_street 23 = .ok (.iconst 1, 1) := by decide +kernel
theorem dX5_street_24 : decode cX5_street 24 = .ok (.invokevirtual 67, 3) := by decide +kernel
theorem dX5_street_27 : decode cX5_street 27 = .ok (.ireturn, 1) := by decide +kernel
theorem dX5_street_28 : decode cX5_street 28 = .ok (.aload_n 0, 1) := by decide +kernel
theorem dX5_street_29 : decode cX5_street 29 = .ok (.getfield 64, 3) := by decide +kernel
theorem dX5_street_32 : decode cX5_street 32 = .ok (.bipush 8, 2) := by decide +kernel
theorem dX5_street_34 : decode cX5_street 34 = .ok (.if_icmp .ne 9, 3) := by decide +kernel
theorem dX5_street_37 : decode cX5_street 37 = .ok (.aload_n 0, 1) := by decide +kernel
theorem dX5_street_38 : decode cX5_street 38 = .ok (.iconst 2, 1) := by decide +kernel
theorem dX5_street_39 : decode cX5_street 39 = .ok (.invokevirtual 67, 3) := by decide +kernel
theorem dX5_street_42 : decode cX5_street 42 = .ok (.ireturn, 1) := by decide +kernel
theorem dX5_street_43 : decode cX5_street 43 = .ok (.aload_n 0, 1) := by decide +kernel
theorem dX5_street_44 : decode cX5_street 44 = .ok (.getfield 16, 3) := by decide +kernel
theorem dX5_street_47 : decode cX5_street 47 = .ok (.aload_n 0, 1) := by decide +kernel
theorem dX5_street_48 : decode cX5_street 48 = .ok (.getfield 64, 3) := by decide +kernel
theorem dX5_street_51 : decode cX5_street 51 = .ok (.iload_n 1, 1) := by decide +kernel
theorem dX5_street_52 : decode cX5_street 52 = .ok (.iastore, 1) := by decide +kernel
theorem dX5_street_53 : decode cX5_street 53 = .ok (.aload_n 0, 1) := by decide +kernel
theorem dX5_street_54 : decode cX5_street 54 = .ok (.getfield 19, 3) := by decide +kernel
theorem dX5_street_57 : decode cX5_street 57 = .ok (.aload_n 0, 1) := by decide +kernel
theorem dX5_street_58 : decode cX5_street 58 = .ok (.getfield 64, 3) := by decide +kernel
theorem dX5_street_61 : decode cX5_street 61 = .ok (.iload_n 2, 1) := by decide +kernel
theorem dX5_street_62 : decode cX5_street 62 = .ok (.iastore, 1) := by decide +kernel
theorem dX5_street_63 : decode cX5_street 63 = .ok (.aload_n 0, 1) := by decide +kernel
theorem dX5_street_64 : decode cX5_street 64 = .ok (.dup, 1) := by decide +kernel
theorem dX5_street_65 : decode cX5_street 65 = .ok (.getfield 64, 3) := by decide +kernel
theorem dX5_street_68 : decode cX5_street 68 = .ok (.iconst 1, 1) := by decide +kernel
theorem dX5_street_69 : decode cX5_street 69 = .ok (.iadd, 1) := by decide +kernel
theorem dX5_street_70 : decode cX5_street 70 = .ok (.putfield 64, 3) := by decide +kernel
theorem dX5_street_73 : decode cX5_street 73 = .ok (.aload_n 0, 1) := by decide +kernel
theorem dX5_street_74 : decode cX5_street 74 = .ok (.getfield 64, 3) := by decide +kernel
theorem dX5_street_77 : decode cX5_street 77 = .ok (.iconst 1, 1) := by decide +kernel
theorem dX5_street_78 : decode cX5_street 78 = .ok (.isub, 1) := by decide +kernel
theorem dX5_street_79 : decode cX5_street 79 = .ok (.ireturn, 1) := by decide +kernel
theorem dX5_permit_0 : decode cX5_permit 0 = .ok (.aload_n 0, 1) := by decide +kernel
theorem dX5_permit_1 : decode cX5_permit 1 = .ok (.iconst 0, 1) := by decide +kernel
theorem dX5_permit_2 : decode cX5_permit 2 = .ok (.putfield 45, 3) := by decide +kernel
theorem dX5_permit_5 : decode cX5_permit 5 = .ok (.aload_n 0, 1) := by decide +kernel
theorem dX5_permit_6 : decode cX5_permit 6 = .ok (.iload_n 1, 1) := by decide +kernel
theorem dX5_permit_7 : decode cX5_permit 7 = .ok (.invokevirtual 81, 3) := by decide +kernel
theorem dX5_permit_10 : decode cX5_permit 10 = .ok (.ifCond .ne 9, 3) := by decide +kernel
theorem dX5_permit_13 : decode cX5_permit 13 = .ok (.aload_n 0, 1) := by decide +kernel
theorem dX5_permit_14 : decode cX5_permit 14 = .ok (.iconst 1, 1) := by decide +kernel
theorem dX5_permit_15 : decode cX5_permit 15 = .ok (.invokevirtual 67, 3) := by decide +kernel
theorem dX5_permit_18 : decode cX5_permit 18 = .ok (.ireturn, 1) := by decide +kernel
theorem dX5_permit_19 : decode cX5_permit 19 = .ok (.iload_n 2, 1) := by decide +kernel
theorem dX5_permit_20 : decode cX5_permit 20 = .ok (.invokestatic 78, 3) := by decide +kernel
theorem dX5_permit_23 : decode cX5_permit 23 = .ok (.ifCond .ne 9, 3) := by decide +kernel
theorem dX5_permit_26 : decode cX5_permit 26 = .ok (.aload_n 0, 1) := by decide +kernel
theorem dX5_permit_27 : decode cX5_permit 27 = .ok (.iconst 2, 1) := by decide +kernel
theorem dX5_permit_28 : decode cX5_permit 28 = .ok (.invokevirtual 67, 3) := by decide +kernel
theorem dX5_permit_31 : decode cX5_permit 31 = .ok (.ireturn, 1) := by decide +kernel
theorem dX5_permit_32 : decode cX5_permit 32 = .ok (.aload_n 0, 1) := by decide +kernel
theorem dX5_permit_33 : decode cX5_permit 33 = .ok (.getfield 19, 3) := by decide +kernel
theorem dX5_permit_36 : decode cX5_permit 36 = .ok (.iload_n 1, 1) := by decide +kernel
theorem dX5_permit_37 : decode cX5_permit 37 = .ok (.iaload, 1) := by decide +kernel
theorem dX5_permit_38 : decode cX5_permit 38 = .ok (.istore_n 3, 1) := by decide +kernel
theorem dX5_permit_39 : decode cX5_permit 39 = .ok (.aload_n 0, 1) := by decide +kernel
theorem dX5_permit_40 : decode cX5_permit 40 = .ok (.getfield 19, 3) := by decide +kernel
theorem dX5_permit_43 : decode cX5_permit 43 = .ok (.iload_n 1, 1) := by decide +kernel
theorem dX5_permit_44 : decode cX5_permit 44 = .ok (.iload_n 2, 1) := by decide +kernel
theorem dX5_permit_45 : decode cX5_permit 45 = .ok (.iastore, 1) := by decide +kernel
theorem dX5_permit_46 : decode cX5_permit 46 = .ok (.iload_n 3, 1) := by decide +kernel
theorem dX5_permit_47 : decode cX5_permit 47 = .ok (.ireturn, 1) := by decide +kernel
theorem dX5_setDamp_0 : decode cX5_setDamp 0 = .ok (.aload_n 0, 1) := by decide +kernel
theorem dX5_setDamp_1 : decode cX5_setDamp 1 = .ok (.iconst 0, 1) := by decide +kernel
theorem dX5_setDamp_2 : decode cX5_setDamp 2 = .ok (.putfield 45, 3) := by decide +kernel
theorem dX5_setDamp_5 : decode cX5_setDamp 5 = .ok (.iload_n 1, 1) := by decide +kernel
theorem dX5_setDamp_6 : decode cX5_setDamp 6 = .ok (.iconst 0, 1) := by decide +kernel
theorem dX5_setDamp_7 : decode cX5_setDamp 7 = .ok (.bipush 6, 2) := by decide +kernel
theorem dX5_setDamp_9 : decode cX5_setDamp 9 = .ok (.invokestatic 60, 3) := by decide +kernel
theorem dX5_setDamp_12 : decode cX5_setDamp 12 = .ok (.ifCond .ne 9, 3) := by decide +kernel
theorem dX5_setDamp_15 : decode cX5_setDamp 15 = .ok (.aload_n 0, 1) := by decide +kernel
theorem dX5_setDamp_16 : decode cX5_setDamp 16 = .ok (.iconst 1, 1) := by decide +kernel
theorem dX5_setDamp_17 : decode cX5_setDamp 17 = .ok (.invokevirtual 67, 3) := by decide +kernel
theorem dX5_setDamp_20 : decode cX5_setDamp 20 = .ok (.ireturn, 1) := by decide +kernel
theorem dX5_setDamp_21 : decode cX5_setDamp 21 = .ok (.iload_n 2, 1) := by decide +kernel
theorem dX5_setDamp_22 : decode cX5_setDamp 22 = .ok (.iconst 0, 1) := by decide +kernel
theorem dX5_setDamp_23 : decode cX5_setDamp 23 = .ok (.iconst 5, 1) := by decide +kernel
theorem dX5_setDamp_24 : decode cX5_setDamp 24 = .ok (.invokestatic 60, 3) := by decide +kernel
theorem dX5_setDamp_27 : decode cX5_setDamp 27 = .ok (.ifCond .ne 9, 3) := by decide +kernel
theorem dX5_setDamp_30 : decode cX5_setDamp 30 = .ok (.aload_n 0, 1) := by decide +kernel
theorem dX5_setDamp_31 : decode cX5_setDamp 31 = .ok (.iconst 2, 1) := by decide +kernel
theorem dX5_setDamp_32 : decode cX5_setDamp 32 = .ok (.invokevirtual 67, 3) := by decide +kernel
theorem dX5_setDamp_35 : decode cX5_setDamp 35 = .ok (.ireturn, 1) := by decide +kernel
theorem dX5_setDamp_36 : decode cX5_setDamp 36 = .ok (.aload_n 0, 1) := by decide +kernel
theorem dX5_setDamp_37 : decode cX5_setDamp 37 = .ok (.getfield 28, 3) := by decide +kernel
theorem dX5_setDamp_40 : decode cX5_setDamp 40 = .ok (.iload_n 1, 1) := by decide +kernel
theorem dX5_setDamp_41 : decode cX5_setDamp 41 = .ok (.iaload, 1) := by decide +kernel
theorem dX5_setDamp_42 : decode cX5_setDamp 42 = .ok (.istore_n 3, 1) := by decide +kernel
theorem dX5_setDamp_43 : decode cX5_setDamp 43 = .ok (.aload_n 0, 1) := by decide +kernel
theorem dX5_setDamp_44 : decode cX5_setDamp 44 = .ok (.getfield 28, 3) := by decide +kernel
theorem dX5_setDamp_47 : decode cX5_setDamp 47 = .ok (.iload_n 1, 1) := by decide +kernel
theorem dX5_setDamp_48 : decode cX5_setDamp 48 = .ok (.iload_n 2, 1) := by decide +kernel
theorem dX5_setDamp_49 : decode cX5_setDamp 49 = .ok (.iastore, 1) := by decide +kernel
theorem dX5_setDamp_50 : decode cX5_setDamp 50 = .ok (.iload_n 3, 1) := by decide +kernel
theorem dX5_setDamp_51 : decode cX5_setDamp 51 = .ok (.ireturn, 1) := by decide +kernel
theorem dX5_soundOf_0 : decode cX5_soundOf 0 = .ok (.iconst 0, 1) := by decide +kernel
theorem dX5_soundOf_1 : decode cX5_soundOf 1 = .ok (.istore 4, 2) := by decide +kernel
theorem dX5_soundOf_3 : decode cX5_soundOf 3 = .ok (.iconst 0, 1) := by decide +kernel
theorem dX5_soundOf_4 : decode cX5_soundOf 4 = .ok (.istore 5, 2) := by decide +kernel
theorem dX5_soundOf_6 : decode cX5_soundOf 6 = .ok (.iload 5, 2) := by decide +kernel
theorem dX5_soundOf_8 : decode cX5_soundOf 8 = .ok (.aload_n 0, 1) := by decide +kernel
theorem dX5_soundOf_9 : decode cX5_soundOf 9 = .ok (.getfield 9, 3) := by decide +kernel
theorem dX5_soundOf_12 : decode cX5_soundOf 12 = .ok (.iload_n 1, 1) := by decide +kernel
theorem dX5_soundOf_13 : decode cX5_soundOf 13 = .ok (.iaload, 1) := by decide +kernel
theorem dX5_soundOf_14 : decode cX5_soundOf 14 = .ok (.if_icmp .ge 44, 3) := by decide +kernel
theorem dX5_soundOf_17 : decode cX5_soundOf 17 = .ok (.aload_n 0, 1) := by decide +kernel
theorem dX5_soundOf_18 : decode cX5_soundOf 18 = .ok (.getfield 13, 3) := by decide +kernel
theorem dX5_soundOf_21 : decode cX5_soundOf 21 = .ok (.bipush 16, 2) := by decide +kernel
theorem dX5_soundOf_23 : decode cX5_soundOf 23 = .ok (.iload_n 1, 1) := by decide +kernel
theorem dX5_soundOf_24 : decode cX5_soundOf 24 = .ok (.imul, 1) := by decide +kernel
theorem dX5_soundOf_25 : decode cX5_soundOf 25 = .ok (.iload 5, 2) := by decide +kernel
theorem dX5_soundOf_27 : decode cX5_soundOf 27 = .ok (.iadd, 1) := by decide +kernel
theorem dX5_soundOf_28 : decode cX5_soundOf 28 = .ok (.iaload, 1) := by decide +kernel
theorem dX5_soundOf_29 : decode cX5_soundOf 29 = .ok (.istore 6, 2) := by decide +kernel
theorem dX5_soundOf_31 : decode cX5_soundOf 31 = .ok (.iload 4, 2) := by decide +kernel
theorem dX5_soundOf_33 : decode cX5_soundOf 33 = .ok (.iload 6, 2) := by decide +kernel
theorem dX5_soundOf_35 : decode cX5_soundOf 35 = .ok (.iload_n 3, 1) := by decide +kernel
theorem dX5_soundOf_36 : decode cX5_soundOf 36 = .ok (.if_icmp .ne 7, 3) := by decide +kernel
theorem dX5_soundOf_39 : decode cX5_soundOf 39 = .ok (.iconst 0, 1) := by decide +kernel
theorem dX5_soundOf_40 : decode cX5_soundOf 40 = .ok (.goto 9, 3) := by decide +kernel
theorem dX5_soundOf_43 : decode cX5_soundOf 43 = .ok (.aload_n 2, 1) := by decide +kernel
theorem dX5_soundOf_44 : decode cX5_soundOf 44 = .ok (.iload 6, 2) := by decide +kernel
theorem dX5_soundOf_46 : decode cX5_soundOf 46 = .ok (.invokevirtual 84, 3) := by decide +kernel
theorem dX5_soundOf_49 : decode cX5_soundOf 49 = .ok (.iadd, 1) := by decide +kernel
theorem dX5_soundOf_50 : decode cX5_soundOf 50 = .ok (.istore 4, 2) := by decide +kernel
theorem dX5_soundOf_52 : decode cX5_soundOf 52 = .ok (.iinc 5 1, 3) := by decide +kernel
theorem dX5_soundOf_55 : decode cX5_soundOf 55 = .ok (.goto (-49), 3) := by decide +kernel
theorem dX5_soundOf_58 : decode cX5_soundOf 58 = .ok (.aload_n 0, 1) := by decide +kernel
theorem dX5_soundOf_59 : decode cX5_soundOf 59 = .ok (.getfield 9, 3) := by decide +kernel
theorem dX5_soundOf_62 : decode cX5_soundOf 62 = .ok (.iload_n 1, 1) := by decide +kernel
theorem dX5_soundOf_63 : decode cX5_soundOf 63 = .ok (.iaload, 1) := by decide +kernel
theorem dX5_soundOf_64 : decode cX5_soundOf 64 = .ok (.ifCond .ne 7, 3) := by decide +kernel
theorem dX5_soundOf_67 : decode cX5_soundOf 67 = .ok (.iconst 0, 1) := by decide +kernel
theorem dX5_soundOf_68 : decode cX5_soundOf 68 = .ok (.goto 15, 3) := by decide +kernel
theorem dX5_soundOf_71 : decode cX5_soundOf 71 = .ok (.bipush 60, 2) := by decide +kernel
theorem dX5_soundOf_73 : decode cX5_soundOf 73 = .ok (.iload 4, 2) := by decide +kernel
theorem dX5_soundOf_75 : decode cX5_soundOf 75 = .ok (.aload_n 0, 1) := by decide +kernel
theorem dX5_soundOf_76 : decode cX5_soundOf 76 = .ok (.getfield 9, 3) := by decide +kernel
theorem dX5_soundOf_79 : decode cX5_soundOf 79 = .ok (.iload_n 1, 1) := by decide +kernel
theorem dX5_soundOf_80 : decode cX5_soundOf 80 = .ok (.iaload, 1) := by decide +kernel
theorem dX5_soundOf_81 : decode cX5_soundOf 81 = .ok (.idiv, 1) := by decide +kernel
theorem dX5_soundOf_82 : decode cX5_soundOf 82 = .ok (.isub, 1) := by decide +kernel
theorem dX5_soundOf_83 : decode cX5_soundOf 83 = .ok (.ireturn, 1) := by decide +kernel
theorem dX5_paysNow_0 : decode cX5_paysNow 0 = .ok (.aload_n 0, 1) := by decide +kernel
theorem dX5_paysNow_1 : decode cX5_paysNow 1 = .ok (.getfield 16, 3) := by decide +kernel
theorem dX5_paysNow_4 : decode cX5_paysNow 4 = .ok (.iload_n 1, 1) := by decide +kernel
theorem dX5_paysNow_5 : decode cX5_paysNow 5 = .ok (.iaload, 1) := by decide +kernel
theorem dX5_paysNow_6 : decode cX5_paysNow 6 = .ok (.aload_n 0, 1) := by decide +kernel
theorem dX5_paysNow_7 : decode cX5_paysNow 7 = .ok (.iload_n 2, 1) := by decide +kernel
theorem dX5_paysNow_8 : decode cX5_paysNow 8 = .ok (.aload_n 0, 1) := by decide +kernel
theorem dX5_paysNow_9 : decode cX5_paysNow 9 = .ok (.getfield 38, 3) := by decide +kernel
theorem dX5_paysNow_12 : decode cX5_paysNow 12 = .ok (.iconst (-1), 1) := by decide +kernel
theorem dX5_paysNow_13 : decode cX5_paysNow 13 = .ok (.invokevirtual 87, 3) := by decide +kernel
theorem dX5_paysNow_16 : decode cX5_paysNow 16 = .ok (.imul, 1) := by decide +kernel
theorem dX5_paysNow_17 : decode cX5_paysNow 17 = .ok (.bipush 60, 2) := by decide +kernel
theorem dX5_paysNow_19 : decode cX5_paysNow 19 = .ok (.idiv, 1) := by decide +kernel
theorem dX5_paysNow_20 : decode cX5_paysNow 20 = .ok (.bipush 20, 2) := by decide +kernel
theorem dX5_paysNow_22 : decode cX5_paysNow 22 = .ok (.aload_n 0, 1) := by decide +kernel
theorem dX5_paysNow_23 : decode cX5_paysNow 23 = .ok (.getfield 25, 3) := by decide +kernel
theorem dX5_paysNow_26 : decode cX5_paysNow 26 = .ok (.bipush 6, 2) := by decide +kernel
theorem dX5_paysNow_28 : decode cX5_paysNow 28 = .ok (.iload_n 1, 1) := by decide +kernel
theorem dX5_paysNow_29 : decode cX5_paysNow 29 = .ok (.imul, 1) := by decide +kernel
theorem dX5_paysNow_30 : decode cX5_paysNow 30 = .ok (.iload_n 2, 1) := by decide +kernel
theorem dX5_paysNow_31 : decode cX5_paysNow 31 = .ok (.iadd, 1) := by decide +kernel
theorem dX5_paysNow_32 : decode cX5_paysNow 32 = .ok (.iaload, 1) := by decide +kernel
theorem dX5_paysNow_33 : decode cX5_paysNow 33 = .ok (.invokestatic 48, 3) := by decide +kernel
theorem dX5_paysNow_36 : decode cX5_paysNow 36 = .ok (.ishr, 1) := by decide +kernel
theorem dX5_paysNow_37 : decode cX5_paysNow 37 = .ok (.ireturn, 1) := by decide +kernel
theorem dX5_isPermitted_0 : decode cX5_isPermitted 0 = .ok (.aload_n 0, 1) := by decide +kernel
theorem dX5_isPermitted_1 : decode cX5_isPermitted 1 = .ok (.getfield 19, 3) := by decide +kernel
theorem dX5_isPermitted_4 : decode cX5_isPermitted 4 = .ok (.iload_n 1, 1) := by decide +kernel
theorem dX5_isPermitted_5 : decode cX5_isPermitted 5 = .ok (.iaload, 1) := by decide +kernel
theorem dX5_isPermitted_6 : decode cX5_isPermitted 6 = .ok (.aload_n 0, 1) := by decide +kernel
theorem dX5_isPermitted_7 : decode cX5_isPermitted 7 = .ok (.getfield 38, 3) := by decide +kernel
theorem dX5_isPermitted_10 : decode cX5_isPermitted 10 = .ok (.getfield 91, 3) := by decide +kernel
theorem dX5_isPermitted_13 : decode cX5_isPermitted 13 = .ok (.bipush 7, 2) := by decide +kernel
theorem dX5_isPermitted_15 : decode cX5_isPermitted 15 = .ok (.irem, 1) := by decide +kernel
theorem dX5_isPermitted_16 : decode cX5_isPermitted 16 = .ok (.ishr, 1) := by decide +kernel
theorem dX5_isPermitted_17 : decode cX5_isPermitted 17 = .ok (.iconst 1, 1) := by decide +kernel
theorem dX5_isPermitted_18 : decode cX5_isPermitted 18 = .ok (.iand, 1) := by decide +kernel
theorem dX5_isPermitted_19 : decode cX5_isPermitted 19 = .ok (.iconst 1, 1) := by decide +kernel
theorem dX5_isPermitted_20 : decode cX5_isPermitted 20 = .ok (.if_icmp .ne 7, 3) := by decide +kernel
theorem dX5_isPermitted_23 : decode cX5_isPermitted 23 = .ok (.iconst 1, 1) := by decide +kernel
theorem dX5_isPermitted_24 : decode cX5_isPermitted 24 = .ok (.goto 4, 3) := by decide +kernel
theorem dX5_isPermitted_27 : decode cX5_isPermitted 27 = .ok (.iconst 0, 1) := by decide +kernel
theorem dX5_isPermitted_28 : decode cX5_isPermitted 28 = .ok (.ireturn, 1) := by decide +kernel
theorem dX5_sing_0 : decode cX5_sing 0 = .ok (.iconst 0, 1) := by decide +kernel
theorem dX5_sing_1 : decode cX5_sing 1 = .ok (.istore_n 3, 1) := by decide +kernel
theorem dX5_sing_2 : decode cX5_sing 2 = .ok (.iload_n 3, 1) := by decide +kernel
theorem dX5_sing_3 : decode cX5_sing 3 = .ok (.aload_n 0, 1) := by decide +kernel
theorem dX5_sing_4 : decode cX5_sing 4 = .ok (.getfield 9, 3) := by decide +kernel
theorem dX5_sing_7 : decode cX5_sing 7 = .ok (.iload_n 1, 1) := by decide +kernel
theorem dX5_sing_8 : decode cX5_sing 8 = .ok (.iaload, 1) := by decide +kernel
theorem dX5_sing_9 : decode cX5_sing 9 = .ok (.if_icmp .ge 24, 3) := by decide +kernel
theorem dX5_sing_12 : decode cX5_sing 12 = .ok (.aload_n 2, 1) := by decide +kernel
theorem dX5_sing_13 : decode cX5_sing 13 = .ok (.aload_n 0, 1) := by decide +kernel
theorem dX5_sing_14 : decode cX5_sing 14 = .ok (.getfield 13, 3) := by decide +kernel
theorem dX5_sing_17 : decode cX5_sing 17 = .ok (.bipush 16, 2) := by decide +kernel
theorem dX5_sing_19 : decode cX5_sing 19 = .ok (.iload_n 1, 1) := by decide +kernel
theorem dX5_sing_20 : decode cX5_sing 20 = .ok (.imul, 1) := by decide +kernel
theorem dX5_sing_21 : decode cX5_sing 21 = .ok (.iload_n 3, 1) := by decide +kernel
theorem dX5_sing_22 : decode cX5_sing 22 = .ok (.iadd, 1) := by decide +kernel
theorem dX5_sing_23 : decode cX5_sing 23 = .ok (.iaload, 1) := by decide +kernel
theorem dX5_sing_24 : decode cX5_sing 24 = .ok (.invokevirtual 94, 3) := by decide +kernel
theorem dX5_sing_27 : decode cX5_sing 27 = .ok (.iinc 3 1, 3) := by decide +kernel
theorem dX5_sing_30 : decode cX5_sing 30 = .ok (.goto (-28), 3) := by decide +kernel
theorem dX5_sing_33 : decode cX5_sing 33 = .ok (.return_, 1) := by decide +kernel
theorem dX5_play_0 : decode cX5_play 0 = .ok (.aload_n 0, 1) := by decide +kernel
theorem dX5_play_1 : decode cX5_play 1 = .ok (.iconst 0, 1) := by decide +kernel
theorem dX5_play_2 : decode cX5_play 2 = .ok (.putfield 45, 3) := by decide +kernel
theorem dX5_play_5 : decode cX5_play 5 = .ok (.aload_n 0, 1) := by decide +kernel
theorem dX5_play_6 : decode cX5_play 6 = .ok (.iload_n 1, 1) := by decide +kernel
theorem dX5_play_7 : decode cX5_play 7 = .ok (.invokevirtual 81, 3) := by decide +kernel
theorem dX5_play_10 : decode cX5_play 10 = .ok (.ifCond .eq 11, 3) := by decide +kernel
theorem dX5_play_13 : decode cX5_play 13 = .ok (.aload_n 0, 1) := by decide +kernel
theorem dX5_play_14 : decode cX5_play 14 = .ok (.iload_n 2, 1) := by decide +kernel
theorem dX5_play_15 : decode cX5_play 15 = .ok (.invokevirtual 71, 3) := by decide +kernel
theorem dX5_play_18 : decode cX5_play 18 = .ok (.ifCond .ne 9, 3) := by decide +kernel
theorem dX5_play_21 : decode cX5_play 21 = .ok (.aload_n 0, 1) := by decide +kernel
theorem dX5_play_22 : decode cX5_play 22 = .ok (.iconst 1, 1) := by decide +kernel
theorem dX5_play_23 : decode cX5_play 23 = .ok (.invokevirtual 67, 3) := by decide +kernel
theorem dX5_play_26 : decode cX5_play 26 = .ok (.ireturn, 1) := by decide +kernel
theorem dX5_play_27 : decode cX5_play 27 = .ok (.aload_n 0, 1) := by decide +kernel
theorem dX5_play_28 : decode cX5_play 28 = .ok (.getfield 9, 3) := by decide +kernel
theorem dX5_play_31 : decode cX5_play 31 = .ok (.iload_n 2, 1) := by decide +kernel
theorem dX5_play_32 : decode cX5_play 32 = .ok (.iaload, 1) := by decide +kernel
theorem dX5_play_33 : decode cX5_play 33 = .ok (.ifCond .ne 9, 3) := by decide +kernel
theorem dX5_play_36 : decode cX5_play 36 = .ok (.aload_n 0, 1) := by decide +kernel
theorem dX5_play_37 : decode cX5_play 37 = .ok (.iconst 2, 1) := by decide +kernel
theorem dX5_play_38 : decode cX5_play 38 = .ok (.invokevirtual 67, 3) := by decide +kernel
theorem dX5_play_41 : decode cX5_play 41 = .ok (.ireturn, 1) := by decide +kernel
theorem dX5_play_42 : decode cX5_play 42 = .ok (.aload_n 0, 1) := by decide +kernel
theorem dX5_play_43 : decode cX5_play 43 = .ok (.iload_n 1, 1) := by decide +kernel
theorem dX5_play_44 : decode cX5_play 44 = .ok (.invokevirtual 98, 3) := by decide +kernel
theorem dX5_play_47 : decode cX5_play 47 = .ok (.ifCond .ne 36, 3) := by decide +kernel
theorem dX5_play_50 : decode cX5_play 50 = .ok (.bipush 10, 2) := by decide +kernel
theorem dX5_play_52 : decode cX5_play 52 = .ok (.aload_n 0, 1) := by decide +kernel
theorem dX5_play_53 : decode cX5_play 53 = .ok (.getfield 31, 3) := by decide +kernel
theorem dX5_play_56 : decode cX5_play 56 = .ok (.invokestatic 48, 3) := by decide +kernel
theorem dX5_play_59 : decode cX5_play 59 = .ok (.istore_n 3, 1) := by decide +kernel
theorem dX5_play_60 : decode cX5_play 60 = .ok (.aload_n 0, 1) := by decide +kernel
theorem dX5_play_61 : decode cX5_play 61 = .ok (.dup, 1) := by decide +kernel
theorem dX5_play_62 : decode cX5_play 62 = .ok (.getfield 31, 3) := by decide +kernel
theorem dX5_play_65 : decode cX5_play 65 = .ok (.iload_n 3, 1) := by decide +kernel
theorem dX5_play_66 : decode cX5_play 66 = .ok (.isub, 1) := by decide +kernel
theorem dX5_play_67 : decode cX5_play 67 = .ok (.putfield 31, 3) := by decide +kernel
theorem dX5_play_70 : decode cX5_play 70 = .ok (.aload_n 0, 1) := by decide +kernel
theorem dX5_play_71 : decode cX5_play 71 = .ok (.dup, 1) := by decide +kernel
theorem dX5_play_72 : decode cX5_play 72 = .ok (.getfield 101, 3) := by decide +kernel
theorem dX5_play_75 : decode cX5_play 75 = .ok (.iload_n 3, 1) := by decide +kernel
theorem dX5_play_76 : decode cX5_play 76 = .ok (.iadd, 1) := by decide +kernel
theorem dX5_play_77 : decode cX5_play 77 = .ok (.putfield 101, 3) := by decide +kernel
theorem dX5_play_80 : decode cX5_play 80 = .ok (.iload_n 3, 1) := by decide +kernel
theorem dX5_play_81 : decode cX5_play 81 = .ok (.ineg, 1) := by decide +kernel
theorem dX5_play_82 : decode cX5_play 82 = .ok (.ireturn, 1) := by decide +kernel
theorem dX5_play_83 : decode cX5_play 83 = .ok (.aload_n 0, 1) := by decide +kernel
theorem dX5_play_84 : decode cX5_play 84 = .ok (.iload_n 1, 1) := by decide +kernel
theorem dX5_play_85 : decode cX5_play 85 = .ok (.iload_n 2, 1) := by decide +kernel
theorem dX5_play_86 : decode cX5_play 86 = .ok (.invokevirtual 104, 3) := by decide +kernel
theorem dX5_play_89 : decode cX5_play 89 = .ok (.istore_n 3, 1) := by decide +kernel
theorem dX5_play_90 : decode cX5_play 90 = .ok (.aload_n 0, 1) := by decide +kernel
theorem dX5_play_91 : decode cX5_play 91 = .ok (.dup, 1) := by decide +kernel
theorem dX5_play_92 : decode cX5_play 92 = .ok (.getfield 31, 3) := by decide +kernel
theorem dX5_play_95 : decode cX5_play 95 = .ok (.iload_n 3, 1) := by decide +kernel
theorem dX5_play_96 : decode cX5_play 96 = .ok (.iadd, 1) := by decide +kernel
theorem dX5_play_97 : decode cX5_play 97 = .ok (.putfield 31, 3) := by decide +kernel
theorem dX5_play_100 : decode cX5_play 100 = .ok (.aload_n 0, 1) := by decide +kernel
theorem dX5_play_101 : decode cX5_play 101 = .ok (.getfield 22, 3) := by decide +kernel
theorem dX5_play_104 : decode cX5_play 104 = .ok (.iload_n 1, 1) := by decide +kernel
theorem dX5_play_105 : decode cX5_play 105 = .ok (.dup2, 1) := by decide +kernel
theorem dX5_play_106 : decode cX5_play 106 = .ok (.iaload, 1) := by decide +kernel
theorem dX5_play_107 : decode cX5_play 107 = .ok (.iload_n 3, 1) := by decide +kernel
theorem dX5_play_108 : decode cX5_play 108 = .ok (.iadd, 1) := by decide +kernel
theorem dX5_play_109 : decode cX5_play 109 = .ok (.iastore, 1) := by decide +kernel
theorem dX5_play_110 : decode cX5_play 110 = .ok (.aload_n 0, 1) := by decide +kernel
theorem dX5_play_111 : decode cX5_play 111 = .ok (.getfield 25, 3) := by decide +kernel
theorem dX5_play_114 : decode cX5_play 114 = .ok (.bipush 6, 2) := by decide +kernel
theorem dX5_play_116 : decode cX5_play 116 = .ok (.iload_n 1, 1) := by decide +kernel
theorem dX5_play_117 : decode cX5_play 117 = .ok (.imul, 1) := by decide +kernel
theorem dX5_play_118 : decode cX5_play 118 = .ok (.iload_n 2, 1) := by decide +kernel
theorem dX5_play_119 : decode cX5_play 119 = .ok (.iadd, 1) := by decide +kernel
theorem dX5_play_120 : decode cX5_play 120 = .ok (.dup2, 1) := by decide +kernel
theorem dX5_play_121 : decode cX5_play 121 = .ok (.iaload, 1) := by decide +kernel
theorem dX5_play_122 : decode cX5_play 122 = .ok (.iconst 1, 1) := by decide +kernel
theorem dX5_play_123 : decode cX5_play 123 = .ok (.iadd, 1) := by decide +kernel
theorem dX5_play_124 : decode cX5_play 124 = .ok (.iastore, 1) := by decide +kernel
theorem dX5_play_125 : decode cX5_play 125 = .ok (.aload_n 0, 1) := by decide +kernel
theorem dX5_play_126 : decode cX5_play 126 = .ok (.iload_n 2, 1) := by decide +kernel
theorem dX5_play_127 : decode cX5_play 127 = .ok (.aload_n 0, 1) := by decide +kernel
theorem dX5_play_128 : decode cX5_play 128 = .ok (.getfield 38, 3) := by decide +kernel
theorem dX5_play_131 : decode cX5_play 131 = .ok (.invokevirtual 107, 3) := by decide +kernel
theorem dX5_play_134 : decode cX5_play 134 = .ok (.iload_n 3, 1) := by decide +kernel
theorem dX5_play_135 : decode cX5_play 135 = .ok (.ireturn, 1) := by decide +kernel
theorem dX5_tune_0 : decode cX5_tune 0 = .ok (.aload_n 0, 1) := by decide +kernel
theorem dX5_tune_1 : decode cX5_tune 1 = .ok (.iconst 0, 1) := by decide +kernel
theorem dX5_tune_2 : decode cX5_tune 2 = .ok (.putfield 45, 3) := by decide +kernel
theorem dX5_tune_5 : decode cX5_tune 5 = .ok (.iload_n 1, 1) := by decide +kernel
theorem dX5_tune_6 : decode cX5_tune 6 = .ok (.invokestatic 75, 3) := by decide +kernel
theorem dX5_tune_9 : decode cX5_tune 9 = .ok (.ifCond .ne 9, 3) := by decide +kernel
theorem dX5_tune_12 : decode cX5_tune 12 = .ok (.aload_n 0, 1) := by decide +kernel
theorem dX5_tune_13 : decode cX5_tune 13 = .ok (.iconst 1, 1) := by decide +kernel
theorem dX5_tune_14 : decode cX5_tune 14 = .ok (.invokevirtual 67, 3) := by decide +kernel
theorem dX5_tune_17 : decode cX5_tune 17 = .ok (.ireturn, 1) := by decide +kernel
theorem dX5_tune_18 : decode cX5_tune 18 = .ok (.iload_n 2, 1) := by decide +kernel
theorem dX5_tune_19 : decode cX5_tune 19 = .ok (.bipush (-120), 2) := by decide +kernel
theorem dX5_tune_21 : decode cX5_tune 21 = .ok (.bipush 120, 2) := by decide +kernel
theorem dX5_tune_23 : decode cX5_tune 23 = .ok (.invokestatic 60, 3) := by decide +kernel
theorem dX5_tune_26 : decode cX5_tune 26 = .ok (.ifCond .ne 9, 3) := by decide +kernel
theorem dX5_tune_29 : decode cX5_tune 29 = .ok (.aload_n 0, 1) := by decide +kernel
theorem dX5_tune_30 : decode cX5_tune 30 = .ok (.iconst 2, 1) := by decide +kernel
theorem dX5_tune_31 : decode cX5_tune 31 = .ok (.invokevirtual 67, 3) := by decide +kernel
theorem dX5_tune_34 : decode cX5_tune 34 = .ok (.ireturn, 1) := by decide +kernel
theorem dX5_tune_35 : decode cX5_tune 35 = .ok (.aload_n 0, 1) := by decide +kernel
theorem dX5_tune_36 : decode cX5_tune 36 = .ok (.getfield 38, 3) := by decide +kernel
theorem dX5_tune_39 : decode cX5_tune 39 = .ok (.getfield 110, 3) := by decide +kernel
theorem dX5_tune_42 : decode cX5_tune 42 = .ok (.iload_n 1, 1) := by decide +kernel
theorem dX5_tune_43 : decode cX5_tune 43 = .ok (.aload_n 0, 1) := by decide +kernel
theorem dX5_tune_44 : decode cX5_tune 44 = .ok (.getfield 38, 3) := by decide +kernel
theorem dX5_tune_47 : decode cX5_tune 47 = .ok (.getfield 110, 3) := by decide +kernel
theorem dX5_tune_50 : decode cX5_tune 50 = .ok (.iload_n 1, 1) := by decide +kernel
theorem dX5_tune_51 : decode cX5_tune 51 = .ok (.iaload, 1) := by decide +kernel
theorem dX5_tune_52 : decode cX5_tune 52 = .ok (.iload_n 2, 1) := by decide +kernel
theorem dX5_tune_53 : decode cX5_tune 53 = .ok (.iadd, 1) := by decide +kernel
theorem dX5_tune_54 : decode cX5_tune 54 = .ok (.invokestatic 113, 3) := by decide +kernel
theorem dX5_tune_57 : decode cX5_tune 57 = .ok (.iastore, 1) := by decide +kernel
theorem dX5_tune_58 : decode cX5_tune 58 = .ok (.aload_n 0, 1) := by decide +kernel
theorem dX5_tune_59 : decode cX5_tune 59 = .ok (.getfield 38, 3) := by decide +kernel
theorem dX5_tune_62 : decode cX5_tune 62 = .ok (.getfield 110, 3) := by decide +kernel
theorem dX5_tune_65 : decode cX5_tune 65 = .ok (.iload_n 1, 1) := by decide +kernel
theorem dX5_tune_66 : decode cX5_tune 66 = .ok (.iaload, 1) := by decide +kernel
theorem dX5_tune_67 : decode cX5_tune 67 = .ok (.ireturn, 1) := by decide +kernel
theorem dX5_felt_0 : decode cX5_felt 0 = .ok (.aload_n 0, 1) := by decide +kernel
theorem dX5_felt_1 : decode cX5_felt 1 = .ok (.iconst 0, 1) := by decide +kernel
theorem dX5_felt_2 : decode cX5_felt 2 = .ok (.putfield 45, 3) := by decide +kernel
theorem dX5_felt_5 : decode cX5_felt 5 = .ok (.iload_n 1, 1) := by decide +kernel
theorem dX5_felt_6 : decode cX5_felt 6 = .ok (.invokestatic 75, 3) := by decide +kernel
theorem dX5_felt_9 : decode cX5_felt 9 = .ok (.ifCond .ne 9, 3) := by decide +kernel
theorem dX5_felt_12 : decode cX5_felt 12 = .ok (.aload_n 0, 1) := by decide +kernel
theorem dX5_felt_13 : decode cX5_felt 13 = .ok (.iconst 1, 1) := by decide +kernel
theorem dX5_felt_14 : decode cX5_felt 14 = .ok (.invokevirtual 67, 3) := by decide +kernel
theorem dX5_felt_17 : decode cX5_felt 17 = .ok (.ireturn, 1) := by decide +kernel
theorem dX5_felt_18 : decode cX5_felt 18 = .ok (.aload_n 0, 1) := by decide +kernel
theorem dX5_felt_19 : decode cX5_felt 19 = .ok (.getfield 31, 3) := by decide +kernel
theorem dX5_felt_22 : decode cX5_felt 22 = .ok (.iconst 4, 1) := by decide +kernel
theorem dX5_felt_23 : decode cX5_felt 23 = .ok (.if_icmp .ge 9, 3) := by decide +kernel
theorem dX5_felt_26 : decode cX5_felt 26 = .ok (.aload_n 0, 1) := by decide +kernel
theorem dX5_felt_27 : decode cX5_felt 27 = .ok (.iconst 2, 1) := by decide +kernel
theorem dX5_felt_28 : decode cX5_felt 28 = .ok (.invokevirtual 67, 3) := by decide +kernel
theorem dX5_felt_31 : decode cX5_felt 31 = .ok (.ireturn, 1) := by decide +kernel
theorem dX5_felt_32 : decode cX5_felt 32 = .ok (.aload_n 0, 1) := by decide +kernel
theorem dX5_felt_33 : decode cX5_felt 33 = .ok (.dup, 1) := by decide +kernel
theorem dX5_felt_34 : decode cX5_felt 34 = .ok (.getfield 31, 3) := by decide +kernel
theorem dX5_felt_37 : decode cX5_felt 37 = .ok (.iconst 4, 1) := by decide +kernel
theorem dX5_felt_38 : decode cX5_felt 38 = .ok (.isub, 1) := by decide +kernel
theorem dX5_felt_39 : decode cX5_felt 39 = .ok (.putfield 31, 3) := by decide +kernel
theorem dX5_felt_42 : decode cX5_felt 42 = .ok (.aload_n 0, 1) := by decide +kernel
theorem dX5_felt_43 : decode cX5_felt 43 = .ok (.getfield 38, 3) := by decide +kernel
theorem dX5_felt_46 : decode cX5_felt 46 = .ok (.getfield 116, 3) := by decide +kernel
theorem dX5_felt_49 : decode cX5_felt 49 = .ok (.iload_n 1, 1) := by decide +kernel
theorem dX5_felt_50 : decode cX5_felt 50 = .ok (.iaload, 1) := by decide +kernel
theorem dX5_felt_51 : decode cX5_felt 51 = .ok (.istore_n 2, 1) := by decide +kernel
theorem dX5_felt_52 : decode cX5_felt 52 = .ok (.aload_n 0, 1) := by decide +kernel
theorem dX5_felt_53 : decode cX5_felt 53 = .ok (.getfield 38, 3) := by decide +kernel
theorem dX5_felt_56 : decode cX5_felt 56 = .ok (.getfield 116, 3) := by decide +kernel
theorem dX5_felt_59 : decode cX5_felt 59 = .ok (.iload_n 1, 1) := by decide +kernel
theorem dX5_felt_60 : decode cX5_felt 60 = .ok (.iconst 0, 1) := by decide +kernel
theorem dX5_felt_61 : decode cX5_felt 61 = .ok (.iastore, 1) := by decide +kernel
theorem dX5_felt_62 : decode cX5_felt 62 = .ok (.iload_n 2, 1) := by decide +kernel
theorem dX5_felt_63 : decode cX5_felt 63 = .ok (.ireturn, 1) := by decide +kernel
theorem dX5_chase_0 : decode cX5_chase 0 = .ok (.aload_n 0, 1) := by decide +kernel
theorem dX5_chase_1 : decode cX5_chase 1 = .ok (.iconst 0, 1) := by decide +kernel
theorem dX5_chase_2 : decode cX5_chase 2 = .ok (.putfield 45, 3) := by decide +kernel
theorem dX5_chase_5 : decode cX5_chase 5 = .ok (.aload_n 0, 1) := by decide +kernel
theorem dX5_chase_6 : decode cX5_chase 6 = .ok (.getfield 38, 3) := by decide +kernel
theorem dX5_chase_9 : decode cX5_chase 9 = .ok (.invokevirtual 119, 3) := by decide +kernel
theorem dX5_chase_12 : decode cX5_chase 12 = .ok (.istore_n 1, 1) := by decide +kernel
theorem dX5_chase_13 : decode cX5_chase 13 = .ok (.iconst 0, 1) := by decide +kernel
theorem dX5_chase_14 : decode cX5_chase 14 = .ok (.istore_n 2, 1) := by decide +kernel
theorem dX5_chase_15 : decode cX5_chase 15 = .ok (.iload_n 2, 1) := by decide +kernel
theorem dX5_chase_16 : decode cX5_chase 16 = .ok (.bipush 12, 2) := by decide +kernel
theorem dX5_chase_18 : decode cX5_chase 18 = .ok (.if_icmp .ge 19, 3) := by decide +kernel
theorem dX5_chase_21 : decode cX5_chase 21 = .ok (.aload_n 0, 1) := by decide +kernel
theorem dX5_chase_22 : decode cX5_chase 22 = .ok (.getfield 38, 3) := by decide +kernel
theorem dX5_chase_25 : decode cX5_chase 25 = .ok (.getfield 123, 3) := by decide +kernel
theorem dX5_chase_28 : decode cX5_chase 28 = .ok (.iload_n 2, 1) := by decide +kernel
theorem dX5_chase_29 : decode cX5_chase 29 = .ok (.iconst 0, 1) := by decide +kernel
theorem dX5_chase_30 : decode cX5_chase 30 = .ok (.iastore, 1) := by decide +kernel
theorem dX5_chase_31 : decode cX5_chase 31 = .ok (.iinc 2 1, 3) := by decide +kernel
theorem dX5_chase_34 : decode cX5_chase 34 = .ok (.goto (-19), 3) := by decide +kernel
theorem dX5_chase_37 : decode cX5_chase 37 = .ok (.iload_n 1, 1) := by decide +kernel
theorem dX5_chase_38 : decode cX5_chase 38 = .ok (.ireturn, 1) := by decide +kernel
theorem dX5_pipeTold_0 : decode cX5_pipeTold 0 = .ok (.iload_n 2, 1) := by decide +kernel
theorem dX5_pipeTold_1 : decode cX5_pipeTold 1 = .ok (.ifCond .ne 15, 3) := by decide +kernel
theorem dX5_pipeTold_4 : decode cX5_pipeTold 4 = .ok (.aload_n 0, 1) := by decide +kernel
theorem dX5_pipeTold_5 : decode cX5_pipeTold 5 = .ok (.getfield 38, 3) := by decide +kernel
theorem dX5_pipeTold_8 : decode cX5_pipeTold 8 = .ok (.getfield 116, 3) := by decide +kernel
theorem dX5_pipeTold_11 : decode cX5_pipeTold 11 = .ok (.iload_n 1, 1) := by decide +kernel
theorem dX5_pipeTold_12 : decode cX5_pipeTold 12 = .ok (.iaload, 1) := by decide +kernel
theorem dX5_pipeTold_13 : decode cX5_pipeTold 13 = .ok (.goto 62, 3) := by decide +kernel
theorem dX5_pipeTold_16 : decode cX5_pipeTold 16 = .ok (.iload_n 2, 1) := by decide +kernel
theorem dX5_pipeTold_17 : decode cX5_pipeTold 17 = .ok (.iconst 1, 1) := by decide +kernel
theorem dX5_pipeTold_18 : decode cX5_pipeTold 18 = .ok (.if_icmp .ne 15, 3) := by decide +kernel
theorem dX5_pipeTold_21 : decode cX5_pipeTold 21 = .ok (.aload_n 0, 1) := by decide +kernel
theorem dX5_pipeTold_22 : decode cX5_pipeTold 22 = .ok (.getfield 38, 3) := by decide +kernel
theorem dX5_pipeTold_25 : decode cX5_pipeTold 25 = .ok (.getfield 110, 3) := by decide +kernel
theorem dX5_pipeTold_28 : decode cX5_pipeTold 28 = .ok (.iload_n 1, 1) := by decide +kernel
theorem dX5_pipeTold_29 : decode cX5_pipeTold 29 = .ok (.iaload, 1) := by decide +kernel
theorem dX5_pipeTold_30 : decode cX5_pipeTold 30 = .ok (.goto 45, 3) := by decide +kernel
theorem dX5_pipeTold_33 : decode cX5_pipeTold 33 = .ok (.iload_n 2, 1) := by decide +kernel
theorem dX5_pipeTold_34 : decode cX5_pipeTold 34 = .ok (.iconst 2, 1) := by decide +kernel
theorem dX5_pipeTold_35 : decode cX5_pipeTold 35 = .ok (.if_icmp .ne 15, 3) := by decide +kernel
theorem dX5_pipeTold_38 : decode cX5_pipeTold 38 = .ok (.aload_n 0, 1) := by decide +kernel
theorem dX5_pipeTold_39 : decode cX5_pipeTold 39 = .ok (.getfield 38, 3) := by decide +kernel
theorem dX5_pipeTold_42 : decode cX5_pipeTold 42 = .ok (.getfield 123, 3) := by decide +kernel
theorem dX5_pipeTold_45 : decode cX5_pipeTold 45 = .ok (.iload_n 1, 1) := by decide +kernel
theorem dX5_pipeTold_46 : decode cX5_pipeTold 46 = .ok (.iaload, 1) := by decide +kernel
theorem dX5_pipeTold_47 : decode cX5_pipeTold 47 = .ok (.goto 28, 3) := by decide +kernel
theorem dX5_pipeTold_50 : decode cX5_pipeTold 50 = .ok (.iload_n 2, 1) := by decide +kernel
theorem dX5_pipeTold_51 : decode cX5_pipeTold 51 = .ok (.iconst 3, 1) := by decide +kernel
theorem dX5_pipeTold_52 : decode cX5_pipeTold 52 = .ok (.if_icmp .ne 14, 3) := by decide +kernel
theorem dX5_pipeTold_55 : decode cX5_pipeTold 55 = .ok (.aload_n 0, 1) := by decide +kernel
theorem dX5_pipeTold_56 : decode cX5_pipeTold 56 = .ok (.getfield 38, 3) := by decide +kernel
theorem dX5_pipeTold_59 : decode cX5_pipeTold 59 = .ok (.iload_n 1, 1) := by decide +kernel
theorem dX5_pipeTold_60 : decode cX5_pipeTold 60 = .ok (.invokevirtual 84, 3) := by decide +kernel
theorem dX5_pipeTold_63 : decode cX5_pipeTold 63 = .ok (.goto 12, 3) := by decide +kernel
theorem dX5_pipeTold_66 : decode cX5_pipeTold 66 = .ok (.aload_n 0, 1) := by decide +kernel
theorem dX5_pipeTold_67 : decode cX5_pipeTold 67 = .ok (.getfield 38, 3) := by decide +kernel
theorem dX5_pipeTold_70 : decode cX5_pipeTold 70 = .ok (.getfield 126, 3) := by decide +kernel
theorem dX5_pipeTold_73 : decode cX5_pipeTold 73 = .ok (.iload_n 1, 1) := by decide +kernel
theorem dX5_pipeTold_74 : decode cX5_pipeTold 74 = .ok (.iaload, 1) := by decide +kernel
theorem dX5_pipeTold_75 : decode cX5_pipeTold 75 = .ok (.ireturn, 1) := by decide +kernel
theorem dX5_pipe_0 : decode cX5_pipe 0 = .ok (.aload_n 0, 1) := by decide +kernel
theorem dX5_pipe_1 : decode cX5_pipe 1 = .ok (.iconst 0, 1) := by decide +kernel
theorem dX5_pipe_2 : decode cX5_pipe 2 = .ok (.putfield 45, 3) := by decide +kernel
theorem dX5_pipe_5 : decode cX5_pipe 5 = .ok (.iload_n 1, 1) := by decide +kernel
theorem dX5_pipe_6 : decode cX5_pipe 6 = .ok (.invokestatic 75, 3) := by decide +kernel
theorem dX5_pipe_9 : decode cX5_pipe 9 = .ok (.ifCond .eq 21, 3) := by decide +kernel
theorem dX5_pipe_12 : decode cX5_pipe 12 = .ok (.iload_n 2, 1) := by decide +kernel
theorem dX5_pipe_13 : decode cX5_pipe 13 = .ok (.iconst 0, 1) := by decide +kernel
theorem dX5_pipe_14 : decode cX5_pipe 14 = .ok (.iconst 4, 1) := by decide +kernel
theorem dX5_pipe_15 : decode cX5_pipe 15 = .ok (.invokestatic 60, 3) := by decide +kernel
theorem dX5_pipe_18 : decode cX5_pipe 18 = .ok (.ifCond .eq 12, 3) := by decide +kernel
theorem dX5_pipe_21 : decode cX5_pipe 21 = .ok (.aload_n 0, 1) := by decide +kernel
theorem dX5_pipe_22 : decode cX5_pipe 22 = .ok (.iload_n 1, 1) := by decide +kernel
theorem dX5_pipe_23 : decode cX5_pipe 23 = .ok (.iload_n 2, 1) := by decide +kernel
theorem dX5_pipe_24 : decode cX5_pipe 24 = .ok (.invokevirtual 129, 3) := by decide +kernel
theorem dX5_pipe_27 : decode cX5_pipe 27 = .ok (.goto 8, 3) := by decide +kernel
theorem dX5_pipe_30 : decode cX5_pipe 30 = .ok (.aload_n 0, 1) := by decide +kernel
theorem dX5_pipe_31 : decode cX5_pipe 31 = .ok (.iconst 1, 1) := by decide +kernel
theorem dX5_pipe_32 : decode cX5_pipe 32 = .ok (.invokevirtual 67, 3) := by decide +kernel
theorem dX5_pipe_35 : decode cX5_pipe 35 = .ok (.ireturn, 1) := by decide +kernel
theorem dX5_sound_0 : decode cX5_sound 0 = .ok (.aload_n 0, 1) := by decide +kernel
theorem dX5_sound_1 : decode cX5_sound 1 = .ok (.iconst 0, 1) := by decide +kernel
theorem dX5_sound_2 : decode cX5_sound 2 = .ok (.putfield 45, 3) := by decide +kernel
theorem dX5_sound_5 : decode cX5_sound 5 = .ok (.aload_n 0, 1) := by decide +kernel
theorem dX5_sound_6 : decode cX5_sound 6 = .ok (.iload_n 1, 1) := by decide +kernel
theorem dX5_sound_7 : decode cX5_sound 7 = .ok (.invokevirtual 71, 3) := by decide +kernel
theorem dX5_sound_10 : decode cX5_sound 10 = .ok (.ifCond .eq 16, 3) := by decide +kernel
theorem dX5_sound_13 : decode cX5_sound 13 = .ok (.aload_n 0, 1) := by decide +kernel
theorem dX5_sound_14 : decode cX5_sound 14 = .ok (.iload_n 1, 1) := by decide +kernel
theorem dX5_sound_15 : decode cX5_sound 15 = .ok (.aload_n 0, 1) := by decide +kernel
theorem dX5_sound_16 : decode cX5_sound 16 = .ok (.getfield 38, 3) := by decide +kernel
theorem dX5_sound_19 : decode cX5_sound 19 = .ok (.iconst (-1), 1) := by decide +kernel
theorem dX5_sound_20 : decode cX5_sound 20 = .ok (.invokevirtual 87, 3) := by decide +kernel
theorem dX5_sound_23 : decode cX5_sound 23 = .ok (.goto 8, 3) := by decide +kernel
theorem dX5_sound_26 : decode cX5_sound 26 = .ok (.aload_n 0, 1) := by decide +kernel
theorem dX5_sound_27 : decode cX5_sound 27 = .ok (.iconst 1, 1) := by decide +kernel
theorem dX5_sound_28 : decode cX5_sound 28 = .ok (.invokevirtual 67, 3) := by decide +kernel
theorem dX5_sound_31 : decode cX5_sound 31 = .ok (.ireturn, 1) := by decide +kernel
theorem dX5_streetTold_0 : decode cX5_streetTold 0 = .ok (.iconst 0, 1) := by decide +kernel
theorem dX5_streetTold_1 : decode cX5_streetTold 1 = .ok (.istore_n 3, 1) := by decide +kernel
theorem dX5_streetTold_2 : decode cX5_streetTold 2 = .ok (.iconst 0, 1) := by decide +kernel
theorem dX5_streetTold_3 : decode cX5_streetTold 3 = .ok (.istore 4, 2) := by decide +kernel
theorem dX5_streetTold_5 : decode cX5_streetTold 5 = .ok (.iload 4, 2) := by decide +kernel
theorem dX5_streetTold_7 : decode cX5_streetTold 7 = .ok (.aload_n 0, 1) := by decide +kernel
theorem dX5_streetTold_8 : decode cX5_streetTold 8 = .ok (.getfield 57, 3) := by decide +kernel
theorem dX5_streetTold_11 : decode cX5_streetTold 11 = .ok (.if_icmp .ge 24, 3) := by decide +kernel
theorem dX5_streetTold_14 : decode cX5_streetTold 14 = .ok (.iload_n 3, 1) := by decide +kernel
theorem dX5_streetTold_15 : decode cX5_streetTold 15 = .ok (.aload_n 0, 1) := by decide +kernel
theorem dX5_streetTold_16 : decode cX5_streetTold 16 = .ok (.getfield 25, 3) := by decide +kernel
theorem dX5_streetTold_19 : decode cX5_streetTold 19 = .ok (.bipush 6, 2) := by decide +kernel
theorem dX5_streetTold_21 : decode cX5_streetTold 21 = .ok (.iload_n 1, 1) := by decide +kernel
theorem dX5_streetTold_22 : decode cX5_streetTold 22 = .ok (.imul, 1) := by decide +kernel
theorem dX5_streetTold_23 : decode cX5_streetTold 23 = .ok (.iload 4, 2) := by decide +kernel
theorem dX5_streetTold_25 : decode cX5_streetTold 25 = .ok (.iadd, 1) := by decide +kernel
theorem dX5_streetTold_26 : decode cX5_streetTold 26 = .ok (.iaload, 1) := by decide +kernel
theorem dX5_streetTold_27 : decode cX5_streetTold 27 = .ok (.iadd, 1) := by decide +kernel
theorem dX5_streetTold_28 : decode cX5_streetTold 28 = .ok (.istore_n 3, 1) := by decide +kernel
theorem dX5_streetTold_29 : decode cX5_streetTold 29 = .ok (.iinc 4 1, 3) := by decide +kernel
theorem dX5_streetTold_32 : decode cX5_streetTold 32 = .ok (.goto (-27), 3) := by decide +kernel
theorem dX5_streetTold_35 : decode cX5_streetTold 35 = .ok (.iconst 5, 1) := by decide +kernel
theorem dX5_streetTold_36 : decode cX5_streetTold 36 = .ok (.newarray .int, 2) := by decide +kernel
theorem dX5_streetTold_38 : decode cX5_streetTold 38 = .ok (.dup, 1) := by decide +kernel
theorem dX5_streetTold_39 : decode cX5_streetTold 39 = .ok (.iconst 0, 1) := by decide +kernel
theorem dX5_streetTold_40 : decode cX5_streetTold 40 = .ok (.aload_n 0, 1) := by decide +kernel
theorem dX5_streetTold_41 : decode cX5_streetTold 41 = .ok (.getfield 16, 3) := by decide +kernel
theorem dX5_streetTold_44 : decode cX5_streetTold 44 = .ok (.iload_n 1, 1) := by decide +kernel
theorem dX5_streetTold_45 : decode cX5_streetTold 45 = .ok (.iaload, 1) := by decide +kernel
theorem dX5_streetTold_46 : decode cX5_streetTold 46 = .ok (.iastore, 1) := by decide +kernel
theorem dX5_streetTold_47 : decode cX5_streetTold 47 = .ok (.dup, 1) := by decide +kernel
theorem dX5_streetTold_48 : decode cX5_streetTold 48 = .ok (.iconst 1, 1) := by decide +kernel
theorem dX5_streetTold_49 : decode cX5_streetTold 49 = .ok (.aload_n 0, 1) := by decide +kernel
theorem dX5_streetTold_50 : decode cX5_streetTold 50 = .ok (.getfield 19, 3) := by decide +kernel
theorem dX5_streetTold_53 : decode cX5_streetTold 53 = .ok (.iload_n 1, 1) := by decide +kernel
theorem dX5_streetTold_54 : decode cX5_streetTold 54 = .ok (.iaload, 1) := by decide +kernel
theorem dX5_streetTold_55 : decode cX5_streetTold 55 = .ok (.iastore, 1) := by decide +kernel
theorem dX5_streetTold_56 : decode cX5_streetTold 56 = .ok (.dup, 1) := by decide +kernel
theorem dX5_streetTold_57 : decode cX5_streetTold 57 = .ok (.iconst 2, 1) := by decide +kernel
theorem dX5_streetTold_58 : decode cX5_streetTold 58 = .ok (.aload_n 0, 1) := by decide +kernel
theorem dX5_streetTold_59 : decode cX5_streetTold 59 = .ok (.iload_n 1, 1) := by decide +kernel
theorem dX5_streetTold_60 : decode cX5_streetTold 60 = .ok (.invokevirtual 98, 3) := by decide +kernel
theorem dX5_streetTold_63 : decode cX5_streetTold 63 = .ok (.ifCond .eq 7, 3) := by decide +kernel
theorem dX5_streetTold_66 : decode cX5_streetTold 66 = .ok (.iconst 1, 1) := by decide +kernel
theorem dX5_streetTold_67 : decode cX5_streetTold 67 = .ok (.goto 4, 3) := by decide +kernel
theorem dX5_streetTold_70 : decode cX5_streetTold 70 = .ok (.iconst 0, 1) := by decide +kernel
theorem dX5_streetTold_71 : decode cX5_streetTold 71 = .ok (.iastore, 1) := by decide +kernel
theorem dX5_streetTold_72 : decode cX5_streetTold 72 = .ok (.dup, 1) := by decide +kernel
theorem dX5_streetTold_73 : decode cX5_streetTold 73 = .ok (.iconst 3, 1) := by decide +kernel
theorem dX5_streetTold_74 : decode cX5_streetTold 74 = .ok (.aload_n 0, 1) := by decide +kernel
theorem dX5_streetTold_75 : decode cX5_streetTold 75 = .ok (.getfield 22, 3) := by decide +kernel
theorem dX5_streetTold_78 : decode cX5_streetTold 78 = .ok (.iload_n 1, 1) := by decide +kernel
theorem dX5_streetTold_79 : decode cX5_streetTold 79 = .ok (.iaload, 1) := by decide +kernel
theorem dX5_streetTold_80 : decode cX5_streetTold 80 = .ok (.iastore, 1) := by decide +kernel
theorem dX5_streetTold_81 : decode cX5_streetTold 81 = .ok (.dup, 1) := by decide +kernel
theorem dX5_streetTold_82 : decode cX5_streetTold 82 = .ok (.iconst 4, 1) := by decide +kernel
theorem dX5_streetTold_83 : decode cX5_streetTold 83 = .ok (.iload_n 3, 1) := by decide +kernel
theorem dX5_streetTold_84 : decode cX5_streetTold 84 = .ok (.iastore, 1) := by decide +kernel
theorem dX5_streetTold_85 : decode cX5_streetTold 85 = .ok (.astore 4, 2) := by decide +kernel
theorem dX5_streetTold_87 : decode cX5_streetTold 87 = .ok (.aload 4, 2) := by decide +kernel
theorem dX5_streetTold_89 : decode cX5_streetTold 89 = .ok (.iload_n 2, 1) := by decide +kernel
theorem dX5_streetTold_90 : decode cX5_streetTold 90 = .ok (.iaload, 1) := by decide +kernel
theorem dX5_streetTold_91 : decode cX5_streetTold 91 = .ok (.ireturn, 1) := by decide +kernel
theorem dX5_told_0 : decode cX5_told 0 = .ok (.aload_n 0, 1) := by decide +kernel
theorem dX5_told_1 : decode cX5_told 1 = .ok (.iconst 0, 1) := by decide +kernel
theorem dX5_told_2 : decode cX5_told 2 = .ok (.putfield 45, 3) := by decide +kernel
theorem dX5_told_5 : decode cX5_told 5 = .ok (.aload_n 0, 1) := by decide +kernel
theorem dX5_told_6 : decode cX5_told 6 = .ok (.iload_n 1, 1) := by decide +kernel
theorem dX5_told_7 : decode cX5_told 7 = .ok (.invokevirtual 81, 3) := by decide +kernel
theorem dX5_told_10 : decode cX5_told 10 = .ok (.ifCond .eq 21, 3) := by decide +kernel
theorem dX5_told_13 : decode cX5_told 13 = .ok (.iload_n 2, 1) := by decide +kernel
theorem dX5_told_14 : decode cX5_told 14 = .ok (.iconst 0, 1) := by decide +kernel
theorem dX5_told_15 : decode cX5_told 15 = .ok (.iconst 4, 1) := by decide +kernel
theorem dX5_told_16 : decode cX5_told 16 = .ok (.invokestatic 60, 3) := by decide +kernel
theorem dX5_told_19 : decode cX5_told 19 = .ok (.ifCond .eq 12, 3) := by decide +kernel
theorem dX5_told_22 : decode cX5_told 22 = .ok (.aload_n 0, 1) := by decide +kernel
theorem dX5_told_23 : decode cX5_told 23 = .ok (.iload_n 1, 1) := by decide +kernel
theorem dX5_told_24 : decode cX5_told 24 = .ok (.iload_n 2, 1) := by decide +kernel
theorem dX5_told_25 : decode cX5_told 25 = .ok (.invokevirtual 132, 3) := by decide +kernel
theorem dX5_told_28 : decode cX5_told 28 = .ok (.goto 8, 3) := by decide +kernel
theorem dX5_told_31 : decode cX5_told 31 = .ok (.aload_n 0, 1) := by decide +kernel
theorem dX5_told_32 : decode cX5_told 32 = .ok (.iconst 1, 1) := by decide +kernel
theorem dX5_told_33 : decode cX5_told 33 = .ok (.invokevirtual 67, 3) := by decide +kernel
theorem dX5_told_36 : decode cX5_told 36 = .ok (.ireturn, 1) := by decide +kernel
theorem dX5_counted_0 : decode cX5_counted 0 = .ok (.bipush 9, 2) := by decide +kernel
theorem dX5_counted_2 : decode cX5_counted 2 = .ok (.newarray .int, 2) := by decide +kernel
theorem dX5_counted_4 : decode cX5_counted 4 = .ok (.dup, 1) := by decide +kernel
theorem dX5_counted_5 : decode cX5_counted 5 = .ok (.iconst 0, 1) := by decide +kernel
theorem dX5_counted_6 : decode cX5_counted 6 = .ok (.aload_n 0, 1) := by decide +kernel
theorem dX5_counted_7 : decode cX5_counted 7 = .ok (.getfield 38, 3) := by decide +kernel
theorem dX5_counted_10 : decode cX5_counted 10 = .ok (.getfield 91, 3) := by decide +kernel
theorem dX5_counted_13 : decode cX5_counted 13 = .ok (.iastore, 1) := by decide +kernel
theorem dX5_counted_14 : decode cX5_counted 14 = .ok (.dup, 1) := by decide +kernel
theorem dX5_counted_15 : decode cX5_counted 15 = .ok (.iconst 1, 1) := by decide +kernel
theorem dX5_counted_16 : decode cX5_counted 16 = .ok (.aload_n 0, 1) := by decide +kernel
theorem dX5_counted_17 : decode cX5_counted 17 = .ok (.getfield 38, 3) := by decide +kernel
theorem dX5_counted_20 : decode cX5_counted 20 = .ok (.getfield 91, 3) := by decide +kernel
theorem dX5_counted_23 : decode cX5_counted 23 = .ok (.bipush 7, 2) := by decide +kernel
theorem dX5_counted_25 : decode cX5_counted 25 = .ok (.irem, 1) := by decide +kernel
theorem dX5_counted_26 : decode cX5_counted 26 = .ok (.iastore, 1) := by decide +kernel
theorem dX5_counted_27 : decode cX5_counted 27 = .ok (.dup, 1) := by decide +kernel
theorem dX5_counted_28 : decode cX5_counted 28 = .ok (.iconst 2, 1) := by decide +kernel
theorem dX5_counted_29 : decode cX5_counted 29 = .ok (.aload_n 0, 1) := by decide +kernel
theorem dX5_counted_30 : decode cX5_counted 30 = .ok (.getfield 31, 3) := by decide +kernel
theorem dX5_counted_33 : decode cX5_counted 33 = .ok (.iastore, 1) := by decide +kernel
theorem dX5_counted_34 : decode cX5_counted 34 = .ok (.dup, 1) := by decide +kernel
theorem dX5_counted_35 : decode cX5_counted 35 = .ok (.iconst 3, 1) := by decide +kernel
theorem dX5_counted_36 : decode cX5_counted 36 = .ok (.aload_n 0, 1) := by decide +kernel
theorem dX5_counted_37 : decode cX5_counted 37 = .ok (.getfield 57, 3) := by decide +kernel
theorem dX5_counted_40 : decode cX5_counted 40 = .ok (.iastore, 1) := by decide +kernel
theorem dX5_counted_41 : decode cX5_counted 41 = .ok (.dup, 1) := by decide +kernel
theorem dX5_counted_42 : decode cX5_counted 42 = .ok (.iconst 4, 1) := by decide +kernel
theorem dX5_counted_43 : decode cX5_counted 43 = .ok (.aload_n 0, 1) := by decide +kernel
theorem dX5_counted_44 : decode cX5_counted 44 = .ok (.getfield 64, 3) := by decide +kernel
theorem dX5_counted_47 : decode cX5_counted 47 = .ok (.iastore, 1) := by decide +kernel
theorem dX5_counted_48 : decode cX5_counted 48 = .ok (.dup, 1) := by decide +kernel
theorem dX5_counted_49 : decode cX5_counted 49 = .ok (.iconst 5, 1) := by decide +kernel
theorem dX5_counted_50 : decode cX5_counted 50 = .ok (.aload_n 0, 1) := by decide +kernel
theorem dX5_counted_51 : decode cX5_counted 51 = .ok (.getfield 38, 3) := by decide +kernel
theorem dX5_counted_54 : decode cX5_counted 54 = .ok (.invokevirtual 119, 3) := by decide +kernel
theorem dX5_counted_57 : decode cX5_counted 57 = .ok (.iastore, 1) := by decide +kernel
theorem dX5_counted_58 : decode cX5_counted 58 = .ok (.dup, 1) := by decide +kernel
theorem dX5_counted_59 : decode cX5_counted 59 = .ok (.bipush 6, 2) := by decide +kernel
theorem dX5_counted_61 : decode cX5_counted 61 = .ok (.aload_n 0, 1) := by decide +kernel
theorem dX5_counted_62 : decode cX5_counted 62 = .ok (.getfield 38, 3) := by decide +kernel
theorem dX5_counted_65 : decode cX5_counted 65 = .ok (.invokevirtual 135, 3) := by decide +kernel
theorem dX5_counted_68 : decode cX5_counted 68 = .ok (.iastore, 1) := by decide +kernel
theorem dX5_counted_69 : decode cX5_counted 69 = .ok (.dup, 1) := by decide +kernel
theorem dX5_counted_70 : decode cX5_counted 70 = .ok (.bipush 7, 2) := by decide +kernel
theorem dX5_counted_72 : decode cX5_counted 72 = .ok (.aload_n 0, 1) := by decide +kernel
theorem dX5_counted_73 : decode cX5_counted 73 = .ok (.getfield 38, 3) := by decide +kernel
theorem dX5_counted_76 : decode cX5_counted 76 = .ok (.invokevirtual 138, 3) := by decide +kernel
theorem dX5_counted_79 : decode cX5_counted 79 = .ok (.iastore, 1) := by decide +kernel
theorem dX5_counted_80 : decode cX5_counted 80 = .ok (.dup, 1) := by decide +kernel
theorem dX5_counted_81 : decode cX5_counted 81 = .ok (.bipush 8, 2) := by decide +kernel
theorem dX5_counted_83 : decode cX5_counted 83 = .ok (.aload_n 0, 1) := by decide +kernel
theorem dX5_counted_84 : decode cX5_counted 84 = .ok (.getfield 101, 3) := by decide +kernel
theorem dX5_counted_87 : decode cX5_counted 87 = .ok (.iastore, 1) := by decide +kernel
theorem dX5_counted_88 : decode cX5_counted 88 = .ok (.astore_n 2, 1) := by decide +kernel
theorem dX5_counted_89 : decode cX5_counted 89 = .ok (.aload_n 2, 1) := by decide +kernel
theorem dX5_counted_90 : decode cX5_counted 90 = .ok (.iload_n 1, 1) := by decide +kernel
theorem dX5_counted_91 : decode cX5_counted 91 = .ok (.iaload, 1) := by decide +kernel
theorem dX5_counted_92 : decode cX5_counted 92 = .ok (.ireturn, 1) := by decide +kernel
theorem dX5_count_0 : decode cX5_count 0 = .ok (.aload_n 0, 1) := by decide +kernel
theorem dX5_count_1 : decode cX5_count 1 = .ok (.iconst 0, 1) := by decide +kernel
theorem dX5_count_2 : decode cX5_count 2 = .ok (.putfield 45, 3) := by decide +kernel
theorem dX5_count_5 : decode cX5_count 5 = .ok (.iload_n 1, 1) := by decide +kernel
theorem dX5_count_6 : decode cX5_count 6 = .ok (.iconst 0, 1) := by decide +kernel
theorem dX5_count_7 : decode cX5_count 7 = .ok (.bipush 8, 2) := by decide +kernel
theorem dX5_count_9 : decode cX5_count 9 = .ok (.invokestatic 60, 3) := by decide +kernel
theorem dX5_count_12 : decode cX5_count 12 = .ok (.ifCond .eq 11, 3) := by decide +kernel
theorem dX5_count_15 : decode cX5_count 15 = .ok (.aload_n 0, 1) := by decide +kernel
theorem dX5_count_16 : decode cX5_count 16 = .ok (.iload_n 1, 1) := by decide +kernel
theorem dX5_count_17 : decode cX5_count 17 = .ok (.invokevirtual 141, 3) := by decide +kernel
theorem dX5_count_20 : decode cX5_count 20 = .ok (.goto 8, 3) := by decide +kernel
theorem dX5_count_23 : decode cX5_count 23 = .ok (.aload_n 0, 1) := by decide +kernel
theorem dX5_count_24 : decode cX5_count 24 = .ok (.iconst 1, 1) := by decide +kernel
theorem dX5_count_25 : decode cX5_count 25 = .ok (.invokevirtual 67, 3) := by decide +kernel
theorem dX5_count_28 : decode cX5_count 28 = .ok (.ireturn, 1) := by decide +kernel
theorem dX5_rest_0 : decode cX5_rest 0 = .ok (.aload_n 0, 1) := by decide +kernel
theorem dX5_rest_1 : decode cX5_rest 1 = .ok (.iconst 0, 1) := by decide +kernel
theorem dX5_rest_2 : decode cX5_rest 2 = .ok (.putfield 45, 3) := by decide +kernel
theorem dX5_rest_5 : decode cX5_rest 5 = .ok (.iload_n 1, 1) := by decide +kernel
theorem dX5_rest_6 : decode cX5_rest 6 = .ok (.iconst 1, 1) := by decide +kernel
theorem dX5_rest_7 : decode cX5_rest 7 = .ok (.bipush 60, 2) := by decide +kernel
theorem dX5_rest_9 : decode cX5_rest 9 = .ok (.invokestatic 60, 3) := by decide +kernel
theorem dX5_rest_12 : decode cX5_rest 12 = .ok (.ifCond .ne 9, 3) := by decide +kernel
theorem dX5_rest_15 : decode cX5_rest 15 = .ok (.aload_n 0, 1) := by decide +kernel
theorem dX5_rest_16 : decode cX5_rest 16 = .ok (.iconst 1, 1) := by decide +kernel
theorem dX5_rest_17 : decode cX5_rest 17 = .ok (.invokevirtual 67, 3) := by decide +kernel
theorem dX5_rest_20 : decode cX5_rest 20 = .ok (.ireturn, 1) := by decide +kernel
theorem dX5_rest_21 : decode cX5_rest 21 = .ok (.iconst 0, 1) := by decide +kernel
theorem dX5_rest_22 : decode cX5_rest 22 = .ok (.istore_n 2, 1) := by decide +kernel
theorem dX5_rest_23 : decode cX5_rest 23 = .ok (.iconst 0, 1) := by decide +kernel
theorem dX5_rest_24 : decode cX5_rest 24 = .ok (.istore_n 3, 1) := by decide +kernel
theorem dX5_rest_25 : decode cX5_rest 25 = .ok (.iload_n 3, 1) := by decide +kernel
theorem dX5_rest_26 : decode cX5_rest 26 = .ok (.iload_n 1, 1) := by decide +kernel
theorem dX5_rest_27 : decode cX5_rest 27 = .ok (.if_icmp .ge 34, 3) := by decide +kernel
theorem dX5_rest_30 : decode cX5_rest 30 = .ok (.iload_n 2, 1) := by decide +kernel
theorem dX5_rest_31 : decode cX5_rest 31 = .ok (.aload_n 0, 1) := by decide +kernel
theorem dX5_rest_32 : decode cX5_rest 32 = .ok (.getfield 38, 3) := by decide +kernel
theorem dX5_rest_35 : decode cX5_rest 35 = .ok (.aload_n 0, 1) := by decide +kernel
theorem dX5_rest_36 : decode cX5_rest 36 = .ok (.getfield 28, 3) := by decide +kernel
theorem dX5_rest_39 : decode cX5_rest 39 = .ok (.aload_n 0, 1) := by decide +kernel
theorem dX5_rest_40 : decode cX5_rest 40 = .ok (.getfield 38, 3) := by decide +kernel
theorem dX5_rest_43 : decode cX5_rest 43 = .ok (.getfield 91, 3) := by decide +kernel
theorem dX5_rest_46 : decode cX5_rest 46 = .ok (.bipush 7, 2) := by decide +kernel
theorem dX5_rest_48 : decode cX5_rest 48 = .ok (.irem, 1) := by decide +kernel
theorem dX5_rest_49 : decode cX5_rest 49 = .ok (.iaload, 1) := by decide +kernel
theorem dX5_rest_50 : decode cX5_rest 50 = .ok (.invokevirtual 144, 3) := by decide +kernel
theorem dX5_rest_53 : decode cX5_rest 53 = .ok (.iadd, 1) := by decide +kernel
theorem dX5_rest_54 : decode cX5_rest 54 = .ok (.istore_n 2, 1) := by decide +kernel
theorem dX5_rest_55 : decode cX5_rest 55 = .ok (.iinc 3 1, 3) := by decide +kernel
theorem dX5_rest_58 : decode cX5_rest 58 = .ok (.goto (-33), 3) := by decide +kernel
theorem dX5_rest_61 : decode cX5_rest 61 = .ok (.aload_n 0, 1) := by decide +kernel
theorem dX5_rest_62 : decode cX5_rest 62 = .ok (.getfield 25, 3) := by decide +kernel
theorem dX5_rest_65 : decode cX5_rest 65 = .ok (.iconst 0, 1) := by decide +kernel
theorem dX5_rest_66 : decode cX5_rest 66 = .ok (.invokestatic 147, 3) := by decide +kernel
theorem dX5_rest_69 : decode cX5_rest 69 = .ok (.iload_n 2, 1) := by decide +kernel
theorem dX5_rest_70 : decode cX5_rest 70 = .ok (.ireturn, 1) := by decide +kernel
theorem dX5_pays_0 : decode cX5_pays 0 = .ok (.aload_n 0, 1) := by decide +kernel
theorem dX5_pays_1 : decode cX5_pays 1 = .ok (.iconst 0, 1) := by decide +kernel
theorem dX5_pays_2 : decode cX5_pays 2 = .ok (.putfield 45, 3) := by decide +kernel
theorem dX5_pays_5 : decode cX5_pays 5 = .ok (.aload_n 0, 1) := by decide +kernel
theorem dX5_pays_6 : decode cX5_pays 6 = .ok (.iload_n 1, 1) := by decide +kernel
theorem dX5_pays_7 : decode cX5_pays 7 = .ok (.invokevirtual 81, 3) := by decide +kernel
theorem dX5_pays_10 : decode cX5_pays 10 = .ok (.ifCond .eq 20, 3) := by decide +kernel
theorem dX5_pays_13 : decode cX5_pays 13 = .ok (.aload_n 0, 1) := by decide +kernel
theorem dX5_pays_14 : decode cX5_pays 14 = .ok (.iload_n 2, 1) := by decide +kernel
theorem dX5_pays_15 : decode cX5_pays 15 = .ok (.invokevirtual 71, 3) := by decide +kernel
theorem dX5_pays_18 : decode cX5_pays 18 = .ok (.ifCond .eq 12, 3) := by decide +kernel
theorem dX5_pays_21 : decode cX5_pays 21 = .ok (.aload_n 0, 1) := by decide +kernel
theorem dX5_pays_22 : decode cX5_pays 22 = .ok (.iload_n 1, 1) := by decide +kernel
theorem dX5_pays_23 : decode cX5_pays 23 = .ok (.iload_n 2, 1) := by decide +kernel
theorem dX5_pays_24 : decode cX5_pays 24 = .ok (.invokevirtual 104, 3) := by decide +kernel
theorem dX5_pays_27 : decode cX5_pays 27 = .ok (.goto 8, 3) := by decide +kernel
theorem dX5_pays_30 : decode cX5_pays 30 = .ok (.aload_n 0, 1) := by decide +kernel
theorem dX5_pays_31 : decode cX5_pays 31 = .ok (.iconst 1, 1) := by decide +kernel
theorem dX5_pays_32 : decode cX5_pays 32 = .ok (.invokevirtual 67, 3) := by decide +kernel
theorem dX5_pays_35 : decode cX5_pays 35 = .ok (.ireturn, 1) := by decide +kernel
theorem dX5_best_0 : decode cX5_best 0 = .ok (.aload_n 0, 1) := by decide +kernel
theorem dX5_best_1 : decode cX5_best 1 = .ok (.iconst 0, 1) := by decide +kernel
theorem dX5_best_2 : decode cX5_best 2 = .ok (.putfield 45, 3) := by decide +kernel
theorem dX5_best_5 : decode cX5_best 5 = .ok (.aload_n 0, 1) := by decide +kernel
theorem dX5_best_6 : decode cX5_best 6 = .ok (.iload_n 1, 1) := by decide +kernel
theorem dX5_best_7 : decode cX5_best 7 = .ok (.invokevirtual 81, 3) := by decide +kernel
theorem dX5_best_10 : decode cX5_best 10 = .ok (.ifCond .ne 9, 3) := by decide +kernel
theorem dX5_best_13 : decode cX5_best 13 = .ok (.aload_n 0, 1) := by decide +kernel
theorem dX5_best_14 : decode cX5_best 14 = .ok (.iconst 1, 1) := by decide +kernel
theorem dX5_best_15 : decode cX5_best 15 = .ok (.invokevirtual 67, 3) := by decide +kernel
theorem dX5_best_18 : decode cX5_best 18 = .ok (.ireturn, 1) := by decide +kernel
theorem dX5_best_19 : decode cX5_best 19 = .ok (.iconst (-1), 1) := by decide +kernel
theorem dX5_best_20 : decode cX5_best 20 = .ok (.istore_n 2, 1) := by decide +kernel
theorem dX5_best_21 : decode cX5_best 21 = .ok (.iconst 0, 1) := by decide +kernel
theorem dX5_best_22 : decode cX5_best 22 = .ok (.istore_n 3, 1) := by decide +kernel
theorem dX5_best_23 : decode cX5_best 23 = .ok (.iconst 0, 1) := by decide +kernel
theorem dX5_best_24 : decode cX5_best 24 = .ok (.istore 4, 2) := by decide +kernel
theorem dX5_best_26 : decode cX5_best 26 = .ok (.iload 4, 2) := by decide +kernel
theorem dX5_best_28 : decode cX5_best 28 = .ok (.aload_n 0, 1) := by decide +kernel
theorem dX5_best_29 : decode cX5_best 29 = .ok (.getfield 57, 3) := by decide +kernel
theorem dX5_best_32 : decode cX5_best 32 = .ok (.if_icmp .ge 33, 3) := by decide +kernel
theorem dX5_best_35 : decode cX5_best 35 = .ok (.aload_n 0, 1) := by decide +kernel
theorem dX5_best_36 : decode cX5_best 36 = .ok (.iload_n 1, 1) := by decide +kernel
theorem dX5_best_37 : decode cX5_best 37 = .ok (.iload 4, 2) := by decide +kernel
theorem dX5_best_39 : decode cX5_best 39 = .ok (.invokevirtual 104, 3) := by decide +kernel
theorem dX5_best_42 : decode cX5_best 42 = .ok (.istore 5, 2) := by decide +kernel
theorem dX5_best_44 : decode cX5_best 44 = .ok (.iload 5, 2) := by decide +kernel
theorem dX5_best_46 : decode cX5_best 46 = .ok (.iload_n 3, 1) := by decide +kernel
theorem dX5_best_47 : decode cX5_best 47 = .ok (.if_icmp .gt 6, 3) := by decide +kernel
theorem dX5_best_50 : decode cX5_best 50 = .ok (.goto 9, 3) := by decide +kernel
theorem dX5_best_53 : decode cX5_best 53 = .ok (.iload 5, 2) := by decide +kernel
theorem dX5_best_55 : decode cX5_best 55 = .ok (.istore_n 3, 1) := by decide +kernel
theorem dX5_best_56 : decode cX5_best 56 = .ok (.iload 4, 2) := by decide +kernel
theorem dX5_best_58 : decode cX5_best 58 = .ok (.istore_n 2, 1) := by decide +kernel
theorem dX5_best_59 : decode cX5_best 59 = .ok (.iinc 4 1, 3) := by decide +kernel
theorem dX5_best_62 : decode cX5_best 62 = .ok (.goto (-36), 3) := by decide +kernel
theorem dX5_best_65 : decode cX5_best 65 = .ok (.iload_n 2, 1) := by decide +kernel
theorem dX5_best_66 : decode cX5_best 66 = .ok (.ireturn, 1) := by decide +kernel
theorem dX5_worst_0 : decode cX5_worst 0 = .ok (.aload_n 0, 1) := by decide +kernel
theorem dX5_worst_1 : decode cX5_worst 1 = .ok (.iconst 0, 1) := by decide +kernel
theorem dX5_worst_2 : decode cX5_worst 2 = .ok (.putfield 45, 3) := by decide +kernel
theorem dX5_worst_5 : decode cX5_worst 5 = .ok (.aload_n 0, 1) := by decide +kernel
theorem dX5_worst_6 : decode cX5_worst 6 = .ok (.iload_n 1, 1) := by decide +kernel
theorem dX5_worst_7 : decode cX5_worst 7 = .ok (.invokevirtual 71, 3) := by decide +kernel
theorem dX5_worst_10 : decode cX5_worst 10 = .ok (.ifCond .ne 9, 3) := by decide +kernel
theorem dX5_worst_13 : decode cX5_worst 13 = .ok (.aload_n 0, 1) := by decide +kernel
theorem dX5_worst_14 : decode cX5_worst 14 = .ok (.iconst 1, 1) := by decide +kernel
theorem dX5_worst_15 : decode cX5_worst 15 = .ok (.invokevirtual 67, 3) := by decide +kernel
theorem dX5_worst_18 : decode cX5_worst 18 = .ok (.ireturn, 1) := by decide +kernel
theorem dX5_worst_19 : decode cX5_worst 19 = .ok (.iconst (-1), 1) := by decide +kernel
theorem dX5_worst_20 : decode cX5_worst 20 = .ok (.istore_n 2, 1) := by decide +kernel
theorem dX5_worst_21 : decode cX5_worst 21 = .ok (.aload_n 0, 1) := by decide +kernel
theorem dX5_worst_22 : decode cX5_worst 22 = .ok (.iload_n 1, 1) := by decide +kernel
theorem dX5_worst_23 : decode cX5_worst 23 = .ok (.aload_n 0, 1) := by decide +kernel
theorem dX5_worst_24 : decode cX5_worst 24 = .ok (.getfield 38, 3) := by decide +kernel
theorem dX5_worst_27 : decode cX5_worst 27 = .ok (.iconst (-1), 1) := by decide +kernel
theorem dX5_worst_28 : decode cX5_worst 28 = .ok (.invokevirtual 87, 3) := by decide +kernel
theorem dX5_worst_31 : decode cX5_worst 31 = .ok (.istore_n 3, 1) := by decide +kernel
theorem dX5_worst_32 : decode cX5_worst 32 = .ok (.iconst 0, 1) := by decide +kernel
theorem dX5_worst_33 : decode cX5_worst 33 = .ok (.istore 4, 2) := by decide +kernel
theorem dX5_worst_35 : decode cX5_worst 35 = .ok (.iload 4, 2) := by decide +kernel
theorem dX5_worst_37 : decode cX5_worst 37 = .ok (.bipush 12, 2) := by decide +kernel
theorem dX5_worst_39 : decode cX5_worst 39 = .ok (.if_icmp .ge 37, 3) := by decide +kernel
theorem dX5_worst_42 : decode cX5_worst 42 = .ok (.aload_n 0, 1) := by decide +kernel
theorem dX5_worst_43 : decode cX5_worst 43 = .ok (.iload_n 1, 1) := by decide +kernel
theorem dX5_worst_44 : decode cX5_worst 44 = .ok (.aload_n 0, 1) := by decide +kernel
theorem dX5_worst_45 : decode cX5_worst 45 = .ok (.getfield 38, 3) := by decide +kernel
theorem dX5_worst_48 : decode cX5_worst 48 = .ok (.iload 4, 2) := by decide +kernel
theorem dX5_worst_50 : decode cX5_worst 50 = .ok (.invokevirtual 87, 3) := by decide +kernel
theorem dX5_worst_53 : decode cX5_worst 53 = .ok (.istore 5, 2) := by decide +kernel
theorem dX5_worst_55 : decode cX5_worst 55 = .ok (.iload 5, 2) := by decide +kernel
theorem dX5_worst_57 : decode cX5_worst 57 = .ok (.iload_n 3, 1) := by decide +kernel
theorem dX5_worst_58 : decode cX5_worst 58 = .ok (.if_icmp .gt 6, 3) := by decide +kernel
theorem dX5_worst_61 : decode cX5_worst 61 = .ok (.goto 9, 3) := by decide +kernel
theorem dX5_worst_64 : decode cX5_worst 64 = .ok (.iload 5, 2) := by decide +kernel
theorem dX5_worst_66 : decode cX5_worst 66 = .ok (.istore_n 3, 1) := by decide +kernel
theorem dX5_worst_67 : decode cX5_worst 67 = .ok (.iload 4, 2) := by decide +kernel
theorem dX5_worst_69 : decode cX5_worst 69 = .ok (.istore_n 2, 1) := by decide +kernel
theorem dX5_worst_70 : decode cX5_worst 70 = .ok (.iinc 4 1, 3) := by decide +kernel
theorem dX5_worst_73 : decode cX5_worst 73 = .ok (.goto (-38), 3) := by decide +kernel
theorem dX5_worst_76 : decode cX5_worst 76 = .ok (.iload_n 2, 1) := by decide +kernel
theorem dX5_worst_77 : decode cX5_worst 77 = .ok (.ireturn, 1) := by decide +kernel
theorem dX5_foresee_0 : decode cX5_foresee 0 = .ok (.aload_n 0, 1) := by decide +kernel
theorem dX5_foresee_1 : decode cX5_foresee 1 = .ok (.iconst 0, 1) := by decide +kernel
theorem dX5_foresee_2 : decode cX5_foresee 2 = .ok (.putfield 45, 3) := by decide +kernel
theorem dX5_foresee_5 : decode cX5_foresee 5 = .ok (.iload_n 1, 1) := by decide +kernel
theorem dX5_foresee_6 : decode cX5_foresee 6 = .ok (.iconst 1, 1) := by decide +kernel
theorem dX5_foresee_7 : decode cX5_foresee 7 = .ok (.bipush 60, 2) := by decide +kernel
theorem dX5_foresee_9 : decode cX5_foresee 9 = .ok (.invokestatic 60, 3) := by decide +kernel
theorem dX5_foresee_12 : decode cX5_foresee 12 = .ok (.ifCond .ne 9, 3) := by decide +kernel
theorem dX5_foresee_15 : decode cX5_foresee 15 = .ok (.aload_n 0, 1) := by decide +kernel
theorem dX5_foresee_16 : decode cX5_foresee 16 = .ok (.iconst 1, 1) := by decide +kernel
theorem dX5_foresee_17 : decode cX5_foresee 17 = .ok (.invokevirtual 67, 3) := by decide +kernel
theorem dX5_foresee_20 : decode cX5_foresee 20 = .ok (.ireturn, 1) := by decide +kernel
theorem dX5_foresee_21 : decode cX5_foresee 21 = .ok (.iload_n 2, 1) := by decide +kernel
theorem dX5_foresee_22 : decode cX5_foresee 22 = .ok (.iconst 5, 1) := by decide +kernel
theorem dX5_foresee_23 : decode cX5_foresee 23 = .ok (.bipush 7, 2) := by decide +kernel
theorem dX5_foresee_25 : decode cX5_foresee 25 = .ok (.invokestatic 60, 3) := by decide +kernel
theorem dX5_foresee_28 : decode cX5_foresee 28 = .ok (.ifCond .ne 9, 3) := by decide +kernel
theorem dX5_foresee_31 : decode cX5_foresee 31 = .ok (.aload_n 0, 1) := by decide +kernel
theorem dX5_foresee_32 : decode cX5_foresee 32 = .ok (.iconst 2, 1) := by decide +kernel
theorem dX5_foresee_33 : decode cX5_foresee 33 = .ok (.invokevirtual 67, 3) := by decide +kernel
theorem dX5_foresee_36 : decode cX5_foresee 36 = .ok (.ireturn, 1) := by decide +kernel
theorem dX5_foresee_37 : decode cX5_foresee 37 = .ok (.aload_n 0, 1) := by decide +kernel
theorem dX5_foresee_38 : decode cX5_foresee 38 = .ok (.getfield 42, 3) := by decide +kernel
theorem dX5_foresee_41 : decode cX5_foresee 41 = .ok (.aload_n 0, 1) := by decide +kernel
theorem dX5_foresee_42 : decode cX5_foresee 42 = .ok (.getfield 38, 3) := by decide +kernel
theorem dX5_foresee_45 : decode cX5_foresee 45 = .ok (.invokevirtual 153, 3) := by decide +kernel
theorem dX5_foresee_48 : decode cX5_foresee 48 = .ok (.iconst 0, 1) := by decide +kernel
theorem dX5_foresee_49 : decode cX5_foresee 49 = .ok (.istore_n 3, 1) := by decide +kernel
theorem dX5_foresee_50 : decode cX5_foresee 50 = .ok (.iload_n 3, 1) := by decide +kernel
theorem dX5_foresee_51 : decode cX5_foresee 51 = .ok (.iload_n 1, 1) := by decide +kernel
theorem dX5_foresee_52 : decode cX5_foresee 52 = .ok (.if_icmp .ge 32, 3) := by decide +kernel
theorem dX5_foresee_55 : decode cX5_foresee 55 = .ok (.aload_n 0, 1) := by decide +kernel
theorem dX5_foresee_56 : decode cX5_foresee 56 = .ok (.getfield 42, 3) := by decide +kernel
theorem dX5_foresee_59 : decode cX5_foresee 59 = .ok (.aload_n 0, 1) := by decide +kernel
theorem dX5_foresee_60 : decode cX5_foresee 60 = .ok (.getfield 28, 3) := by decide +kernel
theorem dX5_foresee_63 : decode cX5_foresee 63 = .ok (.aload_n 0, 1) := by decide +kernel
theorem dX5_foresee_64 : decode cX5_foresee 64 = .ok (.getfield 42, 3) := by decide +kernel
theorem dX5_foresee_67 : decode cX5_foresee 67 = .ok (.getfield 91, 3) := by decide +kernel
theorem dX5_foresee_70 : decode cX5_foresee 70 = .ok (.bipush 7, 2) := by decide +kernel
theorem dX5_foresee_72 : decode cX5_foresee 72 = .ok (.irem, 1) := by decide +kernel
theorem dX5_foresee_73 : decode cX5_foresee 73 = .ok (.iaload, 1) := by decide +kernel
theorem dX5_foresee_74 : decode cX5_foresee 74 = .ok (.invokevirtual 144, 3) := by decide +kernel
theorem dX5_foresee_77 : decode cX5_foresee 77 = .ok (.pop, 1) := by decide +kernel
theorem dX5_foresee_78 : decode cX5_foresee 78 = .ok (.iinc 3 1, 3) := by decide +kernel
theorem dX5_foresee_81 : decode cX5_foresee 81 = .ok (.goto (-31), 3) := by decide +kernel
theorem dX5_foresee_84 : decode cX5_foresee 84 = .ok (.iload_n 2, 1) := by decide +kernel
theorem dX5_foresee_85 : decode cX5_foresee 85 = .ok (.iconst 5, 1) := by decide +kernel
theorem dX5_foresee_86 : decode cX5_foresee 86 = .ok (.if_icmp .ne 13, 3) := by decide +kernel
theorem dX5_foresee_89 : decode cX5_foresee 89 = .ok (.aload_n 0, 1) := by decide +kernel
theorem dX5_foresee_90 : decode cX5_foresee 90 = .ok (.getfield 42, 3) := by decide +kernel
theorem dX5_foresee_93 : decode cX5_foresee 93 = .ok (.invokevirtual 119, 3) := by decide +kernel
theorem dX5_foresee_96 : decode cX5_foresee 96 = .ok (.goto 26, 3) := by decide +kernel
theorem dX5_foresee_99 : decode cX5_foresee 99 = .ok (.iload_n 2, 1) := by decide +kernel
theorem dX5_foresee_100 : decode cX5_foresee 100 = .ok (.bipush 6, 2) := by decide +kernel
theorem dX5_foresee_102 : decode cX5_foresee 102 = .ok (.if_icmp .ne 13, 3) := by decide +kernel
theorem dX5_foresee_105 : decode cX5_foresee 105 = .ok (.aload_n 0, 1) := by decide +kernel
theorem dX5_foresee_106 : decode cX5_foresee 106 = .ok (.getfield 42, 3) := by decide +kernel
theorem dX5_foresee_109 : decode cX5_foresee 109 = .ok (.invokevirtual 135, 3) := by decide +kernel
theorem dX5_foresee_112 : decode cX5_foresee 112 = .ok (.goto 10, 3) := by decide +kernel
theorem dX5_foresee_115 : decode cX5_foresee 115 = .ok (.aload_n 0, 1) := by decide +kernel
theorem dX5_foresee_116 : decode cX5_foresee 116 = .ok (.getfield 42, 3) := by decide +kernel
theorem dX5_foresee_119 : decode cX5_foresee 119 = .ok (.invokevirtual 138, 3) := by decide +kernel
theorem dX5_foresee_122 : decode cX5_foresee 122 = .ok (.ireturn, 1) := by decide +kernel
theorem dX5_lasts_0 : decode cX5_lasts 0 = .ok (.aload_n 0, 1) := by decide +kernel
theorem dX5_lasts_1 : decode cX5_lasts 1 = .ok (.iconst 0, 1) := by decide +kernel
theorem dX5_lasts_2 : decode cX5_lasts 2 = .ok (.putfield 45, 3) := by decide +kernel
theorem dX5_lasts_5 : decode cX5_lasts 5 = .ok (.aload_n 0, 1) := by decide +kernel
theorem dX5_lasts_6 : decode cX5_lasts 6 = .ok (.iload_n 1, 1) := by decide +kernel
theorem dX5_lasts_7 : decode cX5_lasts 7 = .ok (.invokevirtual 71, 3) := by decide +kernel
theorem dX5_lasts_10 : decode cX5_lasts 10 = .ok (.ifCond .ne 9, 3) := by decide +kernel
theorem dX5_lasts_13 : decode cX5_lasts 13 = .ok (.aload_n 0, 1) := by decide +kernel
theorem dX5_lasts_14 : decode cX5_lasts 14 = .ok (.iconst 1, 1) := by decide +kernel
theorem dX5_lasts_15 : decode cX5_lasts 15 = .ok (.invokevirtual 67, 3) := by decide +kernel
theorem dX5_lasts_18 : decode cX5_lasts 18 = .ok (.ireturn, 1) := by decide +kernel
theorem dX5_lasts_19 : decode cX5_lasts 19 = .ok (.aload_n 0, 1) := by decide +kernel
theorem dX5_lasts_20 : decode cX5_lasts 20 = .ok (.getfield 42, 3) := by decide +kernel
theorem dX5_lasts_23 : decode cX5_lasts 23 = .ok (.aload_n 0, 1) := by decide +kernel
theorem dX5_lasts_24 : decode cX5_lasts 24 = .ok (.getfield 38, 3) := by decide +kernel
theorem dX5_lasts_27 : decode cX5_lasts 27 = .ok (.invokevirtual 153, 3) := by decide +kernel
theorem dX5_lasts_30 : decode cX5_lasts 30 = .ok (.iconst 0, 1) := by decide +kernel
theorem dX5_lasts_31 : decode cX5_lasts 31 = .ok (.istore_n 2, 1) := by decide +kernel
theorem dX5_lasts_32 : decode cX5_lasts 32 = .ok (.iload_n 2, 1) := by decide +kernel
theorem dX5_lasts_33 : decode cX5_lasts 33 = .ok (.bipush 99, 2) := by decide +kernel
theorem dX5_lasts_35 : decode cX5_lasts 35 = .ok (.if_icmp .ge 33, 3) := by decide +kernel
theorem dX5_lasts_38 : decode cX5_lasts 38 = .ok (.aload_n 0, 1) := by decide +kernel
theorem dX5_lasts_39 : decode cX5_lasts 39 = .ok (.iload_n 1, 1) := by decide +kernel
theorem dX5_lasts_40 : decode cX5_lasts 40 = .ok (.aload_n 0, 1) := by decide +kernel
theorem dX5_lasts_41 : decode cX5_lasts 41 = .ok (.getfield 42, 3) := by decide +kernel
theorem dX5_lasts_44 : decode cX5_lasts 44 = .ok (.iconst (-1), 1) := by decide +kernel
theorem dX5_lasts_45 : decode cX5_lasts 45 = .ok (.invokevirtual 87, 3) := by decide +kernel
theorem dX5_lasts_48 : decode cX5_lasts 48 = .ok (.bipush 30, 2) := by decide +kernel
theorem dX5_lasts_50 : decode cX5_lasts 50 = .ok (.if_icmp .lt 18, 3) := by decide +kernel
theorem dX5_lasts_53 : decode cX5_lasts 53 = .ok (.aload_n 0, 1) := by decide +kernel
theorem dX5_lasts_54 : decode cX5_lasts 54 = .ok (.iload_n 1, 1) := by decide +kernel
theorem dX5_lasts_55 : decode cX5_lasts 55 = .ok (.aload_n 0, 1) := by decide +kernel
theorem dX5_lasts_56 : decode cX5_lasts 56 = .ok (.getfield 42, 3) := by decide +kernel
theorem dX5_lasts_59 : decode cX5_lasts 59 = .ok (.invokevirtual 107, 3) := by decide +kernel
theorem dX5_lasts_62 : decode cX5_lasts 62 = .ok (.iinc 2 1, 3) := by decide +kernel
theorem dX5_lasts_65 : decode cX5_lasts 65 = .ok (.goto (-33), 3) := by decide +kernel
theorem dX5_lasts_68 : decode cX5_lasts 68 = .ok (.iload_n 2, 1) := by decide +kernel
theorem dX5_lasts_69 : decode cX5_lasts 69 = .ok (.ireturn, 1) := by decide +kernel
theorem dX5_mean_0 : decode cX5_mean 0 = .ok (.aload_n 0, 1) := by decide +kernel
theorem dX5_mean_1 : decode cX5_mean 1 = .ok (.iconst 0, 1) := by decide +kernel
theorem dX5_mean_2 : decode cX5_mean 2 = .ok (.putfield 45, 3) := by decide +kernel
theorem dX5_mean_5 : decode cX5_mean 5 = .ok (.iconst 0, 1) := by decide +kernel
theorem dX5_mean_6 : decode cX5_mean 6 = .ok (.istore_n 1, 1) := by decide +kernel
theorem dX5_mean_7 : decode cX5_mean 7 = .ok (.iconst 0, 1) := by decide +kernel
theorem dX5_mean_8 : decode cX5_mean 8 = .ok (.istore_n 2, 1) := by decide +kernel
theorem dX5_mean_9 : decode cX5_mean 9 = .ok (.iload_n 2, 1) := by decide +kernel
theorem dX5_mean_10 : decode cX5_mean 10 = .ok (.aload_n 0, 1) := by decide +kernel
theorem dX5_mean_11 : decode cX5_mean 11 = .ok (.getfield 57, 3) := by decide +kernel
theorem dX5_mean_14 : decode cX5_mean 14 = .ok (.if_icmp .ge 22, 3) := by decide +kernel
theorem dX5_mean_17 : decode cX5_mean 17 = .ok (.iload_n 1, 1) := by decide +kernel
theorem dX5_mean_18 : decode cX5_mean 18 = .ok (.aload_n 0, 1) := by decide +kernel
theorem dX5_mean_19 : decode cX5_mean 19 = .ok (.iload_n 2, 1) := by decide +kernel
theorem dX5_mean_20 : decode cX5_mean 20 = .ok (.aload_n 0, 1) := by decide +kernel
theorem dX5_mean_21 : decode cX5_mean 21 = .ok (.getfield 38, 3) := by decide +kernel
theorem dX5_mean_24 : decode cX5_mean 24 = .ok (.iconst (-1), 1) := by decide +kernel
theorem dX5_mean_25 : decode cX5_mean 25 = .ok (.invokevirtual 87, 3) := by decide +kernel
theorem dX5_mean_28 : decode cX5_mean 28 = .ok (.iadd, 1) := by decide +kernel
theorem dX5_mean_29 : decode cX5_mean 29 = .ok (.istore_n 1, 1) := by decide +kernel
theorem dX5_mean_30 : decode cX5_mean 30 = .ok (.iinc 2 1, 3) := by decide +kernel
theorem dX5_mean_33 : decode cX5_mean 33 = .ok (.goto (-24), 3) := by decide +kernel
theorem dX5_mean_36 : decode cX5_mean 36 = .ok (.aload_n 0, 1) := by decide +kernel
theorem dX5_mean_37 : decode cX5_mean 37 = .ok (.getfield 57, 3) := by decide +kernel
theorem dX5_mean_40 : decode cX5_mean 40 = .ok (.ifCond .ne 7, 3) := by decide +kernel
theorem dX5_mean_43 : decode cX5_mean 43 = .ok (.dconst 0, 1) := by decide +kernel
theorem dX5_mean_44 : decode cX5_mean 44 = .ok (.goto 11, 3) := by decide +kernel
theorem dX5_mean_47 : decode cX5_mean 47 = .ok (.iload_n 1, 1) := by decide +kernel
theorem dX5_mean_48 : decode cX5_mean 48 = .ok (.i2d, 1) := by decide +kernel
theorem dX5_mean_49 : decode cX5_mean 49 = .ok (.aload_n 0, 1) := by decide +kernel
theorem dX5_mean_50 : decode cX5_mean 50 = .ok (.getfield 57, 3) := by decide +kernel
theorem dX5_mean_53 : decode cX5_mean 53 = .ok (.i2d, 1) := by decide +kernel
theorem dX5_mean_54 : decode cX5_mean 54 = .ok (.ddiv, 1) := by decide +kernel
theorem dX5_mean_55 : decode cX5_mean 55 = .ok (.dreturn, 1) := by decide +kernel
theorem dX5_digest_0 : decode cX5_digest 0 = .ok (.aload_n 0, 1) := by decide +kernel
theorem dX5_digest_1 : decode cX5_digest 1 = .ok (.iconst 0, 1) := by decide +kernel
theorem dX5_digest_2 : decode cX5_digest 2 = .ok (.putfield 45, 3) := by decide +kernel
theorem dX5_digest_5 : decode cX5_digest 5 = .ok (.ldc2_w 157, 3) := by decide +kernel
theorem dX5_digest_8 : decode cX5_digest 8 = .ok (.lstore_n 1, 1) := by decide +kernel
theorem dX5_digest_9 : decode cX5_digest 9 = .ok (.iconst 0, 1) := by decide +kernel
theorem dX5_digest_10 : decode cX5_digest 10 = .ok (.istore_n 3, 1) := by decide +kernel
theorem dX5_digest_11 : decode cX5_digest 11 = .ok (.iload_n 3, 1) := by decide +kernel
theorem dX5_digest_12 : decode cX5_digest 12 = .ok (.bipush 9, 2) := by decide +kernel
theorem dX5_digest_14 : decode cX5_digest 14 = .ok (.if_icmp .ge 22, 3) := by decide +kernel
theorem dX5_digest_17 : decode cX5_digest 17 = .ok (.lload_n 1, 1) := by decide +kernel
theorem dX5_digest_18 : decode cX5_digest 18 = .ok (.ldc2_w 159, 3) := by decide +kernel
theorem dX5_digest_21 : decode cX5_digest 21 = .ok (.lmul, 1) := by decide +kernel
theorem dX5_digest_22 : decode cX5_digest 22 = .ok (.aload_n 0, 1) := by decide +kernel
theorem dX5_digest_23 : decode cX5_digest 23 = .ok (.iload_n 3, 1) := by decide +kernel
theorem dX5_digest_24 : decode cX5_digest 24 = .ok (.invokevirtual 141, 3) := by decide +kernel
theorem dX5_digest_27 : decode cX5_digest 27 = .ok (.i2l, 1) := by decide +kernel
theorem dX5_digest_28 : decode cX5_digest 28 = .ok (.ladd, 1) := by decide +kernel
theorem dX5_digest_29 : decode cX5_digest 29 = .ok (.lstore_n 1, 1) := by decide +kernel
theorem dX5_digest_30 : decode cX5_digest 30 = .ok (.iinc 3 1, 3) := by decide +kernel
theorem dX5_digest_33 : decode cX5_digest 33 = .ok (.goto (-22), 3) := by decide +kernel
theorem dX5_digest_36 : decode cX5_digest 36 = .ok (.iconst 0, 1) := by decide +kernel
theorem dX5_digest_37 : decode cX5_digest 37 = .ok (.istore_n 3, 1) := by decide +kernel
theorem dX5_digest_38 : decode cX5_digest 38 = .ok (.iload_n 3, 1) := by decide +kernel
theorem dX5_digest_39 : decode cX5_digest 39 = .ok (.bipush 12, 2) := by decide +kernel
theorem dX5_digest_41 : decode cX5_digest 41 = .ok (.if_icmp .ge 39, 3) := by decide +kernel
theorem dX5_digest_44 : decode cX5_digest 44 = .ok (.iconst 0, 1) := by decide +kernel
theorem dX5_digest_45 : decode cX5_digest 45 = .ok (.istore 4, 2) := by decide +kernel
theorem dX5_digest_47 : decode cX5_digest 47 = .ok (.iload 4, 2) := by decide +kernel
theorem dX5_digest_49 : decode cX5_digest 49 = .ok (.iconst 5, 1) := by decide +kernel
theorem dX5_digest_50 : decode cX5_digest 50 = .ok (.if_icmp .ge 24, 3) := by decide +kernel
theorem dX5_digest_53 : decode cX5_digest 53 = .ok (.lload_n 1, 1) := by decide +kernel
theorem dX5_digest_54 : decode cX5_digest 54 = .ok (.ldc2_w 159, 3) := by decide +kernel
theorem dX5_digest_57 : decode cX5_digest 57 = .ok (.lmul, 1) := by decide +kernel
theorem dX5_digest_58 : decode cX5_digest 58 = .ok (.aload_n 0, 1) := by decide +kernel
theorem dX5_digest_59 : decode cX5_digest 59 = .ok (.iload_n 3, 1) := by decide +kernel
theorem dX5_digest_60 : decode cX5_digest 60 = .ok (.iload 4, 2) := by decide +kernel
theorem dX5_digest_62 : decode cX5_digest 62 = .ok (.invokevirtual 129, 3) := by decide +kernel
theorem dX5_digest_65 : decode cX5_digest 65 = .ok (.i2l, 1) := by decide +kernel
theorem dX5_digest_66 : decode cX5_digest 66 = .ok (.ladd, 1) := by decide +kernel
theorem dX5_digest_67 : decode cX5_digest 67 = .ok (.lstore_n 1, 1) := by decide +kernel
theorem dX5_digest_68 : decode cX5_digest 68 = .ok (.iinc 4 1, 3) := by decide +kernel
theorem dX5_digest_71 : decode cX5_digest 71 = .ok (.goto (-24), 3) := by decide +kernel
theorem dX5_digest_74 : decode cX5_digest 74 = .ok (.iinc 3 1, 3) := by decide +kernel
theorem dX5_digest_77 : decode cX5_digest 77 = .ok (.goto (-39), 3) := by decide +kernel
theorem dX5_digest_80 : decode cX5_digest 80 = .ok (.iconst 0, 1) := by decide +kernel
theorem dX5_digest_81 : decode cX5_digest 81 = .ok (.istore_n 3, 1) := by decide +kernel
theorem dX5_digest_82 : decode cX5_digest 82 = .ok (.iload_n 3, 1) := by decide +kernel
theorem dX5_digest_83 : decode cX5_digest 83 = .ok (.bipush 7, 2) := by decide +kernel
theorem dX5_digest_85 : decode cX5_digest 85 = .ok (.if_icmp .ge 23, 3) := by decide +kernel
theorem dX5_digest_88 : decode cX5_digest 88 = .ok (.lload_n 1, 1) := by decide +kernel
theorem dX5_digest_89 : decode cX5_digest 89 = .ok (.ldc2_w 159, 3) := by decide +kernel
theorem dX5_digest_92 : decode cX5_digest 92 = .ok (.lmul, 1) := by decide +kernel
theorem dX5_digest_93 : decode cX5_digest 93 = .ok (.aload_n 0, 1) := by decide +kernel
theorem dX5_digest_94 : decode cX5_digest 94 = .ok (.getfield 28, 3) := by decide +kernel
theorem dX5_digest_97 : decode cX5_digest 97 = .ok (.iload_n 3, 1) := by decide +kernel
theorem dX5_digest_98 : decode cX5_digest 98 = .ok (.iaload, 1) := by decide +kernel
theorem dX5_digest_99 : decode cX5_digest 99 = .ok (.i2l, 1) := by decide +kernel
theorem dX5_digest_100 : decode cX5_digest 100 = .ok (.ladd, 1) := by decide +kernel
theorem dX5_digest_101 : decode cX5_digest 101 = .ok (.lstore_n 1, 1) := by decide +kernel
theorem dX5_digest_102 : decode cX5_digest 102 = .ok (.iinc 3 1, 3) := by decide +kernel
theorem dX5_digest_105 : decode cX5_digest 105 = .ok (.goto (-23), 3) := by decide +kernel
theorem dX5_digest_108 : decode cX5_digest 108 = .ok (.iconst 0, 1) := by decide +kernel
theorem dX5_digest_109 : decode cX5_digest 109 = .ok (.istore_n 3, 1) := by decide +kernel
theorem dX5_digest_110 : decode cX5_digest 110 = .ok (.iload_n 3, 1) := by decide +kernel
theorem dX5_digest_111 : decode cX5_digest 111 = .ok (.aload_n 0, 1) := by decide +kernel
theorem dX5_digest_112 : decode cX5_digest 112 = .ok (.getfield 57, 3) := by decide +kernel
theorem dX5_digest_115 : decode cX5_digest 115 = .ok (.if_icmp .ge 81, 3) := by decide +kernel
theorem dX5_digest_118 : decode cX5_digest 118 = .ok (.lload_n 1, 1) := by decide +kernel
theorem dX5_digest_119 : decode cX5_digest 119 = .ok (.ldc2_w 159, 3) := by decide +kernel
theorem dX5_digest_122 : decode cX5_digest 122 = .ok (.lmul, 1) := by decide +kernel
theorem dX5_digest_123 : decode cX5_digest 123 = .ok (.aload_n 0, 1) := by decide +kernel
theorem dX5_digest_124 : decode cX5_digest 124 = .ok (.getfield 9, 3) := by decide +kernel
theorem dX5_digest_127 : decode cX5_digest 127 = .ok (.iload_n 3, 1) := by decide +kernel
theorem dX5_digest_128 : decode cX5_digest 128 = .ok (.iaload, 1) := by decide +kernel
theorem dX5_digest_129 : decode cX5_digest 129 = .ok (.i2l, 1) := by decide +kernel
theorem dX5_digest_130 : decode cX5_digest 130 = .ok (.ladd, 1) := by decide +kernel
theorem dX5_digest_131 : decode cX5_digest 131 = .ok (.lstore_n 1, 1) := by decide +kernel
theorem dX5_digest_132 : decode cX5_digest 132 = .ok (.iconst 0, 1) := by decide +kernel
theorem dX5_digest_133 : decode cX5_digest 133 = .ok (.istore 4, 2) := by decide +kernel
theorem dX5_digest_135 : decode cX5_digest 135 = .ok (.iload 4, 2) := by decide +kernel
theorem dX5_digest_137 : decode cX5_digest 137 = .ok (.aload_n 0, 1) := by decide +kernel
theorem dX5_digest_138 : decode cX5_digest 138 = .ok (.getfield 9, 3) := by decide +kernel
theorem dX5_digest_141 : decode cX5_digest 141 = .ok (.iload_n 3, 1) := by decide +kernel
theorem dX5_digest_142 : decode cX5_digest 142 = .ok (.iaload, 1) := by decide +kernel
theorem dX5_digest_143 : decode cX5_digest 143 = .ok (.if_icmp .ge 29, 3) := by decide +kernel
theorem dX5_digest_146 : decode cX5_digest 146 = .ok (.lload_n 1, 1) := by decide +kernel
theorem dX5_digest_147 : decode cX5_digest 147 = .ok (.ldc2_w 159, 3) := by decide +kernel
theorem dX5_digest_150 : decode cX5_digest 150 = .ok (.lmul, 1) := by decide +kernel
theorem dX5_digest_151 : decode cX5_digest 151 = .ok (.aload_n 0, 1) := by decide +kernel
theorem dX5_digest_152 : decode cX5_digest 152 = .ok (.getfield 13, 3) := by decide +kernel
theorem dX5_digest_155 : decode cX5_digest 155 = .ok (.bipush 16, 2) := by decide +kernel
theorem dX5_digest_157 : decode cX5_digest 157 = .ok (.iload_n 3, 1) := by decide +kernel
theorem dX5_digest_158 : decode cX5_digest 158 = .ok (.imul, 1) := by decide +kernel
theorem dX5_digest_159 : decode cX5_digest 159 = .ok (.iload 4, 2) := by decide +kernel
theorem dX5_digest_161 : decode cX5_digest 161 = .ok (.iadd, 1) := by decide +kernel
theorem dX5_digest_162 : decode cX5_digest 162 = .ok (.iaload, 1) := by decide +kernel
theorem dX5_digest_163 : decode cX5_digest 163 = .ok (.i2l, 1) := by decide +kernel
theorem dX5_digest_164 : decode cX5_digest 164 = .ok (.ladd, 1) := by decide +kernel
theorem dX5_digest_165 : decode cX5_digest 165 = .ok (.lstore_n 1, 1) := by decide +kernel
theorem dX5_digest_166 : decode cX5_digest 166 = .ok (.iinc 4 1, 3) := by decide +kernel
theorem dX5_digest_169 : decode cX5_digest 169 = .ok (.goto (-34), 3) := by decide +kernel
theorem dX5_digest_172 : decode cX5_digest 172 = .ok (.lload_n 1, 1) := by decide +kernel
theorem dX5_digest_173 : decode cX5_digest 173 = .ok (.ldc2_w 159, 3) := by decide +kernel
theorem dX5_digest_176 : decode cX5_digest 176 = .ok (.lmul, 1) := by decide +kernel
theorem dX5_digest_177 : decode cX5_digest 177 = .ok (.aload_n 0, 1) := by decide +kernel
theorem dX5_digest_178 : decode cX5_digest 178 = .ok (.iload_n 3, 1) := by decide +kernel
theorem dX5_digest_179 : decode cX5_digest 179 = .ok (.aload_n 0, 1) := by decide +kernel
theorem dX5_digest_180 : decode cX5_digest 180 = .ok (.getfield 38, 3) := by decide +kernel
theorem dX5_digest_183 : decode cX5_digest 183 = .ok (.iconst (-1), 1) := by decide +kernel
theorem dX5_digest_184 : decode cX5_digest 184 = .ok (.invokevirtual 87, 3) := by decide +kernel
theorem dX5_digest_187 : decode cX5_digest 187 = .ok (.i2l, 1) := by decide +kernel
theorem dX5_digest_188 : decode cX5_digest 188 = .ok (.ladd, 1) := by decide +kernel
theorem dX5_digest_189 : decode cX5_digest 189 = .ok (.lstore_n 1, 1) := by decide +kernel
theorem dX5_digest_190 : decode cX5_digest 190 = .ok (.iinc 3 1, 3) := by decide +kernel
theorem dX5_digest_193 : decode cX5_digest 193 = .ok (.goto (-83), 3) := by decide +kernel
theorem dX5_digest_196 : decode cX5_digest 196 = .ok (.iconst 0, 1) := by decide +kernel
theorem dX5_digest_197 : decode cX5_digest 197 = .ok (.istore_n 3, 1) := by decide +kernel
theorem dX5_digest_198 : decode cX5_digest 198 = .ok (.iload_n 3, 1) := by decide +kernel
theorem dX5_digest_199 : decode cX5_digest 199 = .ok (.aload_n 0, 1) := by decide +kernel
theorem dX5_digest_200 : decode cX5_digest 200 = .ok (.getfield 64, 3) := by decide +kernel
theorem dX5_digest_203 : decode cX5_digest 203 = .ok (.if_icmp .ge 72, 3) := by decide +kernel
theorem dX5_digest_206 : decode cX5_digest 206 = .ok (.iconst 0, 1) := by decide +kernel
theorem dX5_digest_207 : decode cX5_digest 207 = .ok (.istore 4, 2) := by decide +kernel
theorem dX5_digest_209 : decode cX5_digest 209 = .ok (.iload 4, 2) := by decide +kernel
theorem dX5_digest_211 : decode cX5_digest 211 = .ok (.iconst 5, 1) := by decide +kernel
theorem dX5_digest_212 : decode cX5_digest 212 = .ok (.if_icmp .ge 24, 3) := by decide +kernel
theorem dX5_digest_215 : decode cX5_digest 215 = .ok (.lload_n 1, 1) := by decide +kernel
theorem dX5_digest_216 : decode cX5_digest 216 = .ok (.ldc2_w 159, 3) := by decide +kernel
theorem dX5_digest_219 : decode cX5_digest 219 = .ok (.lmul, 1) := by decide +kernel
theorem dX5_digest_220 : decode cX5_digest 220 = .ok (.aload_n 0, 1) := by decide +kernel
theorem dX5_digest_221 : decode cX5_digest 221 = .ok (.iload_n 3, 1) := by decide +kernel
theorem dX5_digest_222 : decode cX5_digest 222 = .ok (.iload 4, 2) := by decide +kernel
theorem dX5_digest_224 : decode cX5_digest 224 = .ok (.invokevirtual 132, 3) := by decide +kernel
theorem dX5_digest_227 : decode cX5_digest 227 = .ok (.i2l, 1) := by decide +kernel
theorem dX5_digest_228 : decode cX5_digest 228 = .ok (.ladd, 1) := by decide +kernel
theorem dX5_digest_229 : decode cX5_digest 229 = .ok (.lstore_n 1, 1) := by decide +kernel
theorem dX5_digest_230 : decode cX5_digest 230 = .ok (.iinc 4 1, 3) := by decide +kernel
theorem dX5_digest_233 : decode cX5_digest 233 = .ok (.goto (-24), 3) := by decide +kernel
theorem dX5_digest_236 : decode cX5_digest 236 = .ok (.iconst 0, 1) := by decide +kernel
theorem dX5_digest_237 : decode cX5_digest 237 = .ok (.istore 4, 2) := by decide +kernel
theorem dX5_digest_239 : decode cX5_digest 239 = .ok (.iload 4, 2) := by decide +kernel
theorem dX5_digest_241 : decode cX5_digest 241 = .ok (.aload_n 0, 1) := by decide +kernel
theorem dX5_digest_242 : decode cX5_digest 242 = .ok (.getfield 57, 3) := by decide +kernel
theorem dX5_digest_245 : decode cX5_digest 245 = .ok (.if_icmp .ge 24, 3) := by decide +kernel
theorem dX5_digest_248 : decode cX5_digest 248 = .ok (.lload_n 1, 1) := by decide +kernel
theorem dX5_digest_249 : decode cX5_digest 249 = .ok (.ldc2_w 159, 3) := by decide +kernel
theorem dX5_digest_252 : decode cX5_digest 252 = .ok (.lmul, 1) := by decide +kernel
theorem dX5_digest_253 : decode cX5_digest 253 = .ok (.aload_n 0, 1) := by decide +kernel
theorem dX5_digest_254 : decode cX5_digest 254 = .ok (.iload_n 3, 1) := by decide +kernel
theorem dX5_digest_255 : decode cX5_digest 255 = .ok (.iload 4, 2) := by decide +kernel
theorem dX5_digest_257 : decode cX5_digest 257 = .ok (.invokevirtual 104, 3) := by decide +kernel
theorem dX5_digest_260 : decode cX5_digest 260 = .ok (.i2l, 1) := by decide +kernel
theorem dX5_digest_261 : decode cX5_digest 261 = .ok (.ladd, 1) := by decide +kernel
theorem dX5_digest_262 : decode cX5_digest 262 = .ok (.lstore_n 1, 1) := by decide +kernel
theorem dX5_digest_263 : decode cX5_digest 263 = .ok (.iinc 4 1, 3) := by decide +kernel
theorem dX5_digest_266 : decode cX5_digest 266 = .ok (.goto (-27), 3) := by decide +kernel
theorem dX5_digest_269 : decode cX5_digest 269 = .ok (.iinc 3 1, 3) := by decide +kernel
theorem dX5_digest_272 : decode cX5_digest 272 = .ok (.goto (-74), 3) := by decide +kernel
theorem dX5_digest_275 : decode cX5_digest 275 = .ok (.lload_n 1, 1) := by decide +kernel
theorem dX5_digest_276 : decode cX5_digest 276 = .ok (.lreturn, 1) := by decide +kernel
theorem dJ9_floorMod_7cf53_0 : decode cJ9_floorMod_7cf53 0 = .ok (.iload_n 0, 1) := by decide +kernel
theorem dJ9_floorMod_7cf53_1 : decode cJ9_floorMod_7cf53 1 = .ok (.iload_n 1, 1) := by decide +kernel
theorem dJ9_floorMod_7cf53_2 : decode cJ9_floorMod_7cf53 2 = .ok (.irem, 1) := by decide +kernel
theorem dJ9_floorMod_7cf53_3 : decode cJ9_floorMod_7cf53 3 = .ok (.istore_n 2, 1) := by decide +kernel
theorem dJ9_floorMod_7cf53_4 : decode cJ9_floorMod_7cf53 4 = .ok (.iload_n 0, 1) := by decide +kernel
theorem dJ9_floorMod_7cf53_5 : decode cJ9_floorMod_7cf53 5 = .ok (.iload_n 1, 1) := by decide +kernel
theorem dJ9_floorMod_7cf53_6 : decode cJ9_floorMod_7cf53 6 = .ok (.ixor, 1) := by decide +kernel
theorem dJ9_floorMod_7cf53_7 : decode cJ9_floorMod_7cf53 7 = .ok (.ifCond .ge 11, 3) := by decide +kernel
theorem dJ9_floorMod_7cf53_10 : decode cJ9_floorMod_7cf53 10 = .ok (.iload_n 2, 1) := by decide +kernel
theorem dJ9_floorMod_7cf53_11 : decode cJ9_floorMod_7cf53 11 = .ok (.ifCond .eq 7, 3) := by decide +kernel
theorem dJ9_floorMod_7cf53_14 : decode cJ9_floorMod_7cf53 14 = .ok (.iload_n 2, 1) := by decide +kernel
theorem dJ9_floorMod_7cf53_15 : decode cJ9_floorMod_7cf53 15 = .ok (.iload_n 1, 1) := by decide +kernel
theorem dJ9_floorMod_7cf53_16 : decode cJ9_floorMod_7cf53 16 = .ok (.iadd, 1) := by decide +kernel
theorem dJ9_floorMod_7cf53_17 : decode cJ9_floorMod_7cf53 17 = .ok (.ireturn, 1) := by decide +kernel
theorem dJ9_floorMod_7cf53_18 : decode cJ9_floorMod_7cf53 18 = .ok (.iload_n 2, 1) := by decide +kernel
theorem dJ9_floorMod_7cf53_19 : decode cJ9_floorMod_7cf53 19 = .ok (.ireturn, 1) := by decide +kernel
theorem dJ9_abs_0f7a4_0 : decode cJ9_abs_0f7a4 0 = .ok (.iload_n 0, 1) := by decide +kernel
theorem dJ9_abs_0f7a4_1 : decode cJ9_abs_0f7a4 1 = .ok (.ifCond .ge 8, 3) := by decide +kernel
theorem dJ9_abs_0f7a4_4 : decode cJ9_abs_0f7a4 4 = .ok (.iload_n 0, 1) := by decide +kernel
theorem dJ9_abs_0f7a4_5 : decode cJ9_abs_0f7a4 5 = .ok (.ineg, 1) := by decide +kernel
theorem dJ9_abs_0f7a4_6 : decode cJ9_abs_0f7a4 6 = .ok (.goto 4, 3) := by decide +kernel
theorem dJ9_abs_0f7a4_9 : decode cJ9_abs_0f7a4 9 = .ok (.iload_n 0, 1) := by decide +kernel
theorem dJ9_abs_0f7a4_10 : decode cJ9_abs_0f7a4 10 = .ok (.ireturn, 1) := by decide +kernel
theorem dJ9_max_7cf53_0 : decode cJ9_max_7cf53 0 = .ok (.iload_n 0, 1) := by decide +kernel
theorem dJ9_max_7cf53_1 : decode cJ9_max_7cf53 1 = .ok (.iload_n 1, 1) := by decide +kernel
theorem dJ9_max_7cf53_2 : decode cJ9_max_7cf53 2 = .ok (.if_icmp .lt 7, 3) := by decide +kernel
theorem dJ9_max_7cf53_5 : decode cJ9_max_7cf53 5 = .ok (.iload_n 0, 1) := by decide +kernel
theorem dJ9_max_7cf53_6 : decode cJ9_max_7cf53 6 = .ok (.goto 4, 3) := by decide +kernel
theorem dJ9_max_7cf53_9 : decode cJ9_max_7cf53 9 = .ok (.iload_n 1, 1) := by decide +kernel
theorem dJ9_max_7cf53_10 : decode cJ9_max_7cf53 10 = .ok (.ireturn, 1) := by decide +kernel
theorem dJ9_min_7cf53_0 : decode cJ9_min_7cf53 0 = .ok (.iload_n 0, 1) := by decide +kernel
theorem dJ9_min_7cf53_1 : decode cJ9_min_7cf53 1 = .ok (.iload_n 1, 1) := by decide +kernel
theorem dJ9_min_7cf53_2 : decode cJ9_min_7cf53 2 = .ok (.if_icmp .gt 7, 3) := by decide +kernel
theorem dJ9_min_7cf53_5 : decode cJ9_min_7cf53 5 = .ok (.iload_n 0, 1) := by decide +kernel
theorem dJ9_min_7cf53_6 : decode cJ9_min_7cf53 6 = .ok (.goto 4, 3) := by decide +kernel
theorem dJ9_min_7cf53_9 : decode cJ9_min_7cf53 9 = .ok (.iload_n 1, 1) := by decide +kernel
theorem dJ9_min_7cf53_10 : decode cJ9_min_7cf53 10 = .ok (.ireturn, 1) := by decide +kernel
theorem dJ7_fill_53178_0 : decode cJ7_fill_53178 0 = .ok (.iconst 0, 1) := by decide +kernel
theorem dJ7_fill_53178_1 : decode cJ7_fill_53178 1 = .ok (.istore_n 2, 1) := by decide +kernel
theorem dJ7_fill_53178_2 : decode cJ7_fill_53178 2 = .ok (.aload_n 0, 1) := by decide +kernel
theorem dJ7_fill_53178_3 : decode cJ7_fill_53178 3 = .ok (.arraylength, 1) := by decide +kernel
theorem dJ7_fill_53178_4 : decode cJ7_fill_53178 4 = .ok (.istore_n 3, 1) := by decide +kernel
theorem dJ7_fill_53178_5 : decode cJ7_fill_53178 5 = .ok (.iload_n 2, 1) := by decide +kernel
theorem dJ7_fill_53178_6 : decode cJ7_fill_53178 6 = .ok (.iload_n 3, 1) := by decide +kernel
theorem dJ7_fill_53178_7 : decode cJ7_fill_53178 7 = .ok (.if_icmp .ge 13, 3) := by decide +kernel
theorem dJ7_fill_53178_10 : decode cJ7_fill_53178 10 = .ok (.aload_n 0, 1) := by decide +kernel
theorem dJ7_fill_53178_11 : decode cJ7_fill_53178 11 = .ok (.iload_n 2, 1) := by decide +kernel
theorem dJ7_fill_53178_12 : decode cJ7_fill_53178 12 = .ok (.iload_n 1, 1) := by decide +kernel
theorem dJ7_fill_53178_13 : decode cJ7_fill_53178 13 = .ok (.iastore, 1) := by decide +kernel
theorem dJ7_fill_53178_14 : decode cJ7_fill_53178 14 = .ok (.iinc 2 1, 3) := by decide +kernel
theorem dJ7_fill_53178_17 : decode cJ7_fill_53178 17 = .ok (.goto (-12), 3) := by decide +kernel
theorem dJ7_fill_53178_20 : decode cJ7_fill_53178 20 = .ok (.return_, 1) := by decide +kernel
