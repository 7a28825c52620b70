theorem dX0_init_0 : decode cX0_init 0 = .ok (.aload_n 0, 1) := by decide +kernel
theorem dX0_init_1 : decode cX0_init 1 = .ok (.invokespecial 1, 3) := by decide +kernel
theorem dX0_init_4 : decode cX0_init 4 = .ok (.return_, 1) := by decide +kernel
theorem dX0_leftBehind_0 : decode cX0_leftBehind 0 = .ok (.iload_n 1, 1) := by decide +kernel
theorem dX0_leftBehind_1 : decode cX0_leftBehind 1 = .ok (.iconst 2, 1) := by decide +kernel
theorem dX0_leftBehind_2 : decode cX0_leftBehind 2 = .ok (.idiv, 1) := by decide +kernel
theorem dX0_leftBehind_3 : decode cX0_leftBehind 3 = .ok (.ireturn, 1) := by decide +kernel
theorem dX1_init_0 : decode cX1_init 0 = .ok (.aload_n 0, 1) := by decide +kernel
theorem dX1_init_1 : decode cX1_init 1 = .ok (.invokespecial 1, 3) := by decide +kernel
theorem dX1_init_4 : decode cX1_init 4 = .ok (.return_, 1) := by decide +kernel
theorem dX1_loudness_0 : decode cX1_loudness 0 = .ok (.iconst 2, 1) := by decide +kernel
theorem dX1_loudness_1 : decode cX1_loudness 1 = .ok (.iload_n 1, 1) := by decide +kernel
theorem dX1_loudness_2 : decode cX1_loudness 2 = .ok (.imul, 1) := by decide +kernel
theorem dX1_loudness_3 : decode cX1_loudness 3 = .ok (.ireturn, 1) := by decide +kernel
theorem dX1_leftBehind_0 : decode cX1_leftBehind 0 = .ok (.iload_n 1, 1) := by decide +kernel
theorem dX1_leftBehind_1 : decode cX1_leftBehind 1 = .ok (.iconst 1, 1) := by decide +kernel
theorem dX1_leftBehind_2 : decode cX1_leftBehind 2 = .ok (.isub, 1) := by decide +kernel
theorem dX1_leftBehind_3 : decode cX1_leftBehind 3 = .ok (.iconst 0, 1) := by decide +kernel
theorem dX1_leftBehind_4 : decode cX1_leftBehind 4 = .ok (.invokestatic 7, 3) := by decide +kernel
theorem dX1_leftBehind_7 : decode cX1_leftBehind 7 = .ok (.ireturn, 1) := by decide +kernel
theorem dX2_init_0 : decode cX2_init 0 = .ok (.aload_n 0, 1) := by decide +kernel
theorem dX2_init_1 : decode cX2_init 1 = .ok (.invokespecial 3, 3) := by decide +kernel
theorem dX2_init_4 : decode cX2_init 4 = .ok (.aload_n 0, 1) := by decide +kernel
theorem dX2_init_5 : decode cX2_init 5 = .ok (.iconst 5, 1) := by decide +kernel
theorem dX2_init_6 : decode cX2_init 6 = .ok (.anewarray 9, 3) := by decide +kernel
theorem dX2_init_9 : decode cX2_init 9 = .ok (.dup, 1) := by decide +kernel
theorem dX2_init_10 : decode cX2_init 10 = .ok (.iconst 0, 1) := by decide +kernel
theorem dX2_init_11 : decode cX2_init 11 = .ok (.new 9, 3) := by decide +kernel
theorem dX2_init_14 : decode cX2_init 14 = .ok (.dup, 1) := by decide +kernel
theorem dX2_init_15 : decode cX2_init 15 = .ok (.invokespecial 11, 3) := by decide +kernel
theorem dX2_init_18 : decode cX2_init 18 = .ok (.aastore, 1) := by decide +kernel
theorem dX2_init_19 : decode cX2_init 19 = .ok (.dup, 1) := by decide +kernel
theorem dX2_init_20 : decode cX2_init 20 = .ok (.iconst 1, 1) := by decide +kernel
theorem dX2_init_21 : decode cX2_init 21 = .ok (.new 12, 3) := by decide +kernel
theorem dX2_init_24 : decode cX2_init 24 = .ok (.dup, 1) := by decide +kernel
theorem dX2_init_25 : decode cX2_init 25 = .ok (.invokespecial 14, 3) := by decide +kernel
theorem dX2_init_28 : decode cX2_init 28 = .ok (.aastore, 1) := by decide +kernel
theorem dX2_init_29 : decode cX2_init 29 = .ok (.dup, 1) := by decide +kernel
theorem dX2_init_30 : decode cX2_init 30 = .ok (.iconst 2, 1) := by decide +kernel
theorem dX2_init_31 : decode cX2_init 31 = .ok (.new 15, 3) := by decide +kernel
theorem dX2_init_34 : decode cX2_init 34 = .ok (.dup, 1) := by decide +kernel
theorem dX2_init_35 : decode cX2_init 35 = .ok (.invokespecial 17, 3) := by decide +kernel
theorem dX2_init_38 : decode cX2_init 38 = .ok (.aastore, 1) := by decide +kernel
theorem dX2_init_39 : decode cX2_init 39 = .ok (.dup, 1) := by decide +kernel
theorem dX2_init_40 : decode cX2_init 40 = .ok (.iconst 3, 1) := by decide +kernel
theorem dX2_init_41 : decode cX2_init 41 = .ok (.new 18, 3) := by decide +kernel
theorem dX2_init_44 : decode cX2_init 44 = .ok (.dup, 1) := by decide +kernel
theorem dX2_init_45 : decode cX2_init 45 = .ok (.invokespecial 20, 3) := by decide +kernel
theorem dX2_init_48 : decode cX2_init 48 = .ok (.aastore, 1) := by decide +kernel
theorem dX2_init_49 : decode cX2_init 49 = .ok (.dup, 1) := by decide +kernel
theorem dX2_init_50 : decode cX2_init 50 = .ok (.iconst 4, 1) := by decide +kernel
theorem dX2_init_51 : decode cX2_init 51 = .ok (.new 21, 3) := by decide +kernel
theorem dX2_init_54 : decode cX2_init 54 = .ok (.dup, 1) := by decide +kernel
theorem dX2_init_55 : decode cX2_init 55 = .ok (.invokespecial 23, 3) := by decide +kernel
theorem dX2_init_58 : decode cX2_init 58 = .ok (.aastore, 1) := by decide +kernel
theorem dX2_init_59 : decode cX2_init 59 = .ok (.putfield 24, 3) := by decide +kernel
theorem dX2_init_62 : decode cX2_init 62 = .ok (.aload_n 0, 1) := by decide +kernel
theorem dX2_init_63 : decode cX2_init 63 = .ok (.iconst 5, 1) := by decide +kernel
theorem dX2_init_64 : decode cX2_init 64 = .ok (.newarray .int, 2) := by decide +kernel
theorem dX2_init_66 : decode cX2_init 66 = .ok (.putfield 30, 3) := by decide +kernel
theorem dX2_init_69 : decode cX2_init 69 = .ok (.aload_n 0, 1) := by decide +kernel
theorem dX2_init_70 : decode cX2_init 70 = .ok (.iconst 5, 1) := by decide +kernel
theorem dX2_init_71 : decode cX2_init 71 = .ok (.newarray .int, 2) := by decide +kernel
theorem dX2_init_73 : decode cX2_init 73 = .ok (.putfield 34, 3) := by decide +kernel
theorem dX2_init_76 : decode cX2_init 76 = .ok (.aload_n 0, 1) := by decide +kernel
theorem dX2_init_77 : decode cX2_init 77 = .ok (.bipush 8, 2) := by decide +kernel
theorem dX2_init_79 : decode cX2_init 79 = .ok (.newarray .int, 2) := by decide +kernel
theorem dX2_init_81 : decode cX2_init 81 = .ok (.putfield 37, 3) := by decide +kernel
theorem dX2_init_84 : decode cX2_init 84 = .ok (.aload_n 0, 1) := by decide +kernel
theorem dX2_init_85 : decode cX2_init 85 = .ok (.bipush 8, 2) := by decide +kernel
theorem dX2_init_87 : decode cX2_init 87 = .ok (.newarray .int, 2) := by decide +kernel
theorem dX2_init_89 : decode cX2_init 89 = .ok (.putfield 40, 3) := by decide +kernel
theorem dX2_init_92 : decode cX2_init 92 = .ok (.aload_n 0, 1) := by decide +kernel
theorem dX2_init_93 : decode cX2_init 93 = .ok (.iconst 4, 1) := by decide +kernel
theorem dX2_init_94 : decode cX2_init 94 = .ok (.newarray .int, 2) := by decide +kernel
theorem dX2_init_96 : decode cX2_init 96 = .ok (.putfield 43, 3) := by decide +kernel
theorem dX2_init_99 : decode cX2_init 99 = .ok (.aload_n 0, 1) := by decide +kernel
theorem dX2_init_100 : decode cX2_init 100 = .ok (.new 46, 3) := by decide +kernel
theorem dX2_init_103 : decode cX2_init 103 = .ok (.dup, 1) := by decide +kernel
theorem dX2_init_104 : decode cX2_init 104 = .ok (.invokespecial 48, 3) := by decide +kernel
theorem dX2_init_107 : decode cX2_init 107 = .ok (.putfield 49, 3) := by decide +kernel
theorem dX2_init_110 : decode cX2_init 110 = .ok (.return_, 1) := by decide +kernel
theorem dX2_takeAll_0 : decode cX2_takeAll 0 = .ok (.aload_n 1, 1) := by decide +kernel
theorem dX2_takeAll_1 : decode cX2_takeAll 1 = .ok (.getfield 30, 3) := by decide +kernel
theorem dX2_takeAll_4 : decode cX2_takeAll 4 = .ok (.iconst 0, 1) := by decide +kernel
theorem dX2_takeAll_5 : decode cX2_takeAll 5 = .ok (.aload_n 0, 1) := by decide +kernel
theorem dX2_takeAll_6 : decode cX2_takeAll 6 = .ok (.getfield 30, 3) := by decide +kernel
theorem dX2_takeAll_9 : decode cX2_takeAll 9 = .ok (.iconst 0, 1) := by decide +kernel
theorem dX2_takeAll_10 : decode cX2_takeAll 10 = .ok (.iconst 5, 1) := by decide +kernel
theorem dX2_takeAll_11 : decode cX2_takeAll 11 = .ok (.invokestatic 53, 3) := by decide +kernel
theorem dX2_takeAll_14 : decode cX2_takeAll 14 = .ok (.aload_n 1, 1) := by decide +kernel
theorem dX2_takeAll_15 : decode cX2_takeAll 15 = .ok (.getfield 34, 3) := by decide +kernel
theorem dX2_takeAll_18 : decode cX2_takeAll 18 = .ok (.iconst 0, 1) := by decide +kernel
theorem dX2_takeAll_19 : decode cX2_takeAll 19 = .ok (.aload_n 0, 1) := by decide +kernel
theorem dX2_takeAll_20 : decode cX2_takeAll 20 = .ok (.getfield 34, 3) := by decide +kernel
theorem dX2_takeAll_23 : decode cX2_takeAll 23 = .ok (.iconst 0, 1) := by decide +kernel
theorem dX2_takeAll_24 : decode cX2_takeAll 24 = .ok (.iconst 5, 1) := by decide +kernel
theorem dX2_takeAll_25 : decode cX2_takeAll 25 = .ok (.invokestatic 53, 3) := by decide +kernel
theorem dX2_takeAll_28 : decode cX2_takeAll 28 = .ok (.aload_n 1, 1) := by decide +kernel
theorem dX2_takeAll_29 : decode cX2_takeAll 29 = .ok (.getfield 37, 3) := by decide +kernel
theorem dX2_takeAll_32 : decode cX2_takeAll 32 = .ok (.iconst 0, 1) := by decide +kernel
theorem dX2_takeAll_33 : decode cX2_takeAll 33 = .ok (.aload_n 0, 1) := by decide +kernel
theorem dX2_takeAll_34 : decode cX2_takeAll 34 = .ok (.getfield 37, 3) := by decide +kernel
theorem dX2_takeAll_37 : decode cX2_takeAll 37 = .ok (.iconst 0, 1) := by decide +kernel
theorem dX2_takeAll_38 : decode cX2_takeAll 38 = .ok (.bipush 8, 2) := by decide +kernel
theorem dX2_takeAll_40 : decode cX2_takeAll 40 = .ok (.invokestatic 53, 3) := by decide +kernel
theorem dX2_takeAll_43 : decode cX2_takeAll 43 = .ok (.aload_n 1, 1) := by decide +kernel
theorem dX2_takeAll_44 : decode cX2_takeAll 44 = .ok (.getfield 40, 3) := by decide +kernel
theorem dX2_takeAll_47 : decode cX2_takeAll 47 = .ok (.iconst 0, 1) := by decide +kernel
theorem dX2_takeAll_48 : decode cX2_takeAll 48 = .ok (.aload_n 0, 1) := by decide +kernel
theorem dX2_takeAll_49 : decode cX2_takeAll 49 = .ok (.getfield 40, 3) := by decide +kernel
theorem dX2_takeAll_52 : decode cX2_takeAll 52 = .ok (.iconst 0, 1) := by decide +kernel
theorem dX2_takeAll_53 : decode cX2_takeAll 53 = .ok (.bipush 8, 2) := by decide +kernel
theorem dX2_takeAll_55 : decode cX2_takeAll 55 = .ok (.invokestatic 53, 3) := by decide +kernel
theorem dX2_takeAll_58 : decode cX2_takeAll 58 = .ok (.aload_n 0, 1) := by decide +kernel
theorem dX2_takeAll_59 : decode cX2_takeAll 59 = .ok (.getfield 49, 3) := by decide +kernel
theorem dX2_takeAll_62 : decode cX2_takeAll 62 = .ok (.aload_n 1, 1) := by decide +kernel
theorem dX2_takeAll_63 : decode cX2_takeAll 63 = .ok (.getfield 49, 3) := by decide +kernel
theorem dX2_takeAll_66 : decode cX2_takeAll 66 = .ok (.invokevirtual 59, 3) := by decide +kernel
theorem dX2_takeAll_69 : decode cX2_takeAll 69 = .ok (.aload_n 0, 1) := by decide +kernel
theorem dX2_takeAll_70 : decode cX2_takeAll 70 = .ok (.aload_n 1, 1) := by decide +kernel
theorem dX2_takeAll_71 : decode cX2_takeAll 71 = .ok (.getfield 63, 3) := by decide +kernel
theorem dX2_takeAll_74 : decode cX2_takeAll 74 = .ok (.putfield 63, 3) := by decide +kernel
theorem dX2_takeAll_77 : decode cX2_takeAll 77 = .ok (.aload_n 0, 1) := by decide +kernel
theorem dX2_takeAll_78 : decode cX2_takeAll 78 = .ok (.aload_n 1, 1) := by decide +kernel
theorem dX2_takeAll_79 : decode cX2_takeAll 79 = .ok (.getfield 67, 3) := by decide +kernel
theorem dX2_takeAll_82 : decode cX2_takeAll 82 = .ok (.putfield 67, 3) := by decide +kernel
theorem dX2_takeAll_85 : decode cX2_takeAll 85 = .ok (.return_, 1) := by decide +kernel
theorem dX2_clear_0 : decode cX2_clear 0 = .ok (.aload_n 0, 1) := by decide +kernel
theorem dX2_clear_1 : decode cX2_clear 1 = .ok (.iconst 0, 1) := by decide +kernel
theorem dX2_clear_2 : decode cX2_clear 2 = .ok (.putfield 63, 3) := by decide +kernel
theorem dX2_clear_5 : decode cX2_clear 5 = .ok (.aload_n 0, 1) := by decide +kernel
theorem dX2_clear_6 : decode cX2_clear 6 = .ok (.iconst 0, 1) := by decide +kernel
theorem dX2_clear_7 : decode cX2_clear 7 = .ok (.putfield 67, 3) := by decide +kernel
theorem dX2_clear_10 : decode cX2_clear 10 = .ok (.aload_n 0, 1) := by decide +kernel
theorem dX2_clear_11 : decode cX2_clear 11 = .ok (.getfield 49, 3) := by decide +kernel
theorem dX2_clear_14 : decode cX2_clear 14 = .ok (.iconst 0, 1) := by decide +kernel
theorem dX2_clear_15 : decode cX2_clear 15 = .ok (.putfield 70, 3) := by decide +kernel
theorem dX2_clear_18 : decode cX2_clear 18 = .ok (.aload_n 0, 1) := by decide +kernel
theorem dX2_clear_19 : decode cX2_clear 19 = .ok (.getfield 49, 3) := by decide +kernel
theorem dX2_clear_22 : decode cX2_clear 22 = .ok (.iload_n 1, 1) := by decide +kernel
theorem dX2_clear_23 : decode cX2_clear 23 = .ok (.putfield 73, 3) := by decide +kernel
theorem dX2_clear_26 : decode cX2_clear 26 = .ok (.return_, 1) := by decide +kernel
theorem dX2_addSleeper_0 : decode cX2_addSleeper 0 = .ok (.aload_n 0, 1) := by decide +kernel
theorem dX2_addSleeper_1 : decode cX2_addSleeper 1 = .ok (.getfield 63, 3) := by decide +kernel
theorem dX2_addSleeper_4 : decode cX2_addSleeper 4 = .ok (.iconst 5, 1) := by decide +kernel
theorem dX2_addSleeper_5 : decode cX2_addSleeper 5 = .ok (.if_icmp .lt 4, 3) := by decide +kernel
theorem dX2_addSleeper_8 : decode cX2_addSleeper 8 = .ok (.return_, 1) := by decide +kernel
theorem dX2_addSleeper_9 : decode cX2_addSleeper 9 = .ok (.aload_n 0, 1) := by decide +kernel
theorem dX2_addSleeper_10 : decode cX2_addSleeper 10 = .ok (.getfield 30, 3) := by decide +kernel
theorem dX2_addSleeper_13 : decode cX2_addSleeper 13 = .ok (.aload_n 0, 1) := by decide +kernel
theorem dX2_addSleeper_14 : decode cX2_addSleeper 14 = .ok (.getfield 63, 3) := by decide +kernel
theorem dX2_addSleeper_17 : decode cX2_addSleeper 17 = .ok (.iload_n 1, 1) := by decide +kernel
theorem dX2_addSleeper_18 : decode cX2_addSleeper 18 = .ok (.iastore, 1) := by decide +kernel
theorem dX2_addSleeper_19 : decode cX2_addSleeper 19 = .ok (.aload_n 0, 1) := by decide +kernel
theorem dX2_addSleeper_20 : decode cX2_addSleeper 20 = .ok (.getfield 34, 3) := by decide +kernel
theorem dX2_addSleeper_23 : decode cX2_addSleeper 23 = .ok (.aload_n 0, 1) := by decide +kernel
theorem dX2_addSleeper_24 : decode cX2_addSleeper 24 = .ok (.getfield 63, 3) := by decide +kernel
theorem dX2_addSleeper_27 : decode cX2_addSleeper 27 = .ok (.iload_n 2, 1) := by decide +kernel
theorem dX2_addSleeper_28 : decode cX2_addSleeper 28 = .ok (.iastore, 1) := by decide +kernel
theorem dX2_addSleeper_29 : decode cX2_addSleeper 29 = .ok (.aload_n 0, 1) := by decide +kernel
theorem dX2_addSleeper_30 : decode cX2_addSleeper 30 = .ok (.getfield 49, 3) := by decide +kernel
theorem dX2_addSleeper_33 : decode cX2_addSleeper 33 = .ok (.getfield 76, 3) := by decide +kernel
theorem dX2_addSleeper_36 : decode cX2_addSleeper 36 = .ok (.aload_n 0, 1) := by decide +kernel
theorem dX2_addSleeper_37 : decode cX2_addSleeper 37 = .ok (.getfield 63, 3) := by decide +kernel
theorem dX2_addSleeper_40 : decode cX2_addSleeper 40 = .ok (.iconst 0, 1) := by decide +kernel
theorem dX2_addSleeper_41 : decode cX2_addSleeper 41 = .ok (.iastore, 1) := by decide +kernel
theorem dX2_addSleeper_42 : decode cX2_addSleeper 42 = .ok (.aload_n 0, 1) := by decide +kernel
theorem dX2_addSleeper_43 : decode cX2_addSleeper 43 = .ok (.getfield 49, 3) := by decide +kernel
theorem dX2_addSleeper_46 : decode cX2_addSleeper 46 = .ok (.getfield 79, 3) := by decide +kernel
theorem dX2_addSleeper_49 : decode cX2_addSleeper 49 = .ok (.aload_n 0, 1) := by decide +kernel
theorem dX2_addSleeper_50 : decode cX2_addSleeper 50 = .ok (.getfield 63, 3) := by decide +kernel
theorem dX2_addSleeper_53 : decode cX2_addSleeper 53 = .ok (.iconst 0, 1) := by decide +kernel
theorem dX2_addSleeper_54 : decode cX2_addSleeper 54 = .ok (.iastore, 1) := by decide +kernel
theorem dX2_addSleeper_55 : decode cX2_addSleeper 55 = .ok (.aload_n 0, 1) := by decide +kernel
theorem dX2_addSleeper_56 : decode cX2_addSleeper 56 = .ok (.dup, 1) := by decide +kernel
theorem dX2_addSleeper_57 : decode cX2_addSleeper 57 = .ok (.getfield 63, 3) := by decide +kernel
theorem dX2_addSleeper_60 : decode cX2_addSleeper 60 = .ok (.iconst 1, 1) := by decide +kernel
theorem dX2_addSleeper_61 : decode cX2_addSleeper 61 = .ok (.iadd, 1) := by decide +kernel
theorem dX2_addSleeper_62 : decode cX2_addSleeper 62 = .ok (.putfield 63, 3) := by decide +kernel
theorem dX2_addSleeper_65 : decode cX2_addSleeper 65 = .ok (.return_, 1) := by decide +kernel
theorem dX2_addThing_0 : decode cX2_addThing 0 = .ok (.aload_n 0, 1) := by decide +kernel
theorem dX2_addThing_1 : decode cX2_addThing 1 = .ok (.getfield 67, 3) := by decide +kernel
theorem dX2_addThing_4 : decode cX2_addThing 4 = .ok (.bipush 8, 2) := by decide +kernel
theorem dX2_addThing_6 : decode cX2_addThing 6 = .ok (.if_icmp .lt 4, 3) := by decide +kernel
theorem dX2_addThing_9 : decode cX2_addThing 9 = .ok (.return_, 1) := by decide +kernel
theorem dX2_addThing_10 : decode cX2_addThing 10 = .ok (.aload_n 0, 1) := by decide +kernel
theorem dX2_addThing_11 : decode cX2_addThing 11 = .ok (.getfield 37, 3) := by decide +kernel
theorem dX2_addThing_14 : decode cX2_addThing 14 = .ok (.aload_n 0, 1) := by decide +kernel
theorem dX2_addThing_15 : decode cX2_addThing 15 = .ok (.getfield 67, 3) := by decide +kernel
theorem dX2_addThing_18 : decode cX2_addThing 18 = .ok (.iload_n 1, 1) := by decide +kernel
theorem dX2_addThing_19 : decode cX2_addThing 19 = .ok (.iastore, 1) := by decide +kernel
theorem dX2_addThing_20 : decode cX2_addThing 20 = .ok (.aload_n 0, 1) := by decide +kernel
theorem dX2_addThing_21 : decode cX2_addThing 21 = .ok (.getfield 40, 3) := by decide +kernel
theorem dX2_addThing_24 : decode cX2_addThing 24 = .ok (.aload_n 0, 1) := by decide +kernel
theorem dX2_addThing_25 : decode cX2_addThing 25 = .ok (.getfield 67, 3) := by decide +kernel
theorem dX2_addThing_28 : decode cX2_addThing 28 = .ok (.iload_n 3, 1) := by decide +kernel
theorem dX2_addThing_29 : decode cX2_addThing 29 = .ok (.iastore, 1) := by decide +kernel
theorem dX2_addThing_30 : decode cX2_addThing 30 = .ok (.aload_n 0, 1) := by decide +kernel
theorem dX2_addThing_31 : decode cX2_addThing 31 = .ok (.getfield 49, 3) := by decide +kernel
theorem dX2_addThing_34 : decode cX2_addThing 34 = .ok (.getfield 82, 3) := by decide +kernel
theorem dX2_addThing_37 : decode cX2_addThing 37 = .ok (.aload_n 0, 1) := by decide +kernel
theorem dX2_addThing_38 : decode cX2_addThing 38 = .ok (.getfield 67, 3) := by decide +kernel
theorem dX2_addThing_41 : decode cX2_addThing 41 = .ok (.iload_n 2, 1) := by decide +kernel
theorem dX2_addThing_42 : decode cX2_addThing 42 = .ok (.iastore, 1) := by decide +kernel
theorem dX2_addThing_43 : decode cX2_addThing 43 = .ok (.aload_n 0, 1) := by decide +kernel
theorem dX2_addThing_44 : decode cX2_addThing 44 = .ok (.getfield 49, 3) := by decide +kernel
theorem dX2_addThing_47 : decode cX2_addThing 47 = .ok (.getfield 85, 3) := by decide +kernel
theorem dX2_addThing_50 : decode cX2_addThing 50 = .ok (.aload_n 0, 1) := by decide +kernel
theorem dX2_addThing_51 : decode cX2_addThing 51 = .ok (.getfield 67, 3) := by decide +kernel
theorem dX2_addThing_54 : decode cX2_addThing 54 = .ok (.iload 4, 2) := by decide +kernel
theorem dX2_addThing_56 : decode cX2_addThing 56 = .ok (.iastore, 1) := by decide +kernel
theorem dX2_addThing_57 : decode cX2_addThing 57 = .ok (.aload_n 0, 1) := by decide +kernel
theorem dX2_addThing_58 : decode cX2_addThing 58 = .ok (.getfield 49, 3) := by decide +kernel
theorem dX2_addThing_61 : decode cX2_addThing 61 = .ok (.getfield 88, 3) := by decide +kernel
theorem dX2_addThing_64 : decode cX2_addThing 64 = .ok (.aload_n 0, 1) := by decide +kernel
theorem dX2_addThing_65 : decode cX2_addThing 65 = .ok (.getfield 67, 3) := by decide +kernel
theorem dX2_addThing_68 : decode cX2_addThing 68 = .ok (.iload_n 3, 1) := by decide +kernel
theorem dX2_addThing_69 : decode cX2_addThing 69 = .ok (.invokestatic 91, 3) := by decide +kernel
theorem dX2_addThing_72 : decode cX2_addThing 72 = .ok (.iastore, 1) := by decide +kernel
theorem dX2_addThing_73 : decode cX2_addThing 73 = .ok (.aload_n 0, 1) := by decide +kernel
theorem dX2_addThing_74 : decode cX2_addThing 74 = .ok (.dup, 1) := by decide +kernel
theorem dX2_addThing_75 : decode cX2_addThing 75 = .ok (.getfield 67, 3) := by decide +kernel
theorem dX2_addThing_78 : decode cX2_addThing 78 = .ok (.iconst 1, 1) := by decide +kernel
theorem dX2_addThing_79 : decode cX2_addThing 79 = .ok (.iadd, 1) := by decide +kernel
theorem dX2_addThing_80 : decode cX2_addThing 80 = .ok (.putfield 67, 3) := by decide +kernel
theorem dX2_addThing_83 : decode cX2_addThing 83 = .ok (.return_, 1) := by decide +kernel
theorem dX2_hasSleeper_0 : decode cX2_hasSleeper 0 = .ok (.iload_n 1, 1) := by decide +kernel
theorem dX2_hasSleeper_1 : decode cX2_hasSleeper 1 = .ok (.iconst 0, 1) := by decide +kernel
theorem dX2_hasSleeper_2 : decode cX2_hasSleeper 2 = .ok (.aload_n 0, 1) := by decide +kernel
theorem dX2_hasSleeper_3 : decode cX2_hasSleeper 3 = .ok (.getfield 63, 3) := by decide +kernel
theorem dX2_hasSleeper_6 : decode cX2_hasSleeper 6 = .ok (.iconst 1, 1) := by decide +kernel
theorem dX2_hasSleeper_7 : decode cX2_hasSleeper 7 = .ok (.isub, 1) := by decide +kernel
theorem dX2_hasSleeper_8 : decode cX2_hasSleeper 8 = .ok (.invokestatic 95, 3) := by decide +kernel
theorem dX2_hasSleeper_11 : decode cX2_hasSleeper 11 = .ok (.ireturn, 1) := by decide +kernel
theorem dX2_hasThing_0 : decode cX2_hasThing 0 = .ok (.iload_n 1, 1) := by decide +kernel
theorem dX2_hasThing_1 : decode cX2_hasThing 1 = .ok (.iconst 0, 1) := by decide +kernel
theorem dX2_hasThing_2 : decode cX2_hasThing 2 = .ok (.aload_n 0, 1) := by decide +kernel
theorem dX2_hasThing_3 : decode cX2_hasThing 3 = .ok (.getfield 67, 3) := by decide +kernel
theorem dX2_hasThing_6 : decode cX2_hasThing 6 = .ok (.iconst 1, 1) := by decide +kernel
theorem dX2_hasThing_7 : decode cX2_hasThing 7 = .ok (.isub, 1) := by decide +kernel
theorem dX2_hasThing_8 : decode cX2_hasThing 8 = .ok (.invokestatic 95, 3) := by decide +kernel
theorem dX2_hasThing_11 : decode cX2_hasThing 11 = .ok (.ireturn, 1) := by decide +kernel
theorem dX2_leftBehind_0 : decode cX2_leftBehind 0 = .ok (.aload_n 0, 1) := by decide +kernel
theorem dX2_leftBehind_1 : decode cX2_leftBehind 1 = .ok (.getfield 24, 3) := by decide +kernel
theorem dX2_leftBehind_4 : decode cX2_leftBehind 4 = .ok (.iload_n 1, 1) := by decide +kernel
theorem dX2_leftBehind_5 : decode cX2_leftBehind 5 = .ok (.aaload, 1) := by decide +kernel
theorem dX2_leftBehind_6 : decode cX2_leftBehind 6 = .ok (.iload_n 3, 1) := by decide +kernel
theorem dX2_leftBehind_7 : decode cX2_leftBehind 7 = .ok (.iload_n 2, 1) := by decide +kernel
theorem dX2_leftBehind_8 : decode cX2_leftBehind 8 = .ok (.aload_n 0, 1) := by decide +kernel
theorem dX2_leftBehind_9 : decode cX2_leftBehind 9 = .ok (.getfield 49, 3) := by decide +kernel
theorem dX2_leftBehind_12 : decode cX2_leftBehind 12 = .ok (.getfield 70, 3) := by decide +kernel
theorem dX2_leftBehind_15 : decode cX2_leftBehind 15 = .ok (.iload 4, 2) := by decide +kernel
theorem dX2_leftBehind_17 : decode cX2_leftBehind 17 = .ok (.iadd, 1) := by decide +kernel
theorem dX2_leftBehind_18 : decode cX2_leftBehind 18 = .ok (.invokevirtual 99, 3) := by decide +kernel
theorem dX2_leftBehind_21 : decode cX2_leftBehind 21 = .ok (.ireturn, 1) := by decide +kernel
theorem dX2_loudWith_0 : decode cX2_loudWith 0 = .ok (.iload_n 2, 1) := by decide +kernel
theorem dX2_loudWith_1 : decode cX2_loudWith 1 = .ok (.ifCond .ne 7, 3) := by decide +kernel
theorem dX2_loudWith_4 : decode cX2_loudWith 4 = .ok (.iconst 0, 1) := by decide +kernel
theorem dX2_loudWith_5 : decode cX2_loudWith 5 = .ok (.goto 32, 3) := by decide +kernel
theorem dX2_loudWith_8 : decode cX2_loudWith 8 = .ok (.aload_n 0, 1) := by decide +kernel
theorem dX2_loudWith_9 : decode cX2_loudWith 9 = .ok (.getfield 24, 3) := by decide +kernel
theorem dX2_loudWith_12 : decode cX2_loudWith 12 = .ok (.aload_n 0, 1) := by decide +kernel
theorem dX2_loudWith_13 : decode cX2_loudWith 13 = .ok (.getfield 37, 3) := by decide +kernel
theorem dX2_loudWith_16 : decode cX2_loudWith 16 = .ok (.iload_n 1, 1) := by decide +kernel
theorem dX2_loudWith_17 : decode cX2_loudWith 17 = .ok (.iaload, 1) := by decide +kernel
theorem dX2_loudWith_18 : decode cX2_loudWith 18 = .ok (.aaload, 1) := by decide +kernel
theorem dX2_loudWith_19 : decode cX2_loudWith 19 = .ok (.aload_n 0, 1) := by decide +kernel
theorem dX2_loudWith_20 : decode cX2_loudWith 20 = .ok (.getfield 40, 3) := by decide +kernel
theorem dX2_loudWith_23 : decode cX2_loudWith 23 = .ok (.iload_n 1, 1) := by decide +kernel
theorem dX2_loudWith_24 : decode cX2_loudWith 24 = .ok (.iaload, 1) := by decide +kernel
theorem dX2_loudWith_25 : decode cX2_loudWith 25 = .ok (.aload_n 0, 1) := by decide +kernel
theorem dX2_loudWith_26 : decode cX2_loudWith 26 = .ok (.getfield 49, 3) := by decide +kernel
theorem dX2_loudWith_29 : decode cX2_loudWith 29 = .ok (.getfield 70, 3) := by decide +kernel
theorem dX2_loudWith_32 : decode cX2_loudWith 32 = .ok (.iload_n 3, 1) := by decide +kernel
theorem dX2_loudWith_33 : decode cX2_loudWith 33 = .ok (.iadd, 1) := by decide +kernel
theorem dX2_loudWith_34 : decode cX2_loudWith 34 = .ok (.invokevirtual 103, 3) := by decide +kernel
theorem dX2_loudWith_37 : decode cX2_loudWith 37 = .ok (.ireturn, 1) := by decide +kernel
theorem dX2_loudOfSet_0 : decode cX2_loudOfSet 0 = .ok (.iconst 0, 1) := by decide +kernel
theorem dX2_loudOfSet_1 : decode cX2_loudOfSet 1 = .ok (.istore_n 2, 1) := by decide +kernel
theorem dX2_loudOfSet_2 : decode cX2_loudOfSet 2 = .ok (.iconst 0, 1) := by decide +kernel
theorem dX2_loudOfSet_3 : decode cX2_loudOfSet 3 = .ok (.istore_n 3, 1) := by decide +kernel
theorem dX2_loudOfSet_4 : decode cX2_loudOfSet 4 = .ok (.iload_n 3, 1) := by decide +kernel
theorem dX2_loudOfSet_5 : decode cX2_loudOfSet 5 = .ok (.aload_n 0, 1) := by decide +kernel
theorem dX2_loudOfSet_6 : decode cX2_loudOfSet 6 = .ok (.getfield 67, 3) := by decide +kernel
theorem dX2_loudOfSet_9 : decode cX2_loudOfSet 9 = .ok (.if_icmp .ge 39, 3) := by decide +kernel
theorem dX2_loudOfSet_12 : decode cX2_loudOfSet 12 = .ok (.iload_n 2, 1) := by decide +kernel
theorem dX2_loudOfSet_13 : decode cX2_loudOfSet 13 = .ok (.iload_n 1, 1) := by decide +kernel
theorem dX2_loudOfSet_14 : decode cX2_loudOfSet 14 = .ok (.iload_n 3, 1) := by decide +kernel
theorem dX2_loudOfSet_15 : decode cX2_loudOfSet 15 = .ok (.invokestatic 107, 3) := by decide +kernel
theorem dX2_loudOfSet_18 : decode cX2_loudOfSet 18 = .ok (.ifCond .eq 21, 3) := by decide +kernel
theorem dX2_loudOfSet_21 : decode cX2_loudOfSet 21 = .ok (.aload_n 0, 1) := by decide +kernel
theorem dX2_loudOfSet_22 : decode cX2_loudOfSet 22 = .ok (.iload_n 3, 1) := by decide +kernel
theorem dX2_loudOfSet_23 : decode cX2_loudOfSet 23 = .ok (.aload_n 0, 1) := by decide +kernel
theorem dX2_loudOfSet_24 : decode cX2_loudOfSet 24 = .ok (.getfield 49, 3) := by decide +kernel
theorem dX2_loudOfSet_27 : decode cX2_loudOfSet 27 = .ok (.getfield 88, 3) := by decide +kernel
theorem dX2_loudOfSet_30 : decode cX2_loudOfSet 30 = .ok (.iload_n 3, 1) := by decide +kernel
theorem dX2_loudOfSet_31 : decode cX2_loudOfSet 31 = .ok (.iaload, 1) := by decide +kernel
theorem dX2_loudOfSet_32 : decode cX2_loudOfSet 32 = .ok (.iconst 0, 1) := by decide +kernel
theorem dX2_loudOfSet_33 : decode cX2_loudOfSet 33 = .ok (.invokevirtual 111, 3) := by decide +kernel
theorem dX2_loudOfSet_36 : decode cX2_loudOfSet 36 = .ok (.goto 4, 3) := by decide +kernel
theorem dX2_loudOfSet_39 : decode cX2_loudOfSet 39 = .ok (.iconst 0, 1) := by decide +kernel
theorem dX2_loudOfSet_40 : decode cX2_loudOfSet 40 = .ok (.iadd, 1) := by decide +kernel
theorem dX2_loudOfSet_41 : decode cX2_loudOfSet 41 = .ok (.istore_n 2, 1) := by decide +kernel
theorem dX2_loudOfSet_42 : decode cX2_loudOfSet 42 = .ok (.iinc 3 1, 3) := by decide +kernel
theorem dX2_loudOfSet_45 : decode cX2_loudOfSet 45 = .ok (.goto (-41), 3) := by decide +kernel
theorem dX2_loudOfSet_48 : decode cX2_loudOfSet 48 = .ok (.iload_n 2, 1) := by decide +kernel
theorem dX2_loudOfSet_49 : decode cX2_loudOfSet 49 = .ok (.ireturn, 1) := by decide +kernel
theorem dX2_loudOfAll_0 : decode cX2_loudOfAll 0 = .ok (.aload_n 0, 1) := by decide +kernel
theorem dX2_loudOfAll_1 : decode cX2_loudOfAll 1 = .ok (.iconst 1, 1) := by decide +kernel
theorem dX2_loudOfAll_2 : decode cX2_loudOfAll 2 = .ok (.aload_n 0, 1) := by decide +kernel
theorem dX2_loudOfAll_3 : decode cX2_loudOfAll 3 = .ok (.getfield 67, 3) := by decide +kernel
theorem dX2_loudOfAll_6 : decode cX2_loudOfAll 6 = .ok (.ishl, 1) := by decide +kernel
theorem dX2_loudOfAll_7 : decode cX2_loudOfAll 7 = .ok (.iconst 1, 1) := by decide +kernel
theorem dX2_loudOfAll_8 : decode cX2_loudOfAll 8 = .ok (.isub, 1) := by decide +kernel
theorem dX2_loudOfAll_9 : decode cX2_loudOfAll 9 = .ok (.invokevirtual 114, 3) := by decide +kernel
theorem dX2_loudOfAll_12 : decode cX2_loudOfAll 12 = .ok (.ireturn, 1) := by decide +kernel
theorem dX2_thingsIn_0 : decode cX2_thingsIn 0 = .ok (.iload_n 1, 1) := by decide +kernel
theorem dX2_thingsIn_1 : decode cX2_thingsIn 1 = .ok (.aload_n 0, 1) := by decide +kernel
theorem dX2_thingsIn_2 : decode cX2_thingsIn 2 = .ok (.getfield 49, 3) := by decide +kernel
theorem dX2_thingsIn_5 : decode cX2_thingsIn 5 = .ok (.getfield 85, 3) := by decide +kernel
theorem dX2_thingsIn_8 : decode cX2_thingsIn 8 = .ok (.aload_n 0, 1) := by decide +kernel
theorem dX2_thingsIn_9 : decode cX2_thingsIn 9 = .ok (.getfield 67, 3) := by decide +kernel
theorem dX2_thingsIn_12 : decode cX2_thingsIn 12 = .ok (.invokestatic 117, 3) := by decide +kernel
theorem dX2_thingsIn_15 : decode cX2_thingsIn 15 = .ok (.ireturn, 1) := by decide +kernel
theorem dX2_thingsOf_0 : decode cX2_thingsOf 0 = .ok (.iload_n 1, 1) := by decide +kernel
theorem dX2_thingsOf_1 : decode cX2_thingsOf 1 = .ok (.aload_n 0, 1) := by decide +kernel
theorem dX2_thingsOf_2 : decode cX2_thingsOf 2 = .ok (.getfield 49, 3) := by decide +kernel
theorem dX2_thingsOf_5 : decode cX2_thingsOf 5 = .ok (.getfield 82, 3) := by decide +kernel
theorem dX2_thingsOf_8 : decode cX2_thingsOf 8 = .ok (.aload_n 0, 1) := by decide +kernel
theorem dX2_thingsOf_9 : decode cX2_thingsOf 9 = .ok (.getfield 67, 3) := by decide +kernel
theorem dX2_thingsOf_12 : decode cX2_thingsOf 12 = .ok (.invokestatic 117, 3) := by decide +kernel
theorem dX2_thingsOf_15 : decode cX2_thingsOf 15 = .ok (.ireturn, 1) := by decide +kernel
theorem dX2_silentThings_0 : decode cX2_silentThings 0 = .ok (.iconst 0, 1) := by decide +kernel
theorem dX2_silentThings_1 : decode cX2_silentThings 1 = .ok (.aload_n 0, 1) := by decide +kernel
theorem dX2_silentThings_2 : decode cX2_silentThings 2 = .ok (.getfield 49, 3) := by decide +kernel
theorem dX2_silentThings_5 : decode cX2_silentThings 5 = .ok (.getfield 88, 3) := by decide +kernel
theorem dX2_silentThings_8 : decode cX2_silentThings 8 = .ok (.aload_n 0, 1) := by decide +kernel
theorem dX2_silentThings_9 : decode cX2_silentThings 9 = .ok (.getfield 67, 3) := by decide +kernel
theorem dX2_silentThings_12 : decode cX2_silentThings 12 = .ok (.invokestatic 117, 3) := by decide +kernel
theorem dX2_silentThings_15 : decode cX2_silentThings 15 = .ok (.ireturn, 1) := by decide +kernel
theorem dX2_sleepersIn_0 : decode cX2_sleepersIn 0 = .ok (.iload_n 1, 1) := by decide +kernel
theorem dX2_sleepersIn_1 : decode cX2_sleepersIn 1 = .ok (.aload_n 0, 1) := by decide +kernel
theorem dX2_sleepersIn_2 : decode cX2_sleepersIn 2 = .ok (.getfield 30, 3) := by decide +kernel
theorem dX2_sleepersIn_5 : decode cX2_sleepersIn 5 = .ok (.aload_n 0, 1) := by decide +kernel
theorem dX2_sleepersIn_6 : decode cX2_sleepersIn 6 = .ok (.getfield 63, 3) := by decide +kernel
theorem dX2_sleepersIn_9 : decode cX2_sleepersIn 9 = .ok (.invokestatic 117, 3) := by decide +kernel
theorem dX2_sleepersIn_12 : decode cX2_sleepersIn 12 = .ok (.ireturn, 1) := by decide +kernel
theorem dX2_listen_0 : decode cX2_listen 0 = .ok (.iconst 0, 1) := by decide +kernel
theorem dX2_listen_1 : decode cX2_listen 1 = .ok (.istore_n 1, 1) := by decide +kernel
theorem dX2_listen_2 : decode cX2_listen 2 = .ok (.iload_n 1, 1) := by decide +kernel
theorem dX2_listen_3 : decode cX2_listen 3 = .ok (.iconst 4, 1) := by decide +kernel
theorem dX2_listen_4 : decode cX2_listen 4 = .ok (.if_icmp .ge 16, 3) := by decide +kernel
theorem dX2_listen_7 : decode cX2_listen 7 = .ok (.aload_n 0, 1) := by decide +kernel
theorem dX2_listen_8 : decode cX2_listen 8 = .ok (.getfield 43, 3) := by decide +kernel
theorem dX2_listen_11 : decode cX2_listen 11 = .ok (.iload_n 1, 1) := by decide +kernel
theorem dX2_listen_12 : decode cX2_listen 12 = .ok (.iconst 0, 1) := by decide +kernel
theorem dX2_listen_13 : decode cX2_listen 13 = .ok (.iastore, 1) := by decide +kernel
theorem dX2_listen_14 : decode cX2_listen 14 = .ok (.iinc 1 1, 3) := by decide +kernel
theorem dX2_listen_17 : decode cX2_listen 17 = .ok (.goto (-15), 3) := by decide +kernel
theorem dX2_listen_20 : decode cX2_listen 20 = .ok (.iconst 0, 1) := by decide +kernel
theorem dX2_listen_21 : decode cX2_listen 21 = .ok (.istore_n 1, 1) := by decide +kernel
theorem dX2_listen_22 : decode cX2_listen 22 = .ok (.iload_n 1, 1) := by decide +kernel
theorem dX2_listen_23 : decode cX2_listen 23 = .ok (.aload_n 0, 1) := by decide +kernel
theorem dX2_listen_24 : decode cX2_listen 24 = .ok (.getfield 67, 3) := by decide +kernel
theorem dX2_listen_27 : decode cX2_listen 27 = .ok (.if_icmp .ge 41, 3) := by decide +kernel
theorem dX2_listen_30 : decode cX2_listen 30 = .ok (.aload_n 0, 1) := by decide +kernel
theorem dX2_listen_31 : decode cX2_listen 31 = .ok (.getfield 43, 3) := by decide +kernel
theorem dX2_listen_34 : decode cX2_listen 34 = .ok (.aload_n 0, 1) := by decide +kernel
theorem dX2_listen_35 : decode cX2_listen 35 = .ok (.getfield 49, 3) := by decide +kernel
theorem dX2_listen_38 : decode cX2_listen 38 = .ok (.getfield 85, 3) := by decide +kernel
theorem dX2_listen_41 : decode cX2_listen 41 = .ok (.iload_n 1, 1) := by decide +kernel
theorem dX2_listen_42 : decode cX2_listen 42 = .ok (.iaload, 1) := by decide +kernel
theorem dX2_listen_43 : decode cX2_listen 43 = .ok (.dup2, 1) := by decide +kernel
theorem dX2_listen_44 : decode cX2_listen 44 = .ok (.iaload, 1) := by decide +kernel
theorem dX2_listen_45 : decode cX2_listen 45 = .ok (.aload_n 0, 1) := by decide +kernel
theorem dX2_listen_46 : decode cX2_listen 46 = .ok (.iload_n 1, 1) := by decide +kernel
theorem dX2_listen_47 : decode cX2_listen 47 = .ok (.aload_n 0, 1) := by decide +kernel
theorem dX2_listen_48 : decode cX2_listen 48 = .ok (.getfield 49, 3) := by decide +kernel
theorem dX2_listen_51 : decode cX2_listen 51 = .ok (.getfield 88, 3) := by decide +kernel
theorem dX2_listen_54 : decode cX2_listen 54 = .ok (.iload_n 1, 1) := by decide +kernel
theorem dX2_listen_55 : decode cX2_listen 55 = .ok (.iaload, 1) := by decide +kernel
theorem dX2_listen_56 : decode cX2_listen 56 = .ok (.iconst 0, 1) := by decide +kernel
theorem dX2_listen_57 : decode cX2_listen 57 = .ok (.invokevirtual 111, 3) := by decide +kernel
theorem dX2_listen_60 : decode cX2_listen 60 = .ok (.iadd, 1) := by decide +kernel
theorem dX2_listen_61 : decode cX2_listen 61 = .ok (.iastore, 1) := by decide +kernel
theorem dX2_listen_62 : decode cX2_listen 62 = .ok (.iinc 1 1, 3) := by decide +kernel
theorem dX2_listen_65 : decode cX2_listen 65 = .ok (.goto (-43), 3) := by decide +kernel
theorem dX2_listen_68 : decode cX2_listen 68 = .ok (.return_, 1) := by decide +kernel
theorem dX2_isAsleep_0 : decode cX2_isAsleep 0 = .ok (.aload_n 0, 1) := by decide +kernel
theorem dX2_isAsleep_1 : decode cX2_isAsleep 1 = .ok (.getfield 43, 3) := by decide +kernel
theorem dX2_isAsleep_4 : decode cX2_isAsleep 4 = .ok (.aload_n 0, 1) := by decide +kernel
theorem dX2_isAsleep_5 : decode cX2_isAsleep 5 = .ok (.getfield 30, 3) := by decide +kernel
theorem dX2_isAsleep_8 : decode cX2_isAsleep 8 = .ok (.iload_n 1, 1) := by decide +kernel
theorem dX2_isAsleep_9 : decode cX2_isAsleep 9 = .ok (.iaload, 1) := by decide +kernel
theorem dX2_isAsleep_10 : decode cX2_isAsleep 10 = .ok (.iaload, 1) := by decide +kernel
theorem dX2_isAsleep_11 : decode cX2_isAsleep 11 = .ok (.aload_n 0, 1) := by decide +kernel
theorem dX2_isAsleep_12 : decode cX2_isAsleep 12 = .ok (.getfield 34, 3) := by decide +kernel
theorem dX2_isAsleep_15 : decode cX2_isAsleep 15 = .ok (.iload_n 1, 1) := by decide +kernel
theorem dX2_isAsleep_16 : decode cX2_isAsleep 16 = .ok (.iaload, 1) := by decide +kernel
theorem dX2_isAsleep_17 : decode cX2_isAsleep 17 = .ok (.if_icmp .gt 7, 3) := by decide +kernel
theorem dX2_isAsleep_20 : decode cX2_isAsleep 20 = .ok (.iconst 1, 1) := by decide +kernel
theorem dX2_isAsleep_21 : decode cX2_isAsleep 21 = .ok (.goto 4, 3) := by decide +kernel
theorem dX2_isAsleep_24 : decode cX2_isAsleep 24 = .ok (.iconst 0, 1) := by decide +kernel
theorem dX2_isAsleep_25 : decode cX2_isAsleep 25 = .ok (.ireturn, 1) := by decide +kernel
theorem dX2_spendNight_0 : decode cX2_spendNight 0 = .ok (.iconst 0, 1) := by decide +kernel
theorem dX2_spendNight_1 : decode cX2_spendNight 1 = .ok (.istore_n 1, 1) := by decide +kernel
theorem dX2_spendNight_2 : decode cX2_spendNight 2 = .ok (.aload_n 0, 1) := by decide +kernel
theorem dX2_spendNight_3 : decode cX2_spendNight 3 = .ok (.invokevirtual 121, 3) := by decide +kernel
theorem dX2_spendNight_6 : decode cX2_spendNight 6 = .ok (.iconst 0, 1) := by decide +kernel
theorem dX2_spendNight_7 : decode cX2_spendNight 7 = .ok (.istore_n 2, 1) := by decide +kernel
theorem dX2_spendNight_8 : decode cX2_spendNight 8 = .ok (.iload_n 2, 1) := by decide +kernel
theorem dX2_spendNight_9 : decode cX2_spendNight 9 = .ok (.aload_n 0, 1) := by decide +kernel
theorem dX2_spendNight_10 : decode cX2_spendNight 10 = .ok (.getfield 63, 3) := by decide +kernel
theorem dX2_spendNight_13 : decode cX2_spendNight 13 = .ok (.if_icmp .ge 49, 3) := by decide +kernel
theorem dX2_spendNight_16 : decode cX2_spendNight 16 = .ok (.aload_n 0, 1) := by decide +kernel
theorem dX2_spendNight_17 : decode cX2_spendNight 17 = .ok (.iload_n 2, 1) := by decide +kernel
theorem dX2_spendNight_18 : decode cX2_spendNight 18 = .ok (.invokevirtual 124, 3) := by decide +kernel
theorem dX2_spendNight_21 : decode cX2_spendNight 21 = .ok (.ifCond .eq 19, 3) := by decide +kernel
theorem dX2_spendNight_24 : decode cX2_spendNight 24 = .ok (.aload_n 0, 1) := by decide +kernel
theorem dX2_spendNight_25 : decode cX2_spendNight 25 = .ok (.getfield 49, 3) := by decide +kernel
theorem dX2_spendNight_28 : decode cX2_spendNight 28 = .ok (.getfield 76, 3) := by decide +kernel
theorem dX2_spendNight_31 : decode cX2_spendNight 31 = .ok (.iload_n 2, 1) := by decide +kernel
theorem dX2_spendNight_32 : decode cX2_spendNight 32 = .ok (.dup2, 1) := by decide +kernel
theorem dX2_spendNight_33 : decode cX2_spendNight 33 = .ok (.iaload, 1) := by decide +kernel
theorem dX2_spendNight_34 : decode cX2_spendNight 34 = .ok (.iconst 1, 1) := by decide +kernel
theorem dX2_spendNight_35 : decode cX2_spendNight 35 = .ok (.iadd, 1) := by decide +kernel
theorem dX2_spendNight_36 : decode cX2_spendNight 36 = .ok (.iastore, 1) := by decide +kernel
theorem dX2_spendNight_37 : decode cX2_spendNight 37 = .ok (.goto 19, 3) := by decide +kernel
theorem dX2_spendNight_40 : decode cX2_spendNight 40 = .ok (.aload_n 0, 1) := by decide +kernel
theorem dX2_spendNight_41 : decode cX2_spendNight 41 = .ok (.getfield 49, 3) := by decide +kernel
theorem dX2_spendNight_44 : decode cX2_spendNight 44 = .ok (.getfield 79, 3) := by decide +kernel
theorem dX2_spendNight_47 : decode cX2_spendNight 47 = .ok (.iload_n 2, 1) := by decide +kernel
theorem dX2_spendNight_48 : decode cX2_spendNight 48 = .ok (.dup2, 1) := by decide +kernel
theorem dX2_spendNight_49 : decode cX2_spendNight 49 = .ok (.iaload, 1) := by decide +kernel
theorem dX2_spendNight_50 : decode cX2_spendNight 50 = .ok (.iconst 1, 1) := by decide +kernel
theorem dX2_spendNight_51 : decode cX2_spendNight 51 = .ok (.iadd, 1) := by decide +kernel
theorem dX2_spendNight_52 : decode cX2_spendNight 52 = .ok (.iastore, 1) := by decide +kernel
theorem dX2_spendNight_53 : decode cX2_spendNight 53 = .ok (.iinc 1 1, 3) := by decide +kernel
theorem dX2_spendNight_56 : decode cX2_spendNight 56 = .ok (.iinc 2 1, 3) := by decide +kernel
theorem dX2_spendNight_59 : decode cX2_spendNight 59 = .ok (.goto (-51), 3) := by decide +kernel
theorem dX2_spendNight_62 : decode cX2_spendNight 62 = .ok (.iconst 0, 1) := by decide +kernel
theorem dX2_spendNight_63 : decode cX2_spendNight 63 = .ok (.istore_n 2, 1) := by decide +kernel
theorem dX2_spendNight_64 : decode cX2_spendNight 64 = .ok (.iload_n 2, 1) := by decide +kernel
theorem dX2_spendNight_65 : decode cX2_spendNight 65 = .ok (.aload_n 0, 1) := by decide +kernel
theorem dX2_spendNight_66 : decode cX2_spendNight 66 = .ok (.getfield 67, 3) := by decide +kernel
theorem dX2_spendNight_69 : decode cX2_spendNight 69 = .ok (.if_icmp .ge 44, 3) := by decide +kernel
theorem dX2_spendNight_72 : decode cX2_spendNight 72 = .ok (.aload_n 0, 1) := by decide +kernel
theorem dX2_spendNight_73 : decode cX2_spendNight 73 = .ok (.getfield 49, 3) := by decide +kernel
theorem dX2_spendNight_76 : decode cX2_spendNight 76 = .ok (.getfield 88, 3) := by decide +kernel
theorem dX2_spendNight_79 : decode cX2_spendNight 79 = .ok (.iload_n 2, 1) := by decide +kernel
theorem dX2_spendNight_80 : decode cX2_spendNight 80 = .ok (.aload_n 0, 1) := by decide +kernel
theorem dX2_spendNight_81 : decode cX2_spendNight 81 = .ok (.aload_n 0, 1) := by decide +kernel
theorem dX2_spendNight_82 : decode cX2_spendNight 82 = .ok (.getfield 37, 3) := by decide +kernel
theorem dX2_spendNight_85 : decode cX2_spendNight 85 = .ok (.iload_n 2, 1) := by decide +kernel
theorem dX2_spendNight_86 : decode cX2_spendNight 86 = .ok (.iaload, 1) := by decide +kernel
theorem dX2_spendNight_87 : decode cX2_spendNight 87 = .ok (.aload_n 0, 1) := by decide +kernel
theorem dX2_spendNight_88 : decode cX2_spendNight 88 = .ok (.getfield 40, 3) := by decide +kernel
theorem dX2_spendNight_91 : decode cX2_spendNight 91 = .ok (.iload_n 2, 1) := by decide +kernel
theorem dX2_spendNight_92 : decode cX2_spendNight 92 = .ok (.iaload, 1) := by decide +kernel
theorem dX2_spendNight_93 : decode cX2_spendNight 93 = .ok (.aload_n 0, 1) := by decide +kernel
theorem dX2_spendNight_94 : decode cX2_spendNight 94 = .ok (.getfield 49, 3) := by decide +kernel
theorem dX2_spendNight_97 : decode cX2_spendNight 97 = .ok (.getfield 88, 3) := by decide +kernel
theorem dX2_spendNight_100 : decode cX2_spendNight 100 = .ok (.iload_n 2, 1) := by decide +kernel
theorem dX2_spendNight_101 : decode cX2_spendNight 101 = .ok (.iaload, 1) := by decide +kernel
theorem dX2_spendNight_102 : decode cX2_spendNight 102 = .ok (.iconst 0, 1) := by decide +kernel
theorem dX2_spendNight_103 : decode cX2_spendNight 103 = .ok (.invokevirtual 128, 3) := by decide +kernel
theorem dX2_spendNight_106 : decode cX2_spendNight 106 = .ok (.iastore, 1) := by decide +kernel
theorem dX2_spendNight_107 : decode cX2_spendNight 107 = .ok (.iinc 2 1, 3) := by decide +kernel
theorem dX2_spendNight_110 : decode cX2_spendNight 110 = .ok (.goto (-46), 3) := by decide +kernel
theorem dX2_spendNight_113 : decode cX2_spendNight 113 = .ok (.aload_n 0, 1) := by decide +kernel
theorem dX2_spendNight_114 : decode cX2_spendNight 114 = .ok (.getfield 49, 3) := by decide +kernel
theorem dX2_spendNight_117 : decode cX2_spendNight 117 = .ok (.dup, 1) := by decide +kernel
theorem dX2_spendNight_118 : decode cX2_spendNight 118 = .ok (.getfield 70, 3) := by decide +kernel
theorem dX2_spendNight_121 : decode cX2_spendNight 121 = .ok (.iconst 1, 1) := by decide +kernel
theorem dX2_spendNight_122 : decode cX2_spendNight 122 = .ok (.iadd, 1) := by decide +kernel
theorem dX2_spendNight_123 : decode cX2_spendNight 123 = .ok (.putfield 70, 3) := by decide +kernel
theorem dX2_spendNight_126 : decode cX2_spendNight 126 = .ok (.iload_n 1, 1) := by decide +kernel
theorem dX2_spendNight_127 : decode cX2_spendNight 127 = .ok (.ireturn, 1) := by decide +kernel
theorem dX2_moveByDraw_0 : decode cX2_moveByDraw 0 = .ok (.aload_n 0, 1) := by decide +kernel
theorem dX2_moveByDraw_1 : decode cX2_moveByDraw 1 = .ok (.getfield 49, 3) := by decide +kernel
theorem dX2_moveByDraw_4 : decode cX2_moveByDraw 4 = .ok (.aload_n 0, 1) := by decide +kernel
theorem dX2_moveByDraw_5 : decode cX2_moveByDraw 5 = .ok (.getfield 49, 3) := by decide +kernel
theorem dX2_moveByDraw_8 : decode cX2_moveByDraw 8 = .ok (.getfield 73, 3) := by decide +kernel
theorem dX2_moveByDraw_11 : decode cX2_moveByDraw 11 = .ok (.i2l, 1) := by decide +kernel
theorem dX2_moveByDraw_12 : decode cX2_moveByDraw 12 = .ok (.ldc2_w 131, 3) := by decide +kernel
theorem dX2_moveByDraw_15 : decode cX2_moveByDraw 15 = .ok (.lmul, 1) := by decide +kernel
theorem dX2_moveByDraw_16 : decode cX2_moveByDraw 16 = .ok (.ldc2_w 133, 3) := by decide +kernel
theorem dX2_moveByDraw_19 : decode cX2_moveByDraw 19 = .ok (.ladd, 1) := by decide +kernel
theorem dX2_moveByDraw_20 : decode cX2_moveByDraw 20 = .ok (.ldc2_w 135, 3) := by decide +kernel
theorem dX2_moveByDraw_23 : decode cX2_moveByDraw 23 = .ok (.land, 1) := by decide +kernel
theorem dX2_moveByDraw_24 : decode cX2_moveByDraw 24 = .ok (.l2i, 1) := by decide +kernel
theorem dX2_moveByDraw_25 : decode cX2_moveByDraw 25 = .ok (.putfield 73, 3) := by decide +kernel
theorem dX2_moveByDraw_28 : decode cX2_moveByDraw 28 = .ok (.aload_n 0, 1) := by decide +kernel
theorem dX2_moveByDraw_29 : decode cX2_moveByDraw 29 = .ok (.getfield 49, 3) := by decide +kernel
theorem dX2_moveByDraw_32 : decode cX2_moveByDraw 32 = .ok (.getfield 73, 3) := by decide +kernel
theorem dX2_moveByDraw_35 : decode cX2_moveByDraw 35 = .ok (.ldc 137, 2) := by decide +kernel
theorem dX2_moveByDraw_37 : decode cX2_moveByDraw 37 = .ok (.idiv, 1) := by decide +kernel
theorem dX2_moveByDraw_38 : decode cX2_moveByDraw 38 = .ok (.istore_n 1, 1) := by decide +kernel
theorem dX2_moveByDraw_39 : decode cX2_moveByDraw 39 = .ok (.iload_n 1, 1) := by decide +kernel
theorem dX2_moveByDraw_40 : decode cX2_moveByDraw 40 = .ok (.iconst 3, 1) := by decide +kernel
theorem dX2_moveByDraw_41 : decode cX2_moveByDraw 41 = .ok (.irem, 1) := by decide +kernel
theorem dX2_moveByDraw_42 : decode cX2_moveByDraw 42 = .ok (.ifCond .ne 37, 3) := by decide +kernel
theorem dX2_moveByDraw_45 : decode cX2_moveByDraw 45 = .ok (.aload_n 0, 1) := by decide +kernel
theorem dX2_moveByDraw_46 : decode cX2_moveByDraw 46 = .ok (.getfield 67, 3) := by decide +kernel
theorem dX2_moveByDraw_49 : decode cX2_moveByDraw 49 = .ok (.ifCond .le 30, 3) := by decide +kernel
theorem dX2_moveByDraw_52 : decode cX2_moveByDraw 52 = .ok (.aload_n 0, 1) := by decide +kernel
theorem dX2_moveByDraw_53 : decode cX2_moveByDraw 53 = .ok (.getfield 49, 3) := by decide +kernel
theorem dX2_moveByDraw_56 : decode cX2_moveByDraw 56 = .ok (.getfield 85, 3) := by decide +kernel
theorem dX2_moveByDraw_59 : decode cX2_moveByDraw 59 = .ok (.iload_n 1, 1) := by decide +kernel
theorem dX2_moveByDraw_60 : decode cX2_moveByDraw 60 = .ok (.aload_n 0, 1) := by decide +kernel
theorem dX2_moveByDraw_61 : decode cX2_moveByDraw 61 = .ok (.getfield 67, 3) := by decide +kernel
theorem dX2_moveByDraw_64 : decode cX2_moveByDraw 64 = .ok (.irem, 1) := by decide +kernel
theorem dX2_moveByDraw_65 : decode cX2_moveByDraw 65 = .ok (.aload_n 0, 1) := by decide +kernel
theorem dX2_moveByDraw_66 : decode cX2_moveByDraw 66 = .ok (.getfield 49, 3) := by decide +kernel
theorem dX2_moveByDraw_69 : decode cX2_moveByDraw 69 = .ok (.getfield 73, 3) := by decide +kernel
theorem dX2_moveByDraw_72 : decode cX2_moveByDraw 72 = .ok (.sipush 128, 3) := by decide +kernel
theorem dX2_moveByDraw_75 : decode cX2_moveByDraw 75 = .ok (.idiv, 1) := by decide +kernel
theorem dX2_moveByDraw_76 : decode cX2_moveByDraw 76 = .ok (.iconst 4, 1) := by decide +kernel
theorem dX2_moveByDraw_77 : decode cX2_moveByDraw 77 = .ok (.irem, 1) := by decide +kernel
theorem dX2_moveByDraw_78 : decode cX2_moveByDraw 78 = .ok (.iastore, 1) := by decide +kernel
theorem dX2_moveByDraw_79 : decode cX2_moveByDraw 79 = .ok (.return_, 1) := by decide +kernel
theorem dX2_placesOf_0 : decode cX2_placesOf 0 = .ok (.iconst 0, 1) := by decide +kernel
theorem dX2_placesOf_1 : decode cX2_placesOf 1 = .ok (.istore_n 3, 1) := by decide +kernel
theorem dX2_placesOf_2 : decode cX2_placesOf 2 = .ok (.iconst 0, 1) := by decide +kernel
theorem dX2_placesOf_3 : decode cX2_placesOf 3 = .ok (.istore 4, 2) := by decide +kernel
theorem dX2_placesOf_5 : decode cX2_placesOf 5 = .ok (.iload 4, 2) := by decide +kernel
theorem dX2_placesOf_7 : decode cX2_placesOf 7 = .ok (.iload_n 2, 1) := by decide +kernel
theorem dX2_placesOf_8 : decode cX2_placesOf 8 = .ok (.if_icmp .ge 35, 3) := by decide +kernel
theorem dX2_placesOf_11 : decode cX2_placesOf 11 = .ok (.iload 4, 2) := by decide +kernel
theorem dX2_placesOf_13 : decode cX2_placesOf 13 = .ok (.aload_n 1, 1) := by decide +kernel
theorem dX2_placesOf_14 : decode cX2_placesOf 14 = .ok (.arraylength, 1) := by decide +kernel
theorem dX2_placesOf_15 : decode cX2_placesOf 15 = .ok (.if_icmp .ge 28, 3) := by decide +kernel
theorem dX2_placesOf_18 : decode cX2_placesOf 18 = .ok (.iload_n 3, 1) := by decide +kernel
theorem dX2_placesOf_19 : decode cX2_placesOf 19 = .ok (.aload_n 1, 1) := by decide +kernel
theorem dX2_placesOf_20 : decode cX2_placesOf 20 = .ok (.iload 4, 2) := by decide +kernel
theorem dX2_placesOf_22 : decode cX2_placesOf 22 = .ok (.iaload, 1) := by decide +kernel
theorem dX2_placesOf_23 : decode cX2_placesOf 23 = .ok (.iload_n 0, 1) := by decide +kernel
theorem dX2_placesOf_24 : decode cX2_placesOf 24 = .ok (.if_icmp .ne 10, 3) := by decide +kernel
theorem dX2_placesOf_27 : decode cX2_placesOf 27 = .ok (.iconst 1, 1) := by decide +kernel
theorem dX2_placesOf_28 : decode cX2_placesOf 28 = .ok (.iload 4, 2) := by decide +kernel
theorem dX2_placesOf_30 : decode cX2_placesOf 30 = .ok (.ishl, 1) := by decide +kernel
theorem dX2_placesOf_31 : decode cX2_placesOf 31 = .ok (.goto 4, 3) := by decide +kernel
theorem dX2_placesOf_34 : decode cX2_placesOf 34 = .ok (.iconst 0, 1) := by decide +kernel
theorem dX2_placesOf_35 : decode cX2_placesOf 35 = .ok (.ior, 1) := by decide +kernel
theorem dX2_placesOf_36 : decode cX2_placesOf 36 = .ok (.istore_n 3, 1) := by decide +kernel
theorem dX2_placesOf_37 : decode cX2_placesOf 37 = .ok (.iinc 4 1, 3) := by decide +kernel
theorem dX2_placesOf_40 : decode cX2_placesOf 40 = .ok (.goto (-35), 3) := by decide +kernel
theorem dX2_placesOf_43 : decode cX2_placesOf 43 = .ok (.iload_n 3, 1) := by decide +kernel
theorem dX2_placesOf_44 : decode cX2_placesOf 44 = .ok (.ireturn, 1) := by decide +kernel
theorem dX3_init_0 : decode cX3_init 0 = .ok (.aload_n 0, 1) := by decide +kernel
theorem dX3_init_1 : decode cX3_init 1 = .ok (.invokespecial 1, 3) := by decide +kernel
theorem dX3_init_4 : decode cX3_init 4 = .ok (.return_, 1) := by decide +kernel
theorem dX3_loudness_0 : decode cX3_loudness 0 = .ok (.iconst 1, 1) := by decide +kernel
theorem dX3_loudness_1 : decode cX3_loudness 1 = .ok (.ireturn, 1) := by decide +kernel
theorem dX3_leftBehind_0 : decode cX3_leftBehind 0 = .ok (.iload_n 3, 1) := by decide +kernel
theorem dX3_leftBehind_1 : decode cX3_leftBehind 1 = .ok (.iconst 3, 1) := by decide +kernel
theorem dX3_leftBehind_2 : decode cX3_leftBehind 2 = .ok (.irem, 1) := by decide +kernel
theorem dX3_leftBehind_3 : decode cX3_leftBehind 3 = .ok (.ifCond .ne 13, 3) := by decide +kernel
theorem dX3_leftBehind_6 : decode cX3_leftBehind 6 = .ok (.aload_n 0, 1) := by decide +kernel
theorem dX3_leftBehind_7 : decode cX3_leftBehind 7 = .ok (.iload_n 1, 1) := by decide +kernel
theorem dX3_leftBehind_8 : decode cX3_leftBehind 8 = .ok (.iload_n 2, 1) := by decide +kernel
theorem dX3_leftBehind_9 : decode cX3_leftBehind 9 = .ok (.iload_n 3, 1) := by decide +kernel
theorem dX3_leftBehind_10 : decode cX3_leftBehind 10 = .ok (.invokespecial 7, 3) := by decide +kernel
theorem dX3_leftBehind_13 : decode cX3_leftBehind 13 = .ok (.goto 4, 3) := by decide +kernel
theorem dX3_leftBehind_16 : decode cX3_leftBehind 16 = .ok (.iload_n 1, 1) := by decide +kernel
theorem dX3_leftBehind_17 : decode cX3_leftBehind 17 = .ok (.ireturn, 1) := by decide +kernel
theorem dX4_init_0 : decode cX4_init 0 = .ok (.aload_n 0, 1) := by decide +kernel
theorem dX4_init_1 : decode cX4_init 1 = .ok (.invokespecial 3, 3) := by decide +kernel
theorem dX4_init_4 : decode cX4_init 4 = .ok (.aload_n 0, 1) := by decide +kernel
theorem dX4_init_5 : decode cX4_init 5 = .ok (.bipush 8, 2) := by decide +kernel
theorem dX4_init_7 : decode cX4_init 7 = .ok (.newarray .int, 2) := by decide +kernel
theorem dX4_init_9 : decode cX4_init 9 = .ok (.putfield 9, 3) := by decide +kernel
theorem dX4_init_12 : decode cX4_init 12 = .ok (.aload_n 0, 1) := by decide +kernel
theorem dX4_init_13 : decode cX4_init 13 = .ok (.bipush 8, 2) := by decide +kernel
theorem dX4_init_15 : decode cX4_init 15 = .ok (.newarray .int, 2) := by decide +kernel
theorem dX4_init_17 : decode cX4_init 17 = .ok (.putfield 15, 3) := by decide +kernel
theorem dX4_init_20 : decode cX4_init 20 = .ok (.aload_n 0, 1) := by decide +kernel
theorem dX4_init_21 : decode cX4_init 21 = .ok (.bipush 8, 2) := by decide +kernel
theorem dX4_init_23 : decode cX4_init 23 = .ok (.newarray .int, 2) := by decide +kernel
theorem dX4_init_25 : decode cX4_init 25 = .ok (.putfield 18, 3) := by decide +kernel
theorem dX4_init_28 : decode cX4_init 28 = .ok (.aload_n 0, 1) := by decide +kernel
theorem dX4_init_29 : decode cX4_init 29 = .ok (.iconst 5, 1) := by decide +kernel
theorem dX4_init_30 : decode cX4_init 30 = .ok (.newarray .int, 2) := by decide +kernel
theorem dX4_init_32 : decode cX4_init 32 = .ok (.putfield 21, 3) := by decide +kernel
theorem dX4_init_35 : decode cX4_init 35 = .ok (.aload_n 0, 1) := by decide +kernel
theorem dX4_init_36 : decode cX4_init 36 = .ok (.iconst 5, 1) := by decide +kernel
theorem dX4_init_37 : decode cX4_init 37 = .ok (.newarray .int, 2) := by decide +kernel
theorem dX4_init_39 : decode cX4_init 39 = .ok (.putfield 24, 3) := by decide +kernel
theorem dX4_init_42 : decode cX4_init 42 = .ok (.aload_n 0, 1) := by decide +kernel
theorem dX4_init_43 : decode cX4_init 43 = .ok (.iconst 1, 1) := by decide +kernel
theorem dX4_init_44 : decode cX4_init 44 = .ok (.putfield 27, 3) := by decide +kernel
theorem dX4_init_47 : decode cX4_init 47 = .ok (.return_, 1) := by decide +kernel
theorem dX4_takeAll_0 : decode cX4_takeAll 0 = .ok (.aload_n 1, 1) := by decide +kernel
theorem dX4_takeAll_1 : decode cX4_takeAll 1 = .ok (.getfield 9, 3) := by decide +kernel
theorem dX4_takeAll_4 : decode cX4_takeAll 4 = .ok (.iconst 0, 1) := by decide +kernel
theorem dX4_takeAll_5 : decode cX4_takeAll 5 = .ok (.aload_n 0, 1) := by decide +kernel
theorem dX4_takeAll_6 : decode cX4_takeAll 6 = .ok (.getfield 9, 3) := by decide +kernel
theorem dX4_takeAll_9 : decode cX4_takeAll 9 = .ok (.iconst 0, 1) := by decide +kernel
theorem dX4_takeAll_10 : decode cX4_takeAll 10 = .ok (.bipush 8, 2) := by decide +kernel
theorem dX4_takeAll_12 : decode cX4_takeAll 12 = .ok (.invokestatic 31, 3) := by decide +kernel
theorem dX4_takeAll_15 : decode cX4_takeAll 15 = .ok (.aload_n 1, 1) := by decide +kernel
theorem dX4_takeAll_16 : decode cX4_takeAll 16 = .ok (.getfield 15, 3) := by decide +kernel
theorem dX4_takeAll_19 : decode cX4_takeAll 19 = .ok (.iconst 0, 1) := by decide +kernel
theorem dX4_takeAll_20 : decode cX4_takeAll 20 = .ok (.aload_n 0, 1) := by decide +kernel
theorem dX4_takeAll_21 : decode cX4_takeAll 21 = .ok (.getfield 15, 3) := by decide +kernel
theorem dX4_takeAll_24 : decode cX4_takeAll 24 = .ok (.iconst 0, 1) := by decide +kernel
theorem dX4_takeAll_25 : decode cX4_takeAll 25 = .ok (.bipush 8, 2) := by decide +kernel
theorem dX4_takeAll_27 : decode cX4_takeAll 27 = .ok (.invokestatic 31, 3) := by decide +kernel
theorem dX4_takeAll_30 : decode cX4_takeAll 30 = .ok (.aload_n 1, 1) := by decide +kernel
theorem dX4_takeAll_31 : decode cX4_takeAll 31 = .ok (.getfield 18, 3) := by decide +kernel
theorem dX4_takeAll_34 : decode cX4_takeAll 34 = .ok (.iconst 0, 1) := by decide +kernel
theorem dX4_takeAll_35 : decode cX4_takeAll 35 = .ok (.aload_n 0, 1) := by decide +kernel
theorem dX4_takeAll_36 : decode cX4_takeAll 36 = .ok (.getfield 18, 3) := by decide +kernel
theorem dX4_takeAll_39 : decode cX4_takeAll 39 = .ok (.iconst 0, 1) := by decide +kernel
theorem dX4_takeAll_40 : decode cX4_takeAll 40 = .ok (.bipush 8, 2) := by decide +kernel
theorem dX4_takeAll_42 : decode cX4_takeAll 42 = .ok (.invokestatic 31, 3) := by decide +kernel
theorem dX4_takeAll_45 : decode cX4_takeAll 45 = .ok (.aload_n 1, 1) := by decide +kernel
theorem dX4_takeAll_46 : decode cX4_takeAll 46 = .ok (.getfield 21, 3) := by decide +kernel
theorem dX4_takeAll_49 : decode cX4_takeAll 49 = .ok (.iconst 0, 1) := by decide +kernel
theorem dX4_takeAll_50 : decode cX4_takeAll 50 = .ok (.aload_n 0, 1) := by decide +kernel
theorem dX4_takeAll_51 : decode cX4_takeAll 51 = .ok (.getfield 21, 3) := by decide +kernel
theorem dX4_takeAll_54 : decode cX4_takeAll 54 = .ok (.iconst 0, 1) := by decide +kernel
theorem dX4_takeAll_55 : decode cX4_takeAll 55 = .ok (.iconst 5, 1) := by decide +kernel
theorem dX4_takeAll_56 : decode cX4_takeAll 56 = .ok (.invokestatic 31, 3) := by decide +kernel
theorem dX4_takeAll_59 : decode cX4_takeAll 59 = .ok (.aload_n 1, 1) := by decide +kernel
theorem dX4_takeAll_60 : decode cX4_takeAll 60 = .ok (.getfield 24, 3) := by decide +kernel
theorem dX4_takeAll_63 : decode cX4_takeAll 63 = .ok (.iconst 0, 1) := by decide +kernel
theorem dX4_takeAll_64 : decode cX4_takeAll 64 = .ok (.aload_n 0, 1) := by decide +kernel
theorem dX4_takeAll_65 : decode cX4_takeAll 65 = .ok (.getfield 24, 3) := by decide +kernel
theorem dX4_takeAll_68 : decode cX4_takeAll 68 = .ok (.iconst 0, 1) := by decide +kernel
theorem dX4_takeAll_69 : decode cX4_takeAll 69 = .ok (.iconst 5, 1) := by decide +kernel
theorem dX4_takeAll_70 : decode cX4_takeAll 70 = .ok (.invokestatic 31, 3) := by decide +kernel
theorem dX4_takeAll_73 : decode cX4_takeAll 73 = .ok (.aload_n 0, 1) := by decide +kernel
theorem dX4_takeAll_74 : decode cX4_takeAll 74 = .ok (.aload_n 1, 1) := by decide +kernel
theorem dX4_takeAll_75 : decode cX4_takeAll 75 = .ok (.getfield 37, 3) := by decide +kernel
theorem dX4_takeAll_78 : decode cX4_takeAll 78 = .ok (.putfield 37, 3) := by decide +kernel
theorem dX4_takeAll_81 : decode cX4_takeAll 81 = .ok (.aload_n 0, 1) := by decide +kernel
theorem dX4_takeAll_82 : decode cX4_takeAll 82 = .ok (.aload_n 1, 1) := by decide +kernel
theorem dX4_takeAll_83 : decode cX4_takeAll 83 = .ok (.getfield 27, 3) := by decide +kernel
theorem dX4_takeAll_86 : decode cX4_takeAll 86 = .ok (.putfield 27, 3) := by decide +kernel
theorem dX4_takeAll_89 : decode cX4_takeAll 89 = .ok (.return_, 1) := by decide +kernel
theorem dX5_init_0 : decode cX5_init 0 = .ok (.aload_n 0, 1) := by decide +kernel
theorem dX5_init_1 : decode cX5_init 1 = .ok (.invokespecial 3, 3) := by decide +kernel
theorem dX5_init_4 : decode cX5_init 4 = .ok (.aload_n 0, 1) := by decide +kernel
theorem dX5_init_5 : decode cX5_init 5 = .ok (.sipush 488, 3) := by decide +kernel
theorem dX5_init_8 : decode cX5_init 8 = .ok (.newarray .int, 2) := by decide +kernel
theorem dX5_init_10 : decode cX5_init 10 = .ok (.putfield 9, 3) := by decide +kernel
theorem dX5_init_13 : decode cX5_init 13 = .ok (.aload_n 0, 1) := by decide +kernel
theorem dX5_init_14 : decode cX5_init 14 = .ok (.bipush 8, 2) := by decide +kernel
theorem dX5_init_16 : decode cX5_init 16 = .ok (.newarray .int, 2) := by decide +kernel
theorem dX5_init_18 : decode cX5_init 18 = .ok (.putfield 15, 3) := by decide +kernel
theorem dX5_init_21 : decode cX5_init 21 = .ok (.aload_n 0, 1) := by decide +kernel
theorem dX5_init_22 : decode cX5_init 22 = .ok (.iconst 4, 1) := by decide +kernel
theorem dX5_init_23 : decode cX5_init 23 = .ok (.newarray .int, 2) := by decide +kernel
theorem dX5_init_25 : decode cX5_init 25 = .ok (.putfield 18, 3) := by decide +kernel
theorem dX5_init_28 : decode cX5_init 28 = .ok (.return_, 1) := by decide +kernel
theorem dX5_look_0 : decode cX5_look 0 = .ok (.aload_n 0, 1) := by decide +kernel
theorem dX5_look_1 : decode cX5_look 1 = .ok (.iload_n 2, 1) := by decide +kernel
theorem dX5_look_2 : decode cX5_look 2 = .ok (.bipush 61, 2) := by decide +kernel
theorem dX5_look_4 : decode cX5_look 4 = .ok (.invokestatic 21, 3) := by decide +kernel
theorem dX5_look_7 : decode cX5_look 7 = .ok (.putfield 27, 3) := by decide +kernel
theorem dX5_look_10 : decode cX5_look 10 = .ok (.aload_n 0, 1) := by decide +kernel
theorem dX5_look_11 : decode cX5_look 11 = .ok (.aload_n 1, 1) := by decide +kernel
theorem dX5_look_12 : decode cX5_look 12 = .ok (.getfield 31, 3) := by decide +kernel
theorem dX5_look_15 : decode cX5_look 15 = .ok (.putfield 36, 3) := by decide +kernel
theorem dX5_look_18 : decode cX5_look 18 = .ok (.aload_n 1, 1) := by decide +kernel
theorem dX5_look_19 : decode cX5_look 19 = .ok (.getfield 37, 3) := by decide +kernel
theorem dX5_look_22 : decode cX5_look 22 = .ok (.getfield 41, 3) := by decide +kernel
theorem dX5_look_25 : decode cX5_look 25 = .ok (.iconst 0, 1) := by decide +kernel
theorem dX5_look_26 : decode cX5_look 26 = .ok (.aload_n 0, 1) := by decide +kernel
theorem dX5_look_27 : decode cX5_look 27 = .ok (.getfield 15, 3) := by decide +kernel
theorem dX5_look_30 : decode cX5_look 30 = .ok (.iconst 0, 1) := by decide +kernel
theorem dX5_look_31 : decode cX5_look 31 = .ok (.bipush 8, 2) := by decide +kernel
theorem dX5_look_33 : decode cX5_look 33 = .ok (.invokestatic 44, 3) := by decide +kernel
theorem dX5_look_36 : decode cX5_look 36 = .ok (.iconst 0, 1) := by decide +kernel
theorem dX5_look_37 : decode cX5_look 37 = .ok (.istore_n 3, 1) := by decide +kernel
theorem dX5_look_38 : decode cX5_look 38 = .ok (.iload_n 3, 1) := by decide +kernel
theorem dX5_look_39 : decode cX5_look 39 = .ok (.aload_n 0, 1) := by decide +kernel
theorem dX5_look_40 : decode cX5_look 40 = .ok (.getfield 36, 3) := by decide +kernel
theorem dX5_look_43 : decode cX5_look 43 = .ok (.if_icmp .ge 81, 3) := by decide +kernel
theorem dX5_look_46 : decode cX5_look 46 = .ok (.aload_n 1, 1) := by decide +kernel
theorem dX5_look_47 : decode cX5_look 47 = .ok (.getfield 37, 3) := by decide +kernel
theorem dX5_look_50 : decode cX5_look 50 = .ok (.getfield 50, 3) := by decide +kernel
theorem dX5_look_53 : decode cX5_look 53 = .ok (.iload_n 3, 1) := by decide +kernel
theorem dX5_look_54 : decode cX5_look 54 = .ok (.iaload, 1) := by decide +kernel
theorem dX5_look_55 : decode cX5_look 55 = .ok (.istore 4, 2) := by decide +kernel
theorem dX5_look_57 : decode cX5_look 57 = .ok (.iconst 0, 1) := by decide +kernel
theorem dX5_look_58 : decode cX5_look 58 = .ok (.istore 5, 2) := by decide +kernel
theorem dX5_look_60 : decode cX5_look 60 = .ok (.iload 5, 2) := by decide +kernel
theorem dX5_look_62 : decode cX5_look 62 = .ok (.aload_n 0, 1) := by decide +kernel
theorem dX5_look_63 : decode cX5_look 63 = .ok (.getfield 27, 3) := by decide +kernel
theorem dX5_look_66 : decode cX5_look 66 = .ok (.if_icmp .ge 52, 3) := by decide +kernel
theorem dX5_look_69 : decode cX5_look 69 = .ok (.aload_n 0, 1) := by decide +kernel
theorem dX5_look_70 : decode cX5_look 70 = .ok (.getfield 9, 3) := by decide +kernel
theorem dX5_look_73 : decode cX5_look 73 = .ok (.iload 5, 2) := by decide +kernel
theorem dX5_look_75 : decode cX5_look 75 = .ok (.bipush 8, 2) := by decide +kernel
theorem dX5_look_77 : decode cX5_look 77 = .ok (.imul, 1) := by decide +kernel
theorem dX5_look_78 : decode cX5_look 78 = .ok (.iload_n 3, 1) := by decide +kernel
theorem dX5_look_79 : decode cX5_look 79 = .ok (.iadd, 1) := by decide +kernel
theorem dX5_look_80 : decode cX5_look 80 = .ok (.aload_n 1, 1) := by decide +kernel
theorem dX5_look_81 : decode cX5_look 81 = .ok (.iload_n 3, 1) := by decide +kernel
theorem dX5_look_82 : decode cX5_look 82 = .ok (.iload 4, 2) := by decide +kernel
theorem dX5_look_84 : decode cX5_look 84 = .ok (.iload 5, 2) := by decide +kernel
theorem dX5_look_86 : decode cX5_look 86 = .ok (.invokevirtual 53, 3) := by decide +kernel
theorem dX5_look_89 : decode cX5_look 89 = .ok (.iastore, 1) := by decide +kernel
theorem dX5_look_90 : decode cX5_look 90 = .ok (.aload_n 1, 1) := by decide +kernel
theorem dX5_look_91 : decode cX5_look 91 = .ok (.aload_n 1, 1) := by decide +kernel
theorem dX5_look_92 : decode cX5_look 92 = .ok (.getfield 57, 3) := by decide +kernel
theorem dX5_look_95 : decode cX5_look 95 = .ok (.iload_n 3, 1) := by decide +kernel
theorem dX5_look_96 : decode cX5_look 96 = .ok (.iaload, 1) := by decide +kernel
theorem dX5_look_97 : decode cX5_look 97 = .ok (.aload_n 1, 1) := by decide +kernel
theorem dX5_look_98 : decode cX5_look 98 = .ok (.getfield 60, 3) := by decide +kernel
theorem dX5_look_101 : decode cX5_look 101 = .ok (.iload_n 3, 1) := by decide +kernel
theorem dX5_look_102 : decode cX5_look 102 = .ok (.iaload, 1) := by decide +kernel
theorem dX5_look_103 : decode cX5_look 103 = .ok (.iload 4, 2) := by decide +kernel
theorem dX5_look_105 : decode cX5_look 105 = .ok (.iload 5, 2) := by decide +kernel
theorem dX5_look_107 : decode cX5_look 107 = .ok (.invokevirtual 63, 3) := by decide +kernel
theorem dX5_look_110 : decode cX5_look 110 = .ok (.istore 4, 2) := by decide +kernel
theorem dX5_look_112 : decode cX5_look 112 = .ok (.iinc 5 1, 3) := by decide +kernel
theorem dX5_look_115 : decode cX5_look 115 = .ok (.goto (-55), 3) := by decide +kernel
theorem dX5_look_118 : decode cX5_look 118 = .ok (.iinc 3 1, 3) := by decide +kernel
theorem dX5_look_121 : decode cX5_look 121 = .ok (.goto (-83), 3) := by decide +kernel
theorem dX5_look_124 : decode cX5_look 124 = .ok (.return_, 1) := by decide +kernel
theorem dX5_swapRooms_0 : decode cX5_swapRooms 0 = .ok (.iconst 0, 1) := by decide +kernel
theorem dX5_swapRooms_1 : decode cX5_swapRooms 1 = .ok (.istore 4, 2) := by decide +kernel
theorem dX5_swapRooms_3 : decode cX5_swapRooms 3 = .ok (.iload 4, 2) := by decide +kernel
theorem dX5_swapRooms_5 : decode cX5_swapRooms 5 = .ok (.aload_n 0, 1) := by decide +kernel
theorem dX5_swapRooms_6 : decode cX5_swapRooms 6 = .ok (.getfield 36, 3) := by decide +kernel
theorem dX5_swapRooms_9 : decode cX5_swapRooms 9 = .ok (.if_icmp .ge 50, 3) := by decide +kernel
theorem dX5_swapRooms_12 : decode cX5_swapRooms 12 = .ok (.aload_n 1, 1) := by decide +kernel
theorem dX5_swapRooms_13 : decode cX5_swapRooms 13 = .ok (.getfield 37, 3) := by decide +kernel
theorem dX5_swapRooms_16 : decode cX5_swapRooms 16 = .ok (.getfield 41, 3) := by decide +kernel
theorem dX5_swapRooms_19 : decode cX5_swapRooms 19 = .ok (.iload 4, 2) := by decide +kernel
theorem dX5_swapRooms_21 : decode cX5_swapRooms 21 = .ok (.iaload, 1) := by decide +kernel
theorem dX5_swapRooms_22 : decode cX5_swapRooms 22 = .ok (.istore 5, 2) := by decide +kernel
theorem dX5_swapRooms_24 : decode cX5_swapRooms 24 = .ok (.aload_n 0, 1) := by decide +kernel
theorem dX5_swapRooms_25 : decode cX5_swapRooms 25 = .ok (.getfield 15, 3) := by decide +kernel
theorem dX5_swapRooms_28 : decode cX5_swapRooms 28 = .ok (.iload 4, 2) := by decide +kernel
theorem dX5_swapRooms_30 : decode cX5_swapRooms 30 = .ok (.iload 5, 2) := by decide +kernel
theorem dX5_swapRooms_32 : decode cX5_swapRooms 32 = .ok (.iload_n 2, 1) := by decide +kernel
theorem dX5_swapRooms_33 : decode cX5_swapRooms 33 = .ok (.if_icmp .ne 7, 3) := by decide +kernel
theorem dX5_swapRooms_36 : decode cX5_swapRooms 36 = .ok (.iload_n 3, 1) := by decide +kernel
theorem dX5_swapRooms_37 : decode cX5_swapRooms 37 = .ok (.goto 15, 3) := by decide +kernel
theorem dX5_swapRooms_40 : decode cX5_swapRooms 40 = .ok (.iload 5, 2) := by decide +kernel
theorem dX5_swapRooms_42 : decode cX5_swapRooms 42 = .ok (.iload_n 3, 1) := by decide +kernel
theorem dX5_swapRooms_43 : decode cX5_swapRooms 43 = .ok (.if_icmp .ne 7, 3) := by decide +kernel
theorem dX5_swapRooms_46 : decode cX5_swapRooms 46 = .ok (.iload_n 2, 1) := by decide +kernel
theorem dX5_swapRooms_47 : decode cX5_swapRooms 47 = .ok (.goto 5, 3) := by decide +kernel
theorem dX5_swapRooms_50 : decode cX5_swapRooms 50 = .ok (.iload 5, 2) := by decide +kernel
theorem dX5_swapRooms_52 : decode cX5_swapRooms 52 = .ok (.iastore, 1) := by decide +kernel
theorem dX5_swapRooms_53 : decode cX5_swapRooms 53 = .ok (.iinc 4 1, 3) := by decide +kernel
theorem dX5_swapRooms_56 : decode cX5_swapRooms 56 = .ok (.goto (-53), 3) := by decide +kernel
theorem dX5_swapRooms_59 : decode cX5_swapRooms 59 = .ok (.return_, 1) := by decide +kernel
theorem dX5_listen_0 : decode cX5_listen 0 = .ok (.iconst 0, 1) := by decide +kernel
theorem dX5_listen_1 : decode cX5_listen 1 = .ok (.istore_n 3, 1) := by decide +kernel
theorem dX5_listen_2 : decode cX5_listen 2 = .ok (.iload_n 3, 1) := by decide +kernel
theorem dX5_listen_3 : decode cX5_listen 3 = .ok (.iconst 4, 1) := by decide +kernel
theorem dX5_listen_4 : decode cX5_listen 4 = .ok (.if_icmp .ge 16, 3) := by decide +kernel
theorem dX5_listen_7 : decode cX5_listen 7 = .ok (.aload_n 0, 1) := by decide +kernel
theorem dX5_listen_8 : decode cX5_listen 8 = .ok (.getfield 18, 3) := by decide +kernel
theorem dX5_listen_11 : decode cX5_listen 11 = .ok (.iload_n 3, 1) := by decide +kernel
theorem dX5_listen_12 : decode cX5_listen 12 = .ok (.iconst 0, 1) := by decide +kernel
theorem dX5_listen_13 : decode cX5_listen 13 = .ok (.iastore, 1) := by decide +kernel
theorem dX5_listen_14 : decode cX5_listen 14 = .ok (.iinc 3 1, 3) := by decide +kernel
theorem dX5_listen_17 : decode cX5_listen 17 = .ok (.goto (-15), 3) := by decide +kernel
theorem dX5_listen_20 : decode cX5_listen 20 = .ok (.iconst 0, 1) := by decide +kernel
theorem dX5_listen_21 : decode cX5_listen 21 = .ok (.istore_n 3, 1) := by decide +kernel
theorem dX5_listen_22 : decode cX5_listen 22 = .ok (.iload_n 3, 1) := by decide +kernel
theorem dX5_listen_23 : decode cX5_listen 23 = .ok (.aload_n 0, 1) := by decide +kernel
theorem dX5_listen_24 : decode cX5_listen 24 = .ok (.getfield 36, 3) := by decide +kernel
theorem dX5_listen_27 : decode cX5_listen 27 = .ok (.if_icmp .ge 46, 3) := by decide +kernel
theorem dX5_listen_30 : decode cX5_listen 30 = .ok (.aload_n 0, 1) := by decide +kernel
theorem dX5_listen_31 : decode cX5_listen 31 = .ok (.getfield 18, 3) := by decide +kernel
theorem dX5_listen_34 : decode cX5_listen 34 = .ok (.aload_n 0, 1) := by decide +kernel
theorem dX5_listen_35 : decode cX5_listen 35 = .ok (.getfield 15, 3) := by decide +kernel
theorem dX5_listen_38 : decode cX5_listen 38 = .ok (.iload_n 3, 1) := by decide +kernel
theorem dX5_listen_39 : decode cX5_listen 39 = .ok (.iaload, 1) := by decide +kernel
theorem dX5_listen_40 : decode cX5_listen 40 = .ok (.dup2, 1) := by decide +kernel
theorem dX5_listen_41 : decode cX5_listen 41 = .ok (.iaload, 1) := by decide +kernel
theorem dX5_listen_42 : decode cX5_listen 42 = .ok (.iload_n 2, 1) := by decide +kernel
theorem dX5_listen_43 : decode cX5_listen 43 = .ok (.iload_n 3, 1) := by decide +kernel
theorem dX5_listen_44 : decode cX5_listen 44 = .ok (.invokestatic 67, 3) := by decide +kernel
theorem dX5_listen_47 : decode cX5_listen 47 = .ok (.ifCond .eq 7, 3) := by decide +kernel
theorem dX5_listen_50 : decode cX5_listen 50 = .ok (.iconst 0, 1) := by decide +kernel
theorem dX5_listen_51 : decode cX5_listen 51 = .ok (.goto 14, 3) := by decide +kernel
theorem dX5_listen_54 : decode cX5_listen 54 = .ok (.aload_n 0, 1) := by decide +kernel
theorem dX5_listen_55 : decode cX5_listen 55 = .ok (.getfield 9, 3) := by decide +kernel
theorem dX5_listen_58 : decode cX5_listen 58 = .ok (.iload_n 1, 1) := by decide +kernel
theorem dX5_listen_59 : decode cX5_listen 59 = .ok (.bipush 8, 2) := by decide +kernel
theorem dX5_listen_61 : decode cX5_listen 61 = .ok (.imul, 1) := by decide +kernel
theorem dX5_listen_62 : decode cX5_listen 62 = .ok (.iload_n 3, 1) := by decide +kernel
theorem dX5_listen_63 : decode cX5_listen 63 = .ok (.iadd, 1) := by decide +kernel
theorem dX5_listen_64 : decode cX5_listen 64 = .ok (.iaload, 1) := by decide +kernel
theorem dX5_listen_65 : decode cX5_listen 65 = .ok (.iadd, 1) := by decide +kernel
theorem dX5_listen_66 : decode cX5_listen 66 = .ok (.iastore, 1) := by decide +kernel
theorem dX5_listen_67 : decode cX5_listen 67 = .ok (.iinc 3 1, 3) := by decide +kernel
theorem dX5_listen_70 : decode cX5_listen 70 = .ok (.goto (-48), 3) := by decide +kernel
theorem dX5_listen_73 : decode cX5_listen 73 = .ok (.return_, 1) := by decide +kernel
theorem dX5_wokenIn_0 : decode cX5_wokenIn 0 = .ok (.aload_n 0, 1) := by decide +kernel
theorem dX5_wokenIn_1 : decode cX5_wokenIn 1 = .ok (.iload_n 2, 1) := by decide +kernel
theorem dX5_wokenIn_2 : decode cX5_wokenIn 2 = .ok (.iload_n 3, 1) := by decide +kernel
theorem dX5_wokenIn_3 : decode cX5_wokenIn 3 = .ok (.invokevirtual 71, 3) := by decide +kernel
theorem dX5_wokenIn_6 : decode cX5_wokenIn 6 = .ok (.iconst 0, 1) := by decide +kernel
theorem dX5_wokenIn_7 : decode cX5_wokenIn 7 = .ok (.istore 4, 2) := by decide +kernel
theorem dX5_wokenIn_9 : decode cX5_wokenIn 9 = .ok (.iconst 0, 1) := by decide +kernel
theorem dX5_wokenIn_10 : decode cX5_wokenIn 10 = .ok (.istore 5, 2) := by decide +kernel
theorem dX5_wokenIn_12 : decode cX5_wokenIn 12 = .ok (.iload 5, 2) := by decide +kernel
theorem dX5_wokenIn_14 : decode cX5_wokenIn 14 = .ok (.aload_n 1, 1) := by decide +kernel
theorem dX5_wokenIn_15 : decode cX5_wokenIn 15 = .ok (.getfield 75, 3) := by decide +kernel
theorem dX5_wokenIn_18 : decode cX5_wokenIn 18 = .ok (.if_icmp .ge 41, 3) := by decide +kernel
theorem dX5_wokenIn_21 : decode cX5_wokenIn 21 = .ok (.iload 4, 2) := by decide +kernel
theorem dX5_wokenIn_23 : decode cX5_wokenIn 23 = .ok (.aload_n 0, 1) := by decide +kernel
theorem dX5_wokenIn_24 : decode cX5_wokenIn 24 = .ok (.getfield 18, 3) := by decide +kernel
theorem dX5_wokenIn_27 : decode cX5_wokenIn 27 = .ok (.aload_n 1, 1) := by decide +kernel
theorem dX5_wokenIn_28 : decode cX5_wokenIn 28 = .ok (.getfield 78, 3) := by decide +kernel
theorem dX5_wokenIn_31 : decode cX5_wokenIn 31 = .ok (.iload 5, 2) := by decide +kernel
theorem dX5_wokenIn_33 : decode cX5_wokenIn 33 = .ok (.iaload, 1) := by decide +kernel
theorem dX5_wokenIn_34 : decode cX5_wokenIn 34 = .ok (.iaload, 1) := by decide +kernel
theorem dX5_wokenIn_35 : decode cX5_wokenIn 35 = .ok (.aload_n 1, 1) := by decide +kernel
theorem dX5_wokenIn_36 : decode cX5_wokenIn 36 = .ok (.getfield 81, 3) := by decide +kernel
theorem dX5_wokenIn_39 : decode cX5_wokenIn 39 = .ok (.iload 5, 2) := by decide +kernel
theorem dX5_wokenIn_41 : decode cX5_wokenIn 41 = .ok (.iaload, 1) := by decide +kernel
theorem dX5_wokenIn_42 : decode cX5_wokenIn 42 = .ok (.if_icmp .le 7, 3) := by decide +kernel
theorem dX5_wokenIn_45 : decode cX5_wokenIn 45 = .ok (.iconst 1, 1) := by decide +kernel
theorem dX5_wokenIn_46 : decode cX5_wokenIn 46 = .ok (.goto 4, 3) := by decide +kernel
theorem dX5_wokenIn_49 : decode cX5_wokenIn 49 = .ok (.iconst 0, 1) := by decide +kernel
theorem dX5_wokenIn_50 : decode cX5_wokenIn 50 = .ok (.iadd, 1) := by decide +kernel
theorem dX5_wokenIn_51 : decode cX5_wokenIn 51 = .ok (.istore 4, 2) := by decide +kernel
theorem dX5_wokenIn_53 : decode cX5_wokenIn 53 = .ok (.iinc 5 1, 3) := by decide +kernel
theorem dX5_wokenIn_56 : decode cX5_wokenIn 56 = .ok (.goto (-44), 3) := by decide +kernel
theorem dX5_wokenIn_59 : decode cX5_wokenIn 59 = .ok (.iload 4, 2) := by decide +kernel
theorem dX5_wokenIn_61 : decode cX5_wokenIn 61 = .ok (.ireturn, 1) := by decide +kernel
theorem dX5_wakings_0 : decode cX5_wakings 0 = .ok (.iconst 0, 1) := by decide +kernel
theorem dX5_wakings_1 : decode cX5_wakings 1 = .ok (.istore_n 2, 1) := by decide +kernel
theorem dX5_wakings_2 : decode cX5_wakings 2 = .ok (.iconst 0, 1) := by decide +kernel
theorem dX5_wakings_3 : decode cX5_wakings 3 = .ok (.istore_n 3, 1) := by decide +kernel
theorem dX5_wakings_4 : decode cX5_wakings 4 = .ok (.iload_n 3, 1) := by decide +kernel
theorem dX5_wakings_5 : decode cX5_wakings 5 = .ok (.aload_n 0, 1) := by decide +kernel
theorem dX5_wakings_6 : decode cX5_wakings 6 = .ok (.getfield 27, 3) := by decide +kernel
theorem dX5_wakings_9 : decode cX5_wakings 9 = .ok (.if_icmp .ge 19, 3) := by decide +kernel
theorem dX5_wakings_12 : decode cX5_wakings 12 = .ok (.iload_n 2, 1) := by decide +kernel
theorem dX5_wakings_13 : decode cX5_wakings 13 = .ok (.aload_n 0, 1) := by decide +kernel
theorem dX5_wakings_14 : decode cX5_wakings 14 = .ok (.aload_n 1, 1) := by decide +kernel
theorem dX5_wakings_15 : decode cX5_wakings 15 = .ok (.iload_n 3, 1) := by decide +kernel
theorem dX5_wakings_16 : decode cX5_wakings 16 = .ok (.iconst 0, 1) := by decide +kernel
theorem dX5_wakings_17 : decode cX5_wakings 17 = .ok (.invokevirtual 84, 3) := by decide +kernel
theorem dX5_wakings_20 : decode cX5_wakings 20 = .ok (.iadd, 1) := by decide +kernel
theorem dX5_wakings_21 : decode cX5_wakings 21 = .ok (.istore_n 2, 1) := by decide +kernel
theorem dX5_wakings_22 : decode cX5_wakings 22 = .ok (.iinc 3 1, 3) := by decide +kernel
theorem dX5_wakings_25 : decode cX5_wakings 25 = .ok (.goto (-21), 3) := by decide +kernel
theorem dX5_wakings_28 : decode cX5_wakings 28 = .ok (.iload_n 2, 1) := by decide +kernel
theorem dX5_wakings_29 : decode cX5_wakings 29 = .ok (.ireturn, 1) := by decide +kernel
theorem dX5_wakingsIn_0 : decode cX5_wakingsIn 0 = .ok (.iconst 0, 1) := by decide +kernel
theorem dX5_wakingsIn_1 : decode cX5_wakingsIn 1 = .ok (.istore_n 3, 1) := by decide +kernel
theorem dX5_wakingsIn_2 : decode cX5_wakingsIn 2 = .ok (.iconst 0, 1) := by decide +kernel
theorem dX5_wakingsIn_3 : decode cX5_wakingsIn 3 = .ok (.istore 4, 2) := by decide +kernel
theorem dX5_wakingsIn_5 : decode cX5_wakingsIn 5 = .ok (.iload 4, 2) := by decide +kernel
theorem dX5_wakingsIn_7 : decode cX5_wakingsIn 7 = .ok (.aload_n 0, 1) := by decide +kernel
theorem dX5_wakingsIn_8 : decode cX5_wakingsIn 8 = .ok (.getfield 27, 3) := by decide +kernel
theorem dX5_wakingsIn_11 : decode cX5_wakingsIn 11 = .ok (.if_icmp .ge 34, 3) := by decide +kernel
theorem dX5_wakingsIn_14 : decode cX5_wakingsIn 14 = .ok (.aload_n 0, 1) := by decide +kernel
theorem dX5_wakingsIn_15 : decode cX5_wakingsIn 15 = .ok (.iload 4, 2) := by decide +kernel
theorem dX5_wakingsIn_17 : decode cX5_wakingsIn 17 = .ok (.iconst 0, 1) := by decide +kernel
theorem dX5_wakingsIn_18 : decode cX5_wakingsIn 18 = .ok (.invokevirtual 71, 3) := by decide +kernel
theorem dX5_wakingsIn_21 : decode cX5_wakingsIn 21 = .ok (.iload_n 3, 1) := by decide +kernel
theorem dX5_wakingsIn_22 : decode cX5_wakingsIn 22 = .ok (.aload_n 0, 1) := by decide +kernel
theorem dX5_wakingsIn_23 : decode cX5_wakingsIn 23 = .ok (.getfield 18, 3) := by decide +kernel
theorem dX5_wakingsIn_26 : decode cX5_wakingsIn 26 = .ok (.iload_n 1, 1) := by decide +kernel
theorem dX5_wakingsIn_27 : decode cX5_wakingsIn 27 = .ok (.iaload, 1) := by decide +kernel
theorem dX5_wakingsIn_28 : decode cX5_wakingsIn 28 = .ok (.iload_n 2, 1) := by decide +kernel
theorem dX5_wakingsIn_29 : decode cX5_wakingsIn 29 = .ok (.if_icmp .le 7, 3) := by decide +kernel
theorem dX5_wakingsIn_32 : decode cX5_wakingsIn 32 = .ok (.iconst 1, 1) := by decide +kernel
theorem dX5_wakingsIn_33 : decode cX5_wakingsIn 33 = .ok (.goto 4, 3) := by decide +kernel
theorem dX5_wakingsIn_36 : decode cX5_wakingsIn 36 = .ok (.iconst 0, 1) := by decide +kernel
theorem dX5_wakingsIn_37 : decode cX5_wakingsIn 37 = .ok (.iadd, 1) := by decide +kernel
theorem dX5_wakingsIn_38 : decode cX5_wakingsIn 38 = .ok (.istore_n 3, 1) := by decide +kernel
theorem dX5_wakingsIn_39 : decode cX5_wakingsIn 39 = .ok (.iinc 4 1, 3) := by decide +kernel
theorem dX5_wakingsIn_42 : decode cX5_wakingsIn 42 = .ok (.goto (-37), 3) := by decide +kernel
theorem dX5_wakingsIn_45 : decode cX5_wakingsIn 45 = .ok (.iload_n 3, 1) := by decide +kernel
theorem dX5_wakingsIn_46 : decode cX5_wakingsIn 46 = .ok (.ireturn, 1) := by decide +kernel
theorem dX5_isQuietWithout_0 : decode cX5_isQuietWithout 0 = .ok (.iconst 0, 1) := by decide +kernel
theorem dX5_isQuietWithout_1 : decode cX5_isQuietWithout 1 = .ok (.istore_n 3, 1) := by decide +kernel
theorem dX5_isQuietWithout_2 : decode cX5_isQuietWithout 2 = .ok (.iload_n 3, 1) := by decide +kernel
theorem dX5_isQuietWithout_3 : decode cX5_isQuietWithout 3 = .ok (.aload_n 0, 1) := by decide +kernel
theorem dX5_isQuietWithout_4 : decode cX5_isQuietWithout 4 = .ok (.getfield 27, 3) := by decide +kernel
theorem dX5_isQuietWithout_7 : decode cX5_isQuietWithout 7 = .ok (.if_icmp .ge 21, 3) := by decide +kernel
theorem dX5_isQuietWithout_10 : decode cX5_isQuietWithout 10 = .ok (.aload_n 0, 1) := by decide +kernel
theorem dX5_isQuietWithout_11 : decode cX5_isQuietWithout 11 = .ok (.aload_n 1, 1) := by decide +kernel
theorem dX5_isQuietWithout_12 : decode cX5_isQuietWithout 12 = .ok (.iload_n 3, 1) := by decide +kernel
theorem dX5_isQuietWithout_13 : decode cX5_isQuietWithout 13 = .ok (.iload_n 2, 1) := by decide +kernel
theorem dX5_isQuietWithout_14 : decode cX5_isQuietWithout 14 = .ok (.invokevirtual 84, 3) := by decide +kernel
theorem dX5_isQuietWithout_17 : decode cX5_isQuietWithout 17 = .ok (.ifCond .le 5, 3) := by decide +kernel
theorem dX5_isQuietWithout_20 : decode cX5_isQuietWithout 20 = .ok (.iconst 0, 1) := by decide +kernel
theorem dX5_isQuietWithout_21 : decode cX5_isQuietWithout 21 = .ok (.ireturn, 1) := by decide +kernel
theorem dX5_isQuietWithout_22 : decode cX5_isQuietWithout 22 = .ok (.iinc 3 1, 3) := by decide +kernel
theorem dX5_isQuietWithout_25 : decode cX5_isQuietWithout 25 = .ok (.goto (-23), 3) := by decide +kernel
theorem dX5_isQuietWithout_28 : decode cX5_isQuietWithout 28 = .ok (.iconst 1, 1) := by decide +kernel
theorem dX5_isQuietWithout_29 : decode cX5_isQuietWithout 29 = .ok (.ireturn, 1) := by decide +kernel
theorem dX6_init_0 : decode cX6_init 0 = .ok (.aload_n 0, 1) := by decide +kernel
theorem dX6_init_1 : decode cX6_init 1 = .ok (.invokespecial 3, 3) := by decide +kernel
theorem dX6_init_4 : decode cX6_init 4 = .ok (.aload_n 0, 1) := by decide +kernel
theorem dX6_init_5 : decode cX6_init 5 = .ok (.bipush 8, 2) := by decide +kernel
theorem dX6_init_7 : decode cX6_init 7 = .ok (.anewarray 9, 3) := by decide +kernel
theorem dX6_init_10 : decode cX6_init 10 = .ok (.putfield 11, 3) := by decide +kernel
theorem dX6_init_13 : decode cX6_init 13 = .ok (.iconst 0, 1) := by decide +kernel
theorem dX6_init_14 : decode cX6_init 14 = .ok (.istore_n 1, 1) := by decide +kernel
theorem dX6_init_15 : decode cX6_init 15 = .ok (.iload_n 1, 1) := by decide +kernel
theorem dX6_init_16 : decode cX6_init 16 = .ok (.bipush 8, 2) := by decide +kernel
theorem dX6_init_18 : decode cX6_init 18 = .ok (.if_icmp .ge 22, 3) := by decide +kernel
theorem dX6_init_21 : decode cX6_init 21 = .ok (.aload_n 0, 1) := by decide +kernel
theorem dX6_init_22 : decode cX6_init 22 = .ok (.getfield 11, 3) := by decide +kernel
theorem dX6_init_25 : decode cX6_init 25 = .ok (.iload_n 1, 1) := by decide +kernel
theorem dX6_init_26 : decode cX6_init 26 = .ok (.new 9, 3) := by decide +kernel
theorem dX6_init_29 : decode cX6_init 29 = .ok (.dup, 1) := by decide +kernel
theorem dX6_init_30 : decode cX6_init 30 = .ok (.invokespecial 17, 3) := by decide +kernel
theorem dX6_init_33 : decode cX6_init 33 = .ok (.aastore, 1) := by decide +kernel
theorem dX6_init_34 : decode cX6_init 34 = .ok (.iinc 1 1, 3) := by decide +kernel
theorem dX6_init_37 : decode cX6_init 37 = .ok (.goto (-22), 3) := by decide +kernel
theorem dX6_init_40 : decode cX6_init 40 = .ok (.return_, 1) := by decide +kernel
theorem dX6_keep_0 : decode cX6_keep 0 = .ok (.aload_n 0, 1) := by decide +kernel
theorem dX6_keep_1 : decode cX6_keep 1 = .ok (.getfield 11, 3) := by decide +kernel
theorem dX6_keep_4 : decode cX6_keep 4 = .ok (.aload_n 0, 1) := by decide +kernel
theorem dX6_keep_5 : decode cX6_keep 5 = .ok (.getfield 18, 3) := by decide +kernel
theorem dX6_keep_8 : decode cX6_keep 8 = .ok (.aaload, 1) := by decide +kernel
theorem dX6_keep_9 : decode cX6_keep 9 = .ok (.aload_n 1, 1) := by decide +kernel
theorem dX6_keep_10 : decode cX6_keep 10 = .ok (.invokevirtual 22, 3) := by decide +kernel
theorem dX6_keep_13 : decode cX6_keep 13 = .ok (.aload_n 0, 1) := by decide +kernel
theorem dX6_keep_14 : decode cX6_keep 14 = .ok (.aload_n 0, 1) := by decide +kernel
theorem dX6_keep_15 : decode cX6_keep 15 = .ok (.getfield 18, 3) := by decide +kernel
theorem dX6_keep_18 : decode cX6_keep 18 = .ok (.iconst 1, 1) := by decide +kernel
theorem dX6_keep_19 : decode cX6_keep 19 = .ok (.iadd, 1) := by decide +kernel
theorem dX6_keep_20 : decode cX6_keep 20 = .ok (.bipush 8, 2) := by decide +kernel
theorem dX6_keep_22 : decode cX6_keep 22 = .ok (.irem, 1) := by decide +kernel
theorem dX6_keep_23 : decode cX6_keep 23 = .ok (.putfield 18, 3) := by decide +kernel
theorem dX6_keep_26 : decode cX6_keep 26 = .ok (.aload_n 0, 1) := by decide +kernel
theorem dX6_keep_27 : decode cX6_keep 27 = .ok (.aload_n 0, 1) := by decide +kernel
theorem dX6_keep_28 : decode cX6_keep 28 = .ok (.getfield 26, 3) := by decide +kernel
theorem dX6_keep_31 : decode cX6_keep 31 = .ok (.iconst 1, 1) := by decide +kernel
theorem dX6_keep_32 : decode cX6_keep 32 = .ok (.iadd, 1) := by decide +kernel
theorem dX6_keep_33 : decode cX6_keep 33 = .ok (.bipush 8, 2) := by decide +kernel
theorem dX6_keep_35 : decode cX6_keep 35 = .ok (.invokestatic 29, 3) := by decide +kernel
theorem dX6_keep_38 : decode cX6_keep 38 = .ok (.putfield 26, 3) := by decide +kernel
theorem dX6_keep_41 : decode cX6_keep 41 = .ok (.return_, 1) := by decide +kernel
theorem dX6_bringBack_0 : decode cX6_bringBack 0 = .ok (.aload_n 0, 1) := by decide +kernel
theorem dX6_bringBack_1 : decode cX6_bringBack 1 = .ok (.getfield 26, 3) := by decide +kernel
theorem dX6_bringBack_4 : decode cX6_bringBack 4 = .ok (.ifCond .ne 4, 3) := by decide +kernel
theorem dX6_bringBack_7 : decode cX6_bringBack 7 = .ok (.return_, 1) := by decide +kernel
theorem dX6_bringBack_8 : decode cX6_bringBack 8 = .ok (.aload_n 0, 1) := by decide +kernel
theorem dX6_bringBack_9 : decode cX6_bringBack 9 = .ok (.aload_n 0, 1) := by decide +kernel
theorem dX6_bringBack_10 : decode cX6_bringBack 10 = .ok (.getfield 18, 3) := by decide +kernel
theorem dX6_bringBack_13 : decode cX6_bringBack 13 = .ok (.bipush 8, 2) := by decide +kernel
theorem dX6_bringBack_15 : decode cX6_bringBack 15 = .ok (.iadd, 1) := by decide +kernel
theorem dX6_bringBack_16 : decode cX6_bringBack 16 = .ok (.iconst 1, 1) := by decide +kernel
theorem dX6_bringBack_17 : decode cX6_bringBack 17 = .ok (.isub, 1) := by decide +kernel
theorem dX6_bringBack_18 : decode cX6_bringBack 18 = .ok (.bipush 8, 2) := by decide +kernel
theorem dX6_bringBack_20 : decode cX6_bringBack 20 = .ok (.irem, 1) := by decide +kernel
theorem dX6_bringBack_21 : decode cX6_bringBack 21 = .ok (.putfield 18, 3) := by decide +kernel
theorem dX6_bringBack_24 : decode cX6_bringBack 24 = .ok (.aload_n 0, 1) := by decide +kernel
theorem dX6_bringBack_25 : decode cX6_bringBack 25 = .ok (.dup, 1) := by decide +kernel
theorem dX6_bringBack_26 : decode cX6_bringBack 26 = .ok (.getfield 26, 3) := by decide +kernel
theorem dX6_bringBack_29 : decode cX6_bringBack 29 = .ok (.iconst 1, 1) := by decide +kernel
theorem dX6_bringBack_30 : decode cX6_bringBack 30 = .ok (.isub, 1) := by decide +kernel
theorem dX6_bringBack_31 : decode cX6_bringBack 31 = .ok (.putfield 26, 3) := by decide +kernel
theorem dX6_bringBack_34 : decode cX6_bringBack 34 = .ok (.aload_n 1, 1) := by decide +kernel
theorem dX6_bringBack_35 : decode cX6_bringBack 35 = .ok (.aload_n 0, 1) := by decide +kernel
theorem dX6_bringBack_36 : decode cX6_bringBack 36 = .ok (.getfield 11, 3) := by decide +kernel
theorem dX6_bringBack_39 : decode cX6_bringBack 39 = .ok (.aload_n 0, 1) := by decide +kernel
theorem dX6_bringBack_40 : decode cX6_bringBack 40 = .ok (.getfield 18, 3) := by decide +kernel
theorem dX6_bringBack_43 : decode cX6_bringBack 43 = .ok (.aaload, 1) := by decide +kernel
theorem dX6_bringBack_44 : decode cX6_bringBack 44 = .ok (.invokevirtual 22, 3) := by decide +kernel
theorem dX6_bringBack_47 : decode cX6_bringBack 47 = .ok (.return_, 1) := by decide +kernel
theorem dX6_forget_0 : decode cX6_forget 0 = .ok (.aload_n 0, 1) := by decide +kernel
theorem dX6_forget_1 : decode cX6_forget 1 = .ok (.iconst 0, 1) := by decide +kernel
theorem dX6_forget_2 : decode cX6_forget 2 = .ok (.putfield 26, 3) := by decide +kernel
theorem dX6_forget_5 : decode cX6_forget 5 = .ok (.return_, 1) := by decide +kernel
theorem dX6_takeAll_0 : decode cX6_takeAll 0 = .ok (.iconst 0, 1) := by decide +kernel
theorem dX6_takeAll_1 : decode cX6_takeAll 1 = .ok (.istore_n 2, 1) := by decide +kernel
theorem dX6_takeAll_2 : decode cX6_takeAll 2 = .ok (.iload_n 2, 1) := by decide +kernel
theorem dX6_takeAll_3 : decode cX6_takeAll 3 = .ok (.bipush 8, 2) := by decide +kernel
theorem dX6_takeAll_5 : decode cX6_takeAll 5 = .ok (.if_icmp .ge 24, 3) := by decide +kernel
theorem dX6_takeAll_8 : decode cX6_takeAll 8 = .ok (.aload_n 0, 1) := by decide +kernel
theorem dX6_takeAll_9 : decode cX6_takeAll 9 = .ok (.getfield 11, 3) := by decide +kernel
theorem dX6_takeAll_12 : decode cX6_takeAll 12 = .ok (.iload_n 2, 1) := by decide +kernel
theorem dX6_takeAll_13 : decode cX6_takeAll 13 = .ok (.aaload, 1) := by decide +kernel
theorem dX6_takeAll_14 : decode cX6_takeAll 14 = .ok (.aload_n 1, 1) := by decide +kernel
theorem dX6_takeAll_15 : decode cX6_takeAll 15 = .ok (.getfield 11, 3) := by decide +kernel
theorem dX6_takeAll_18 : decode cX6_takeAll 18 = .ok (.iload_n 2, 1) := by decide +kernel
theorem dX6_takeAll_19 : decode cX6_takeAll 19 = .ok (.aaload, 1) := by decide +kernel
theorem dX6_takeAll_20 : decode cX6_takeAll 20 = .ok (.invokevirtual 22, 3) := by decide +kernel
theorem dX6_takeAll_23 : decode cX6_takeAll 23 = .ok (.iinc 2 1, 3) := by decide +kernel
theorem dX6_takeAll_26 : decode cX6_takeAll 26 = .ok (.goto (-24), 3) := by decide +kernel
theorem dX6_takeAll_29 : decode cX6_takeAll 29 = .ok (.aload_n 0, 1) := by decide +kernel
theorem dX6_takeAll_30 : decode cX6_takeAll 30 = .ok (.aload_n 1, 1) := by decide +kernel
theorem dX6_takeAll_31 : decode cX6_takeAll 31 = .ok (.getfield 18, 3) := by decide +kernel
theorem dX6_takeAll_34 : decode cX6_takeAll 34 = .ok (.putfield 18, 3) := by decide +kernel
theorem dX6_takeAll_37 : decode cX6_takeAll 37 = .ok (.aload_n 0, 1) := by decide +kernel
theorem dX6_takeAll_38 : decode cX6_takeAll 38 = .ok (.aload_n 1, 1) := by decide +kernel
theorem dX6_takeAll_39 : decode cX6_takeAll 39 = .ok (.getfield 26, 3) := by decide +kernel
theorem dX6_takeAll_42 : decode cX6_takeAll 42 = .ok (.putfield 26, 3) := by decide +kernel
theorem dX6_takeAll_45 : decode cX6_takeAll 45 = .ok (.return_, 1) := by decide +kernel
theorem dX7_init_0 : decode cX7_init 0 = .ok (.aload_n 0, 1) := by decide +kernel
theorem dX7_init_1 : decode cX7_init 1 = .ok (.invokespecial 1, 3) := by decide +kernel
theorem dX7_init_4 : decode cX7_init 4 = .ok (.return_, 1) := by decide +kernel
theorem dX7_loudness_0 : decode cX7_loudness 0 = .ok (.iload_n 1, 1) := by decide +kernel
theorem dX7_loudness_1 : decode cX7_loudness 1 = .ok (.ireturn, 1) := by decide +kernel
theorem dX7_leftBehind_0 : decode cX7_leftBehind 0 = .ok (.iload_n 1, 1) := by decide +kernel
theorem dX7_leftBehind_1 : decode cX7_leftBehind 1 = .ok (.iload_n 2, 1) := by decide +kernel
theorem dX7_leftBehind_2 : decode cX7_leftBehind 2 = .ok (.isub, 1) := by decide +kernel
theorem dX7_leftBehind_3 : decode cX7_leftBehind 3 = .ok (.iconst 0, 1) := by decide +kernel
theorem dX7_leftBehind_4 : decode cX7_leftBehind 4 = .ok (.invokestatic 7, 3) := by decide +kernel
theorem dX7_leftBehind_7 : decode cX7_leftBehind 7 = .ok (.ireturn, 1) := by decide +kernel
theorem dX8_init_0 : decode cX8_init 0 = .ok (.aload_n 0, 1) := by decide +kernel
theorem dX8_init_1 : decode cX8_init 1 = .ok (.invokespecial 3, 3) := by decide +kernel
theorem dX8_init_4 : decode cX8_init 4 = .ok (.aload_n 0, 1) := by decide +kernel
theorem dX8_init_5 : decode cX8_init 5 = .ok (.bipush 80, 2) := by decide +kernel
theorem dX8_init_7 : decode cX8_init 7 = .ok (.newarray .char, 2) := by decide +kernel
theorem dX8_init_9 : decode cX8_init 9 = .ok (.putfield 9, 3) := by decide +kernel
theorem dX8_init_12 : decode cX8_init 12 = .ok (.return_, 1) := by decide +kernel
theorem dX8_addLetter_0 : decode cX8_addLetter 0 = .ok (.aload_n 0, 1) := by decide +kernel
theorem dX8_addLetter_1 : decode cX8_addLetter 1 = .ok (.getfield 15, 3) := by decide +kernel
theorem dX8_addLetter_4 : decode cX8_addLetter 4 = .ok (.bipush 80, 2) := by decide +kernel
theorem dX8_addLetter_6 : decode cX8_addLetter 6 = .ok (.if_icmp .ge 23, 3) := by decide +kernel
theorem dX8_addLetter_9 : decode cX8_addLetter 9 = .ok (.aload_n 0, 1) := by decide +kernel
theorem dX8_addLetter_10 : decode cX8_addLetter 10 = .ok (.getfield 9, 3) := by decide +kernel
theorem dX8_addLetter_13 : decode cX8_addLetter 13 = .ok (.aload_n 0, 1) := by decide +kernel
theorem dX8_addLetter_14 : decode cX8_addLetter 14 = .ok (.getfield 15, 3) := by decide +kernel
theorem dX8_addLetter_17 : decode cX8_addLetter 17 = .ok (.iload_n 1, 1) := by decide +kernel
theorem dX8_addLetter_18 : decode cX8_addLetter 18 = .ok (.castore, 1) := by decide +kernel
theorem dX8_addLetter_19 : decode cX8_addLetter 19 = .ok (.aload_n 0, 1) := by decide +kernel
theorem dX8_addLetter_20 : decode cX8_addLetter 20 = .ok (.dup, 1) := by decide +kernel
theorem dX8_addLetter_21 : decode cX8_addLetter 21 = .ok (.getfield 15, 3) := by decide +kernel
theorem dX8_addLetter_24 : decode cX8_addLetter 24 = .ok (.iconst 1, 1) := by decide +kernel
theorem dX8_addLetter_25 : decode cX8_addLetter 25 = .ok (.iadd, 1) := by decide +kernel
theorem dX8_addLetter_26 : decode cX8_addLetter 26 = .ok (.putfield 15, 3) := by decide +kernel
theorem dX8_addLetter_29 : decode cX8_addLetter 29 = .ok (.return_, 1) := by decide +kernel
theorem dX8_clear_0 : decode cX8_clear 0 = .ok (.aload_n 0, 1) := by decide +kernel
theorem dX8_clear_1 : decode cX8_clear 1 = .ok (.iconst 0, 1) := by decide +kernel
theorem dX8_clear_2 : decode cX8_clear 2 = .ok (.putfield 15, 3) := by decide +kernel
theorem dX8_clear_5 : decode cX8_clear 5 = .ok (.return_, 1) := by decide +kernel
theorem dX8_readHouse_0 : decode cX8_readHouse 0 = .ok (.aload_n 0, 1) := by decide +kernel
theorem dX8_readHouse_1 : decode cX8_readHouse 1 = .ok (.iconst 0, 1) := by decide +kernel
theorem dX8_readHouse_2 : decode cX8_readHouse 2 = .ok (.putfield 19, 3) := by decide +kernel
theorem dX8_readHouse_5 : decode cX8_readHouse 5 = .ok (.aload_n 0, 1) := by decide +kernel
theorem dX8_readHouse_6 : decode cX8_readHouse 6 = .ok (.aload_n 1, 1) := by decide +kernel
theorem dX8_readHouse_7 : decode cX8_readHouse 7 = .ok (.invokevirtual 22, 3) := by decide +kernel
theorem dX8_readHouse_10 : decode cX8_readHouse 10 = .ok (.ifCond .ne 5, 3) := by decide +kernel
theorem dX8_readHouse_13 : decode cX8_readHouse 13 = .ok (.iconst 0, 1) := by decide +kernel
theorem dX8_readHouse_14 : decode cX8_readHouse 14 = .ok (.ireturn, 1) := by decide +kernel
theorem dX8_readHouse_15 : decode cX8_readHouse 15 = .ok (.aload_n 0, 1) := by decide +kernel
theorem dX8_readHouse_16 : decode cX8_readHouse 16 = .ok (.bipush 59, 2) := by decide +kernel
theorem dX8_readHouse_18 : decode cX8_readHouse 18 = .ok (.invokevirtual 26, 3) := by decide +kernel
theorem dX8_readHouse_21 : decode cX8_readHouse 21 = .ok (.ifCond .eq 13, 3) := by decide +kernel
theorem dX8_readHouse_24 : decode cX8_readHouse 24 = .ok (.aload_n 0, 1) := by decide +kernel
theorem dX8_readHouse_25 : decode cX8_readHouse 25 = .ok (.aload_n 1, 1) := by decide +kernel
theorem dX8_readHouse_26 : decode cX8_readHouse 26 = .ok (.invokevirtual 30, 3) := by decide +kernel
theorem dX8_readHouse_29 : decode cX8_readHouse 29 = .ok (.ifCond .ne 5, 3) := by decide +kernel
theorem dX8_readHouse_32 : decode cX8_readHouse 32 = .ok (.iconst 0, 1) := by decide +kernel
theorem dX8_readHouse_33 : decode cX8_readHouse 33 = .ok (.ireturn, 1) := by decide +kernel
theorem dX8_readHouse_34 : decode cX8_readHouse 34 = .ok (.aload_n 0, 1) := by decide +kernel
theorem dX8_readHouse_35 : decode cX8_readHouse 35 = .ok (.invokevirtual 33, 3) := by decide +kernel
theorem dX8_readHouse_38 : decode cX8_readHouse 38 = .ok (.aload_n 0, 1) := by decide +kernel
theorem dX8_readHouse_39 : decode cX8_readHouse 39 = .ok (.getfield 19, 3) := by decide +kernel
theorem dX8_readHouse_42 : decode cX8_readHouse 42 = .ok (.aload_n 0, 1) := by decide +kernel
theorem dX8_readHouse_43 : decode cX8_readHouse 43 = .ok (.getfield 15, 3) := by decide +kernel
theorem dX8_readHouse_46 : decode cX8_readHouse 46 = .ok (.if_icmp .ne 7, 3) := by decide +kernel
theorem dX8_readHouse_49 : decode cX8_readHouse 49 = .ok (.iconst 1, 1) := by decide +kernel
theorem dX8_readHouse_50 : decode cX8_readHouse 50 = .ok (.goto 4, 3) := by decide +kernel
theorem dX8_readHouse_53 : decode cX8_readHouse 53 = .ok (.iconst 0, 1) := by decide +kernel
theorem dX8_readHouse_54 : decode cX8_readHouse 54 = .ok (.ireturn, 1) := by decide +kernel
theorem dX8_readSleepers_0 : decode cX8_readSleepers 0 = .ok (.iconst 1, 1) := by decide +kernel
theorem dX8_readSleepers_1 : decode cX8_readSleepers 1 = .ok (.istore_n 2, 1) := by decide +kernel
theorem dX8_readSleepers_2 : decode cX8_readSleepers 2 = .ok (.iconst 0, 1) := by decide +kernel
theorem dX8_readSleepers_3 : decode cX8_readSleepers 3 = .ok (.istore_n 3, 1) := by decide +kernel
theorem dX8_readSleepers_4 : decode cX8_readSleepers 4 = .ok (.iload_n 3, 1) := by decide +kernel
theorem dX8_readSleepers_5 : decode cX8_readSleepers 5 = .ok (.iconst 5, 1) := by decide +kernel
theorem dX8_readSleepers_6 : decode cX8_readSleepers 6 = .ok (.if_icmp .ge 43, 3) := by decide +kernel
theorem dX8_readSleepers_9 : decode cX8_readSleepers 9 = .ok (.iload_n 2, 1) := by decide +kernel
theorem dX8_readSleepers_10 : decode cX8_readSleepers 10 = .ok (.ifCond .eq 39, 3) := by decide +kernel
theorem dX8_readSleepers_13 : decode cX8_readSleepers 13 = .ok (.aload_n 0, 1) := by decide +kernel
theorem dX8_readSleepers_14 : decode cX8_readSleepers 14 = .ok (.aload_n 1, 1) := by decide +kernel
theorem dX8_readSleepers_15 : decode cX8_readSleepers 15 = .ok (.invokevirtual 36, 3) := by decide +kernel
theorem dX8_readSleepers_18 : decode cX8_readSleepers 18 = .ok (.ifCond .ne 5, 3) := by decide +kernel
theorem dX8_readSleepers_21 : decode cX8_readSleepers 21 = .ok (.iconst 0, 1) := by decide +kernel
theorem dX8_readSleepers_22 : decode cX8_readSleepers 22 = .ok (.ireturn, 1) := by decide +kernel
theorem dX8_readSleepers_23 : decode cX8_readSleepers 23 = .ok (.iload_n 3, 1) := by decide +kernel
theorem dX8_readSleepers_24 : decode cX8_readSleepers 24 = .ok (.iconst 4, 1) := by decide +kernel
theorem dX8_readSleepers_25 : decode cX8_readSleepers 25 = .ok (.if_icmp .ge 16, 3) := by decide +kernel
theorem dX8_readSleepers_28 : decode cX8_readSleepers 28 = .ok (.aload_n 0, 1) := by decide +kernel
theorem dX8_readSleepers_29 : decode cX8_readSleepers 29 = .ok (.bipush 44, 2) := by decide +kernel
theorem dX8_readSleepers_31 : decode cX8_readSleepers 31 = .ok (.invokevirtual 26, 3) := by decide +kernel
theorem dX8_readSleepers_34 : decode cX8_readSleepers 34 = .ok (.ifCond .eq 7, 3) := by decide +kernel
theorem dX8_readSleepers_37 : decode cX8_readSleepers 37 = .ok (.iconst 1, 1) := by decide +kernel
theorem dX8_readSleepers_38 : decode cX8_readSleepers 38 = .ok (.goto 4, 3) := by decide +kernel
theorem dX8_readSleepers_41 : decode cX8_readSleepers 41 = .ok (.iconst 0, 1) := by decide +kernel
theorem dX8_readSleepers_42 : decode cX8_readSleepers 42 = .ok (.istore_n 2, 1) := by decide +kernel
theorem dX8_readSleepers_43 : decode cX8_readSleepers 43 = .ok (.iinc 3 1, 3) := by decide +kernel
theorem dX8_readSleepers_46 : decode cX8_readSleepers 46 = .ok (.goto (-42), 3) := by decide +kernel
theorem dX8_readSleepers_49 : decode cX8_readSleepers 49 = .ok (.iconst 1, 1) := by decide +kernel
theorem dX8_readSleepers_50 : decode cX8_readSleepers 50 = .ok (.ireturn, 1) := by decide +kernel
theorem dX8_readThings_0 : decode cX8_readThings 0 = .ok (.iconst 1, 1) := by decide +kernel
theorem dX8_readThings_1 : decode cX8_readThings 1 = .ok (.istore_n 2, 1) := by decide +kernel
theorem dX8_readThings_2 : decode cX8_readThings 2 = .ok (.iconst 0, 1) := by decide +kernel
theorem dX8_readThings_3 : decode cX8_readThings 3 = .ok (.istore_n 3, 1) := by decide +kernel
theorem dX8_readThings_4 : decode cX8_readThings 4 = .ok (.iload_n 3, 1) := by decide +kernel
theorem dX8_readThings_5 : decode cX8_readThings 5 = .ok (.bipush 8, 2) := by decide +kernel
theorem dX8_readThings_7 : decode cX8_readThings 7 = .ok (.if_icmp .ge 44, 3) := by decide +kernel
theorem dX8_readThings_10 : decode cX8_readThings 10 = .ok (.iload_n 2, 1) := by decide +kernel
theorem dX8_readThings_11 : decode cX8_readThings 11 = .ok (.ifCond .eq 40, 3) := by decide +kernel
theorem dX8_readThings_14 : decode cX8_readThings 14 = .ok (.aload_n 0, 1) := by decide +kernel
theorem dX8_readThings_15 : decode cX8_readThings 15 = .ok (.aload_n 1, 1) := by decide +kernel
theorem dX8_readThings_16 : decode cX8_readThings 16 = .ok (.invokevirtual 39, 3) := by decide +kernel
theorem dX8_readThings_19 : decode cX8_readThings 19 = .ok (.ifCond .ne 5, 3) := by decide +kernel
theorem dX8_readThings_22 : decode cX8_readThings 22 = .ok (.iconst 0, 1) := by decide +kernel
theorem dX8_readThings_23 : decode cX8_readThings 23 = .ok (.ireturn, 1) := by decide +kernel
theorem dX8_readThings_24 : decode cX8_readThings 24 = .ok (.iload_n 3, 1) := by decide +kernel
theorem dX8_readThings_25 : decode cX8_readThings 25 = .ok (.bipush 7, 2) := by decide +kernel
theorem dX8_readThings_27 : decode cX8_readThings 27 = .ok (.if_icmp .ge 16, 3) := by decide +kernel
theorem dX8_readThings_30 : decode cX8_readThings 30 = .ok (.aload_n 0, 1) := by decide +kernel
theorem dX8_readThings_31 : decode cX8_readThings 31 = .ok (.bipush 44, 2) := by decide +kernel
theorem dX8_readThings_33 : decode cX8_readThings 33 = .ok (.invokevirtual 26, 3) := by decide +kernel
theorem dX8_readThings_36 : decode cX8_readThings 36 = .ok (.ifCond .eq 7, 3) := by decide +kernel
theorem dX8_readThings_39 : decode cX8_readThings 39 = .ok (.iconst 1, 1) := by decide +kernel
theorem dX8_readThings_40 : decode cX8_readThings 40 = .ok (.goto 4, 3) := by decide +kernel
theorem dX8_readThings_43 : decode cX8_readThings 43 = .ok (.iconst 0, 1) := by decide +kernel
theorem dX8_readThings_44 : decode cX8_readThings 44 = .ok (.istore_n 2, 1) := by decide +kernel
theorem dX8_readThings_45 : decode cX8_readThings 45 = .ok (.iinc 3 1, 3) := by decide +kernel
theorem dX8_readThings_48 : decode cX8_readThings 48 = .ok (.goto (-44), 3) := by decide +kernel
theorem dX8_readThings_51 : decode cX8_readThings 51 = .ok (.iconst 1, 1) := by decide +kernel
theorem dX8_readThings_52 : decode cX8_readThings 52 = .ok (.ireturn, 1) := by decide +kernel
theorem dX8_readSleeper_0 : decode cX8_readSleeper 0 = .ok (.aload_n 0, 1) := by decide +kernel
theorem dX8_readSleeper_1 : decode cX8_readSleeper 1 = .ok (.iconst 0, 1) := by decide +kernel
theorem dX8_readSleeper_2 : decode cX8_readSleeper 2 = .ok (.iconst 3, 1) := by decide +kernel
theorem dX8_readSleeper_3 : decode cX8_readSleeper 3 = .ok (.invokevirtual 42, 3) := by decide +kernel
theorem dX8_readSleeper_6 : decode cX8_readSleeper 6 = .ok (.istore_n 2, 1) := by decide +kernel
theorem dX8_readSleeper_7 : decode cX8_readSleeper 7 = .ok (.iload_n 2, 1) := by decide +kernel
theorem dX8_readSleeper_8 : decode cX8_readSleeper 8 = .ok (.ifCond .lt 12, 3) := by decide +kernel
theorem dX8_readSleeper_11 : decode cX8_readSleeper 11 = .ok (.aload_n 0, 1) := by decide +kernel
theorem dX8_readSleeper_12 : decode cX8_readSleeper 12 = .ok (.bipush 58, 2) := by decide +kernel
theorem dX8_readSleeper_14 : decode cX8_readSleeper 14 = .ok (.invokevirtual 26, 3) := by decide +kernel
theorem dX8_readSleeper_17 : decode cX8_readSleeper 17 = .ok (.ifCond .ne 5, 3) := by decide +kernel
theorem dX8_readSleeper_20 : decode cX8_readSleeper 20 = .ok (.iconst 0, 1) := by decide +kernel
theorem dX8_readSleeper_21 : decode cX8_readSleeper 21 = .ok (.ireturn, 1) := by decide +kernel
theorem dX8_readSleeper_22 : decode cX8_readSleeper 22 = .ok (.aload_n 0, 1) := by decide +kernel
theorem dX8_readSleeper_23 : decode cX8_readSleeper 23 = .ok (.invokevirtual 46, 3) := by decide +kernel
theorem dX8_readSleeper_26 : decode cX8_readSleeper 26 = .ok (.istore_n 3, 1) := by decide +kernel
theorem dX8_readSleeper_27 : decode cX8_readSleeper 27 = .ok (.iload_n 3, 1) := by decide +kernel
theorem dX8_readSleeper_28 : decode cX8_readSleeper 28 = .ok (.ifCond .ge 5, 3) := by decide +kernel
theorem dX8_readSleeper_31 : decode cX8_readSleeper 31 = .ok (.iconst 0, 1) := by decide +kernel
theorem dX8_readSleeper_32 : decode cX8_readSleeper 32 = .ok (.ireturn, 1) := by decide +kernel
theorem dX8_readSleeper_33 : decode cX8_readSleeper 33 = .ok (.aload_n 1, 1) := by decide +kernel
theorem dX8_readSleeper_34 : decode cX8_readSleeper 34 = .ok (.iload_n 2, 1) := by decide +kernel
theorem dX8_readSleeper_35 : decode cX8_readSleeper 35 = .ok (.iload_n 3, 1) := by decide +kernel
theorem dX8_readSleeper_36 : decode cX8_readSleeper 36 = .ok (.invokevirtual 50, 3) := by decide +kernel
theorem dX8_readSleeper_39 : decode cX8_readSleeper 39 = .ok (.iconst 1, 1) := by decide +kernel
theorem dX8_readSleeper_40 : decode cX8_readSleeper 40 = .ok (.ireturn, 1) := by decide +kernel
theorem dX8_readThing_0 : decode cX8_readThing 0 = .ok (.aload_n 0, 1) := by decide +kernel
theorem dX8_readThing_1 : decode cX8_readThing 1 = .ok (.invokevirtual 56, 3) := by decide +kernel
theorem dX8_readThing_4 : decode cX8_readThing 4 = .ok (.istore_n 2, 1) := by decide +kernel
theorem dX8_readThing_5 : decode cX8_readThing 5 = .ok (.iload_n 2, 1) := by decide +kernel
theorem dX8_readThing_6 : decode cX8_readThing 6 = .ok (.ifCond .ge 5, 3) := by decide +kernel
theorem dX8_readThing_9 : decode cX8_readThing 9 = .ok (.iconst 0, 1) := by decide +kernel
theorem dX8_readThing_10 : decode cX8_readThing 10 = .ok (.ireturn, 1) := by decide +kernel
theorem dX8_readThing_11 : decode cX8_readThing 11 = .ok (.aload_n 0, 1) := by decide +kernel
theorem dX8_readThing_12 : decode cX8_readThing 12 = .ok (.iconst 0, 1) := by decide +kernel
theorem dX8_readThing_13 : decode cX8_readThing 13 = .ok (.bipush 9, 2) := by decide +kernel
theorem dX8_readThing_15 : decode cX8_readThing 15 = .ok (.invokevirtual 42, 3) := by decide +kernel
theorem dX8_readThing_18 : decode cX8_readThing 18 = .ok (.istore_n 3, 1) := by decide +kernel
theorem dX8_readThing_19 : decode cX8_readThing 19 = .ok (.iload_n 3, 1) := by decide +kernel
theorem dX8_readThing_20 : decode cX8_readThing 20 = .ok (.ifCond .ge 5, 3) := by decide +kernel
theorem dX8_readThing_23 : decode cX8_readThing 23 = .ok (.iconst 0, 1) := by decide +kernel
theorem dX8_readThing_24 : decode cX8_readThing 24 = .ok (.ireturn, 1) := by decide +kernel
theorem dX8_readThing_25 : decode cX8_readThing 25 = .ok (.aload_n 0, 1) := by decide +kernel
theorem dX8_readThing_26 : decode cX8_readThing 26 = .ok (.iconst 1, 1) := by decide +kernel
theorem dX8_readThing_27 : decode cX8_readThing 27 = .ok (.bipush 9, 2) := by decide +kernel
theorem dX8_readThing_29 : decode cX8_readThing 29 = .ok (.invokevirtual 42, 3) := by decide +kernel
theorem dX8_readThing_32 : decode cX8_readThing 32 = .ok (.istore 4, 2) := by decide +kernel
theorem dX8_readThing_34 : decode cX8_readThing 34 = .ok (.iload 4, 2) := by decide +kernel
theorem dX8_readThing_36 : decode cX8_readThing 36 = .ok (.ifCond .ge 5, 3) := by decide +kernel
theorem dX8_readThing_39 : decode cX8_readThing 39 = .ok (.iconst 0, 1) := by decide +kernel
theorem dX8_readThing_40 : decode cX8_readThing 40 = .ok (.ireturn, 1) := by decide +kernel
theorem dX8_readThing_41 : decode cX8_readThing 41 = .ok (.aload_n 0, 1) := by decide +kernel
theorem dX8_readThing_42 : decode cX8_readThing 42 = .ok (.iconst 0, 1) := by decide +kernel
theorem dX8_readThing_43 : decode cX8_readThing 43 = .ok (.iconst 3, 1) := by decide +kernel
theorem dX8_readThing_44 : decode cX8_readThing 44 = .ok (.invokevirtual 42, 3) := by decide +kernel
theorem dX8_readThing_47 : decode cX8_readThing 47 = .ok (.istore 5, 2) := by decide +kernel
theorem dX8_readThing_49 : decode cX8_readThing 49 = .ok (.iload 5, 2) := by decide +kernel
theorem dX8_readThing_51 : decode cX8_readThing 51 = .ok (.ifCond .ge 5, 3) := by decide +kernel
theorem dX8_readThing_54 : decode cX8_readThing 54 = .ok (.iconst 0, 1) := by decide +kernel
theorem dX8_readThing_55 : decode cX8_readThing 55 = .ok (.ireturn, 1) := by decide +kernel
theorem dX8_readThing_56 : decode cX8_readThing 56 = .ok (.aload_n 1, 1) := by decide +kernel
theorem dX8_readThing_57 : decode cX8_readThing 57 = .ok (.iload_n 2, 1) := by decide +kernel
theorem dX8_readThing_58 : decode cX8_readThing 58 = .ok (.iload_n 3, 1) := by decide +kernel
theorem dX8_readThing_59 : decode cX8_readThing 59 = .ok (.iload 4, 2) := by decide +kernel
theorem dX8_readThing_61 : decode cX8_readThing 61 = .ok (.iload 5, 2) := by decide +kernel
theorem dX8_readThing_63 : decode cX8_readThing 63 = .ok (.invokevirtual 59, 3) := by decide +kernel
theorem dX8_readThing_66 : decode cX8_readThing 66 = .ok (.iconst 1, 1) := by decide +kernel
theorem dX8_readThing_67 : decode cX8_readThing 67 = .ok (.ireturn, 1) := by decide +kernel
theorem dX8_readKind_0 : decode cX8_readKind 0 = .ok (.aload_n 0, 1) := by decide +kernel
theorem dX8_readKind_1 : decode cX8_readKind 1 = .ok (.invokevirtual 33, 3) := by decide +kernel
theorem dX8_readKind_4 : decode cX8_readKind 4 = .ok (.aload_n 0, 1) := by decide +kernel
theorem dX8_readKind_5 : decode cX8_readKind 5 = .ok (.getfield 19, 3) := by decide +kernel
theorem dX8_readKind_8 : decode cX8_readKind 8 = .ok (.aload_n 0, 1) := by decide +kernel
theorem dX8_readKind_9 : decode cX8_readKind 9 = .ok (.getfield 15, 3) := by decide +kernel
theorem dX8_readKind_12 : decode cX8_readKind 12 = .ok (.if_icmp .ge 20, 3) := by decide +kernel
theorem dX8_readKind_15 : decode cX8_readKind 15 = .ok (.ldc 63, 2) := by decide +kernel
theorem dX8_readKind_17 : decode cX8_readKind 17 = .ok (.aload_n 0, 1) := by decide +kernel
theorem dX8_readKind_18 : decode cX8_readKind 18 = .ok (.getfield 9, 3) := by decide +kernel
theorem dX8_readKind_21 : decode cX8_readKind 21 = .ok (.aload_n 0, 1) := by decide +kernel
theorem dX8_readKind_22 : decode cX8_readKind 22 = .ok (.getfield 19, 3) := by decide +kernel
theorem dX8_readKind_25 : decode cX8_readKind 25 = .ok (.caload, 1) := by decide +kernel
theorem dX8_readKind_26 : decode cX8_readKind 26 = .ok (.invokevirtual 65, 3) := by decide +kernel
theorem dX8_readKind_29 : decode cX8_readKind 29 = .ok (.goto 4, 3) := by decide +kernel
theorem dX8_readKind_32 : decode cX8_readKind 32 = .ok (.iconst (-1), 1) := by decide +kernel
theorem dX8_readKind_33 : decode cX8_readKind 33 = .ok (.istore_n 1, 1) := by decide +kernel
theorem dX8_readKind_34 : decode cX8_readKind 34 = .ok (.aload_n 0, 1) := by decide +kernel
theorem dX8_readKind_35 : decode cX8_readKind 35 = .ok (.dup, 1) := by decide +kernel
theorem dX8_readKind_36 : decode cX8_readKind 36 = .ok (.getfield 19, 3) := by decide +kernel
theorem dX8_readKind_39 : decode cX8_readKind 39 = .ok (.iload_n 1, 1) := by decide +kernel
theorem dX8_readKind_40 : decode cX8_readKind 40 = .ok (.ifCond .ge 7, 3) := by decide +kernel
theorem dX8_readKind_43 : decode cX8_readKind 43 = .ok (.iconst 0, 1) := by decide +kernel
theorem dX8_readKind_44 : decode cX8_readKind 44 = .ok (.goto 4, 3) := by decide +kernel
theorem dX8_readKind_47 : decode cX8_readKind 47 = .ok (.iconst 1, 1) := by decide +kernel
theorem dX8_readKind_48 : decode cX8_readKind 48 = .ok (.iadd, 1) := by decide +kernel
theorem dX8_readKind_49 : decode cX8_readKind 49 = .ok (.putfield 19, 3) := by decide +kernel
theorem dX8_readKind_52 : decode cX8_readKind 52 = .ok (.iload_n 1, 1) := by decide +kernel
theorem dX8_readKind_53 : decode cX8_readKind 53 = .ok (.ireturn, 1) := by decide +kernel
theorem dX8_readDigit_0 : decode cX8_readDigit 0 = .ok (.aload_n 0, 1) := by decide +kernel
theorem dX8_readDigit_1 : decode cX8_readDigit 1 = .ok (.invokevirtual 33, 3) := by decide +kernel
theorem dX8_readDigit_4 : decode cX8_readDigit 4 = .ok (.aload_n 0, 1) := by decide +kernel
theorem dX8_readDigit_5 : decode cX8_readDigit 5 = .ok (.invokevirtual 71, 3) := by decide +kernel
theorem dX8_readDigit_8 : decode cX8_readDigit 8 = .ok (.istore_n 3, 1) := by decide +kernel
theorem dX8_readDigit_9 : decode cX8_readDigit 9 = .ok (.iload_n 3, 1) := by decide +kernel
theorem dX8_readDigit_10 : decode cX8_readDigit 10 = .ok (.iload_n 1, 1) := by decide +kernel
theorem dX8_readDigit_11 : decode cX8_readDigit 11 = .ok (.iload_n 2, 1) := by decide +kernel
theorem dX8_readDigit_12 : decode cX8_readDigit 12 = .ok (.invokestatic 74, 3) := by decide +kernel
theorem dX8_readDigit_15 : decode cX8_readDigit 15 = .ok (.ifCond .ne 5, 3) := by decide +kernel
theorem dX8_readDigit_18 : decode cX8_readDigit 18 = .ok (.iconst (-1), 1) := by decide +kernel
theorem dX8_readDigit_19 : decode cX8_readDigit 19 = .ok (.ireturn, 1) := by decide +kernel
theorem dX8_readDigit_20 : decode cX8_readDigit 20 = .ok (.aload_n 0, 1) := by decide +kernel
theorem dX8_readDigit_21 : decode cX8_readDigit 21 = .ok (.dup, 1) := by decide +kernel
theorem dX8_readDigit_22 : decode cX8_readDigit 22 = .ok (.getfield 19, 3) := by decide +kernel
theorem dX8_readDigit_25 : decode cX8_readDigit 25 = .ok (.iconst 1, 1) := by decide +kernel
theorem dX8_readDigit_26 : decode cX8_readDigit 26 = .ok (.iadd, 1) := by decide +kernel
theorem dX8_readDigit_27 : decode cX8_readDigit 27 = .ok (.putfield 19, 3) := by decide +kernel
theorem dX8_readDigit_30 : decode cX8_readDigit 30 = .ok (.iload_n 3, 1) := by decide +kernel
theorem dX8_readDigit_31 : decode cX8_readDigit 31 = .ok (.ireturn, 1) := by decide +kernel
theorem dX8_readNumber_0 : decode cX8_readNumber 0 = .ok (.aload_n 0, 1) := by decide +kernel
theorem dX8_readNumber_1 : decode cX8_readNumber 1 = .ok (.iconst 0, 1) := by decide +kernel
theorem dX8_readNumber_2 : decode cX8_readNumber 2 = .ok (.bipush 9, 2) := by decide +kernel
theorem dX8_readNumber_4 : decode cX8_readNumber 4 = .ok (.invokevirtual 42, 3) := by decide +kernel
theorem dX8_readNumber_7 : decode cX8_readNumber 7 = .ok (.istore_n 1, 1) := by decide +kernel
theorem dX8_readNumber_8 : decode cX8_readNumber 8 = .ok (.iload_n 1, 1) := by decide +kernel
theorem dX8_readNumber_9 : decode cX8_readNumber 9 = .ok (.ifCond .ge 5, 3) := by decide +kernel
theorem dX8_readNumber_12 : decode cX8_readNumber 12 = .ok (.iconst (-1), 1) := by decide +kernel
theorem dX8_readNumber_13 : decode cX8_readNumber 13 = .ok (.ireturn, 1) := by decide +kernel
theorem dX8_readNumber_14 : decode cX8_readNumber 14 = .ok (.aload_n 0, 1) := by decide +kernel
theorem dX8_readNumber_15 : decode cX8_readNumber 15 = .ok (.getfield 19, 3) := by decide +kernel
theorem dX8_readNumber_18 : decode cX8_readNumber 18 = .ok (.iconst 1, 1) := by decide +kernel
theorem dX8_readNumber_19 : decode cX8_readNumber 19 = .ok (.isub, 1) := by decide +kernel
theorem dX8_readNumber_20 : decode cX8_readNumber 20 = .ok (.istore_n 2, 1) := by decide +kernel
theorem dX8_readNumber_21 : decode cX8_readNumber 21 = .ok (.aload_n 0, 1) := by decide +kernel
theorem dX8_readNumber_22 : decode cX8_readNumber 22 = .ok (.invokevirtual 71, 3) := by decide +kernel
theorem dX8_readNumber_25 : decode cX8_readNumber 25 = .ok (.istore_n 3, 1) := by decide +kernel
theorem dX8_readNumber_26 : decode cX8_readNumber 26 = .ok (.iload_n 3, 1) := by decide +kernel
theorem dX8_readNumber_27 : decode cX8_readNumber 27 = .ok (.ifCond .lt 20, 3) := by decide +kernel
theorem dX8_readNumber_30 : decode cX8_readNumber 30 = .ok (.bipush 10, 2) := by decide +kernel
theorem dX8_readNumber_32 : decode cX8_readNumber 32 = .ok (.iload_n 1, 1) := by decide +kernel
theorem dX8_readNumber_33 : decode cX8_readNumber 33 = .ok (.imul, 1) := by decide +kernel
theorem dX8_readNumber_34 : decode cX8_readNumber 34 = .ok (.iload_n 3, 1) := by decide +kernel
theorem dX8_readNumber_35 : decode cX8_readNumber 35 = .ok (.iadd, 1) := by decide +kernel
theorem dX8_readNumber_36 : decode cX8_readNumber 36 = .ok (.istore_n 1, 1) := by decide +kernel
theorem dX8_readNumber_37 : decode cX8_readNumber 37 = .ok (.aload_n 0, 1) := by decide +kernel
theorem dX8_readNumber_38 : decode cX8_readNumber 38 = .ok (.dup, 1) := by decide +kernel
theorem dX8_readNumber_39 : decode cX8_readNumber 39 = .ok (.getfield 19, 3) := by decide +kernel
theorem dX8_readNumber_42 : decode cX8_readNumber 42 = .ok (.iconst 1, 1) := by decide +kernel
theorem dX8_readNumber_43 : decode cX8_readNumber 43 = .ok (.iadd, 1) := by decide +kernel
theorem dX8_readNumber_44 : decode cX8_readNumber 44 = .ok (.putfield 19, 3) := by decide +kernel
theorem dX8_readNumber_47 : decode cX8_readNumber 47 = .ok (.iload_n 1, 1) := by decide +kernel
theorem dX8_readNumber_48 : decode cX8_readNumber 48 = .ok (.bipush 60, 2) := by decide +kernel
theorem dX8_readNumber_50 : decode cX8_readNumber 50 = .ok (.if_icmp .le 10, 3) := by decide +kernel
theorem dX8_readNumber_53 : decode cX8_readNumber 53 = .ok (.aload_n 0, 1) := by decide +kernel
theorem dX8_readNumber_54 : decode cX8_readNumber 54 = .ok (.iload_n 2, 1) := by decide +kernel
theorem dX8_readNumber_55 : decode cX8_readNumber 55 = .ok (.putfield 19, 3) := by decide +kernel
theorem dX8_readNumber_58 : decode cX8_readNumber 58 = .ok (.iconst (-1), 1) := by decide +kernel
theorem dX8_readNumber_59 : decode cX8_readNumber 59 = .ok (.ireturn, 1) := by decide +kernel
theorem dX8_readNumber_60 : decode cX8_readNumber 60 = .ok (.iload_n 1, 1) := by decide +kernel
theorem dX8_readNumber_61 : decode cX8_readNumber 61 = .ok (.ireturn, 1) := by decide +kernel
theorem dX8_digitHere_0 : decode cX8_digitHere 0 = .ok (.aload_n 0, 1) := by decide +kernel
theorem dX8_digitHere_1 : decode cX8_digitHere 1 = .ok (.getfield 19, 3) := by decide +kernel
theorem dX8_digitHere_4 : decode cX8_digitHere 4 = .ok (.aload_n 0, 1) := by decide +kernel
theorem dX8_digitHere_5 : decode cX8_digitHere 5 = .ok (.getfield 15, 3) := by decide +kernel
theorem dX8_digitHere_8 : decode cX8_digitHere 8 = .ok (.if_icmp .ge 31, 3) := by decide +kernel
theorem dX8_digitHere_11 : decode cX8_digitHere 11 = .ok (.aload_n 0, 1) := by decide +kernel
theorem dX8_digitHere_12 : decode cX8_digitHere 12 = .ok (.getfield 9, 3) := by decide +kernel
theorem dX8_digitHere_15 : decode cX8_digitHere 15 = .ok (.aload_n 0, 1) := by decide +kernel
theorem dX8_digitHere_16 : decode cX8_digitHere 16 = .ok (.getfield 19, 3) := by decide +kernel
theorem dX8_digitHere_19 : decode cX8_digitHere 19 = .ok (.caload, 1) := by decide +kernel
theorem dX8_digitHere_20 : decode cX8_digitHere 20 = .ok (.bipush 48, 2) := by decide +kernel
theorem dX8_digitHere_22 : decode cX8_digitHere 22 = .ok (.if_icmp .lt 17, 3) := by decide +kernel
theorem dX8_digitHere_25 : decode cX8_digitHere 25 = .ok (.aload_n 0, 1) := by decide +kernel
theorem dX8_digitHere_26 : decode cX8_digitHere 26 = .ok (.getfield 9, 3) := by decide +kernel
theorem dX8_digitHere_29 : decode cX8_digitHere 29 = .ok (.aload_n 0, 1) := by decide +kernel
theorem dX8_digitHere_30 : decode cX8_digitHere 30 = .ok (.getfield 19, 3) := by decide +kernel
theorem dX8_digitHere_33 : decode cX8_digitHere 33 = .ok (.caload, 1) := by decide +kernel
theorem dX8_digitHere_34 : decode cX8_digitHere 34 = .ok (.bipush 57, 2) := by decide +kernel
theorem dX8_digitHere_36 : decode cX8_digitHere 36 = .ok (.if_icmp .le 5, 3) := by decide +kernel
theorem dX8_digitHere_39 : decode cX8_digitHere 39 = .ok (.iconst (-1), 1) := by decide +kernel
theorem dX8_digitHere_40 : decode cX8_digitHere 40 = .ok (.ireturn, 1) := by decide +kernel
theorem dX8_digitHere_41 : decode cX8_digitHere 41 = .ok (.aload_n 0, 1) := by decide +kernel
theorem dX8_digitHere_42 : decode cX8_digitHere 42 = .ok (.getfield 9, 3) := by decide +kernel
theorem dX8_digitHere_45 : decode cX8_digitHere 45 = .ok (.aload_n 0, 1) := by decide +kernel
theorem dX8_digitHere_46 : decode cX8_digitHere 46 = .ok (.getfield 19, 3) := by decide +kernel
theorem dX8_digitHere_49 : decode cX8_digitHere 49 = .ok (.caload, 1) := by decide +kernel
theorem dX8_digitHere_50 : decode cX8_digitHere 50 = .ok (.bipush 48, 2) := by decide +kernel
theorem dX8_digitHere_52 : decode cX8_digitHere 52 = .ok (.isub, 1) := by decide +kernel
theorem dX8_digitHere_53 : decode cX8_digitHere 53 = .ok (.ireturn, 1) := by decide +kernel
theorem dX8_takes_0 : decode cX8_takes 0 = .ok (.aload_n 0, 1) := by decide +kernel
theorem dX8_takes_1 : decode cX8_takes 1 = .ok (.invokevirtual 33, 3) := by decide +kernel
theorem dX8_takes_4 : decode cX8_takes 4 = .ok (.aload_n 0, 1) := by decide +kernel
theorem dX8_takes_5 : decode cX8_takes 5 = .ok (.getfield 19, 3) := by decide +kernel
theorem dX8_takes_8 : decode cX8_takes 8 = .ok (.aload_n 0, 1) := by decide +kernel
theorem dX8_takes_9 : decode cX8_takes 9 = .ok (.getfield 15, 3) := by decide +kernel
theorem dX8_takes_12 : decode cX8_takes 12 = .ok (.if_icmp .ge 16, 3) := by decide +kernel
theorem dX8_takes_15 : decode cX8_takes 15 = .ok (.aload_n 0, 1) := by decide +kernel
theorem dX8_takes_16 : decode cX8_takes 16 = .ok (.getfield 9, 3) := by decide +kernel
theorem dX8_takes_19 : decode cX8_takes 19 = .ok (.aload_n 0, 1) := by decide +kernel
theorem dX8_takes_20 : decode cX8_takes 20 = .ok (.getfield 19, 3) := by decide +kernel
theorem dX8_takes_23 : decode cX8_takes 23 = .ok (.caload, 1) := by decide +kernel
theorem dX8_takes_24 : decode cX8_takes 24 = .ok (.iload_n 1, 1) := by decide +kernel
theorem dX8_takes_25 : decode cX8_takes 25 = .ok (.if_icmp .eq 5, 3) := by decide +kernel
theorem dX8_takes_28 : decode cX8_takes 28 = .ok (.iconst 0, 1) := by decide +kernel
theorem dX8_takes_29 : decode cX8_takes 29 = .ok (.ireturn, 1) := by decide +kernel
theorem dX8_takes_30 : decode cX8_takes 30 = .ok (.aload_n 0, 1) := by decide +kernel
theorem dX8_takes_31 : decode cX8_takes 31 = .ok (.dup, 1) := by decide +kernel
theorem dX8_takes_32 : decode cX8_takes 32 = .ok (.getfield 19, 3) := by decide +kernel
theorem dX8_takes_35 : decode cX8_takes 35 = .ok (.iconst 1, 1) := by decide +kernel
theorem dX8_takes_36 : decode cX8_takes 36 = .ok (.iadd, 1) := by decide +kernel
theorem dX8_takes_37 : decode cX8_takes 37 = .ok (.putfield 19, 3) := by decide +kernel
theorem dX8_takes_40 : decode cX8_takes 40 = .ok (.iconst 1, 1) := by decide +kernel
theorem dX8_takes_41 : decode cX8_takes 41 = .ok (.ireturn, 1) := by decide +kernel
theorem dX8_skipBlanks_0 : decode cX8_skipBlanks 0 = .ok (.aload_n 0, 1) := by decide +kernel
theorem dX8_skipBlanks_1 : decode cX8_skipBlanks 1 = .ok (.getfield 19, 3) := by decide +kernel
theorem dX8_skipBlanks_4 : decode cX8_skipBlanks 4 = .ok (.aload_n 0, 1) := by decide +kernel
theorem dX8_skipBlanks_5 : decode cX8_skipBlanks 5 = .ok (.getfield 15, 3) := by decide +kernel
theorem dX8_skipBlanks_8 : decode cX8_skipBlanks 8 = .ok (.if_icmp .ge 30, 3) := by decide +kernel
theorem dX8_skipBlanks_11 : decode cX8_skipBlanks 11 = .ok (.aload_n 0, 1) := by decide +kernel
theorem dX8_skipBlanks_12 : decode cX8_skipBlanks 12 = .ok (.getfield 9, 3) := by decide +kernel
theorem dX8_skipBlanks_15 : decode cX8_skipBlanks 15 = .ok (.aload_n 0, 1) := by decide +kernel
theorem dX8_skipBlanks_16 : decode cX8_skipBlanks 16 = .ok (.getfield 19, 3) := by decide +kernel
theorem dX8_skipBlanks_19 : decode cX8_skipBlanks 19 = .ok (.caload, 1) := by decide +kernel
theorem dX8_skipBlanks_20 : decode cX8_skipBlanks 20 = .ok (.bipush 32, 2) := by decide +kernel
theorem dX8_skipBlanks_22 : decode cX8_skipBlanks 22 = .ok (.if_icmp .ne 16, 3) := by decide +kernel
theorem dX8_skipBlanks_25 : decode cX8_skipBlanks 25 = .ok (.aload_n 0, 1) := by decide +kernel
theorem dX8_skipBlanks_26 : decode cX8_skipBlanks 26 = .ok (.dup, 1) := by decide +kernel
theorem dX8_skipBlanks_27 : decode cX8_skipBlanks 27 = .ok (.getfield 19, 3) := by decide +kernel
theorem dX8_skipBlanks_30 : decode cX8_skipBlanks 30 = .ok (.iconst 1, 1) := by decide +kernel
theorem dX8_skipBlanks_31 : decode cX8_skipBlanks 31 = .ok (.iadd, 1) := by decide +kernel
theorem dX8_skipBlanks_32 : decode cX8_skipBlanks 32 = .ok (.putfield 19, 3) := by decide +kernel
theorem dX8_skipBlanks_35 : decode cX8_skipBlanks 35 = .ok (.goto (-35), 3) := by decide +kernel
theorem dX8_skipBlanks_38 : decode cX8_skipBlanks 38 = .ok (.return_, 1) := by decide +kernel
theorem dX9_init_0 : decode cX9_init 0 = .ok (.aload_n 0, 1) := by decide +kernel
theorem dX9_init_1 : decode cX9_init 1 = .ok (.invokespecial 3, 3) := by decide +kernel
theorem dX9_init_4 : decode cX9_init 4 = .ok (.aload_n 0, 1) := by decide +kernel
theorem dX9_init_5 : decode cX9_init 5 = .ok (.bipush 24, 2) := by decide +kernel
theorem dX9_init_7 : decode cX9_init 7 = .ok (.newarray .long, 2) := by decide +kernel
theorem dX9_init_9 : decode cX9_init 9 = .ok (.putfield 9, 3) := by decide +kernel
theorem dX9_init_12 : decode cX9_init 12 = .ok (.return_, 1) := by decide +kernel
theorem dX9_renew_0 : decode cX9_renew 0 = .ok (.aload_n 0, 1) := by decide +kernel
theorem dX9_renew_1 : decode cX9_renew 1 = .ok (.iconst 1, 1) := by decide +kernel
theorem dX9_renew_2 : decode cX9_renew 2 = .ok (.putfield 15, 3) := by decide +kernel
theorem dX9_renew_5 : decode cX9_renew 5 = .ok (.aload_n 0, 1) := by decide +kernel
theorem dX9_renew_6 : decode cX9_renew 6 = .ok (.iload_n 1, 1) := by decide +kernel
theorem dX9_renew_7 : decode cX9_renew 7 = .ok (.putfield 19, 3) := by decide +kernel
theorem dX9_renew_10 : decode cX9_renew 10 = .ok (.aload_n 0, 1) := by decide +kernel
theorem dX9_renew_11 : decode cX9_renew 11 = .ok (.iload_n 2, 1) := by decide +kernel
theorem dX9_renew_12 : decode cX9_renew 12 = .ok (.putfield 23, 3) := by decide +kernel
theorem dX9_renew_15 : decode cX9_renew 15 = .ok (.iconst 0, 1) := by decide +kernel
theorem dX9_renew_16 : decode cX9_renew 16 = .ok (.istore_n 3, 1) := by decide +kernel
theorem dX9_renew_17 : decode cX9_renew 17 = .ok (.iload_n 3, 1) := by decide +kernel
theorem dX9_renew_18 : decode cX9_renew 18 = .ok (.bipush 24, 2) := by decide +kernel
theorem dX9_renew_20 : decode cX9_renew 20 = .ok (.if_icmp .ge 16, 3) := by decide +kernel
theorem dX9_renew_23 : decode cX9_renew 23 = .ok (.aload_n 0, 1) := by decide +kernel
theorem dX9_renew_24 : decode cX9_renew 24 = .ok (.getfield 9, 3) := by decide +kernel
theorem dX9_renew_27 : decode cX9_renew 27 = .ok (.iload_n 3, 1) := by decide +kernel
theorem dX9_renew_28 : decode cX9_renew 28 = .ok (.lconst 0, 1) := by decide +kernel
theorem dX9_renew_29 : decode cX9_renew 29 = .ok (.lastore, 1) := by decide +kernel
theorem dX9_renew_30 : decode cX9_renew 30 = .ok (.iinc 3 1, 3) := by decide +kernel
theorem dX9_renew_33 : decode cX9_renew 33 = .ok (.goto (-16), 3) := by decide +kernel
theorem dX9_renew_36 : decode cX9_renew 36 = .ok (.return_, 1) := by decide +kernel
theorem dX9_refusal_0 : decode cX9_refusal 0 = .ok (.aload_n 0, 1) := by decide +kernel
theorem dX9_refusal_1 : decode cX9_refusal 1 = .ok (.getfield 15, 3) := by decide +kernel
theorem dX9_refusal_4 : decode cX9_refusal 4 = .ok (.ifCond .ne 6, 3) := by decide +kernel
theorem dX9_refusal_7 : decode cX9_refusal 7 = .ok (.bipush (-11), 2) := by decide +kernel
theorem dX9_refusal_9 : decode cX9_refusal 9 = .ok (.ireturn, 1) := by decide +kernel
theorem dX9_refusal_10 : decode cX9_refusal 10 = .ok (.aload_n 0, 1) := by decide +kernel
theorem dX9_refusal_11 : decode cX9_refusal 11 = .ok (.getfield 19, 3) := by decide +kernel
theorem dX9_refusal_14 : decode cX9_refusal 14 = .ok (.iload_n 1, 1) := by decide +kernel
theorem dX9_refusal_15 : decode cX9_refusal 15 = .ok (.if_icmp .eq 6, 3) := by decide +kernel
theorem dX9_refusal_18 : decode cX9_refusal 18 = .ok (.bipush (-12), 2) := by decide +kernel
theorem dX9_refusal_20 : decode cX9_refusal 20 = .ok (.ireturn, 1) := by decide +kernel
theorem dX9_refusal_21 : decode cX9_refusal 21 = .ok (.aload_n 0, 1) := by decide +kernel
theorem dX9_refusal_22 : decode cX9_refusal 22 = .ok (.iload_n 2, 1) := by decide +kernel
theorem dX9_refusal_23 : decode cX9_refusal 23 = .ok (.iload_n 3, 1) := by decide +kernel
theorem dX9_refusal_24 : decode cX9_refusal 24 = .ok (.invokevirtual 26, 3) := by decide +kernel
theorem dX9_refusal_27 : decode cX9_refusal 27 = .ok (.ifCond .eq 7, 3) := by decide +kernel
theorem dX9_refusal_30 : decode cX9_refusal 30 = .ok (.iconst 0, 1) := by decide +kernel
theorem dX9_refusal_31 : decode cX9_refusal 31 = .ok (.goto 5, 3) := by decide +kernel
theorem dX9_refusal_34 : decode cX9_refusal 34 = .ok (.bipush (-13), 2) := by decide +kernel
theorem dX9_refusal_36 : decode cX9_refusal 36 = .ok (.ireturn, 1) := by decide +kernel
theorem dX9_spans_0 : decode cX9_spans 0 = .ok (.iload_n 1, 1) := by decide +kernel
theorem dX9_spans_1 : decode cX9_spans 1 = .ok (.ifCond .lt 29, 3) := by decide +kernel
theorem dX9_spans_4 : decode cX9_spans 4 = .ok (.iload_n 2, 1) := by decide +kernel
theorem dX9_spans_5 : decode cX9_spans 5 = .ok (.ifCond .lt 25, 3) := by decide +kernel
theorem dX9_spans_8 : decode cX9_spans 8 = .ok (.iload_n 1, 1) := by decide +kernel
theorem dX9_spans_9 : decode cX9_spans 9 = .ok (.aload_n 0, 1) := by decide +kernel
theorem dX9_spans_10 : decode cX9_spans 10 = .ok (.getfield 23, 3) := by decide +kernel
theorem dX9_spans_13 : decode cX9_spans 13 = .ok (.if_icmp .gt 17, 3) := by decide +kernel
theorem dX9_spans_16 : decode cX9_spans 16 = .ok (.iload_n 2, 1) := by decide +kernel
theorem dX9_spans_17 : decode cX9_spans 17 = .ok (.aload_n 0, 1) := by decide +kernel
theorem dX9_spans_18 : decode cX9_spans 18 = .ok (.getfield 23, 3) := by decide +kernel
theorem dX9_spans_21 : decode cX9_spans 21 = .ok (.iload_n 1, 1) := by decide +kernel
theorem dX9_spans_22 : decode cX9_spans 22 = .ok (.isub, 1) := by decide +kernel
theorem dX9_spans_23 : decode cX9_spans 23 = .ok (.if_icmp .gt 7, 3) := by decide +kernel
theorem dX9_spans_26 : decode cX9_spans 26 = .ok (.iconst 1, 1) := by decide +kernel
theorem dX9_spans_27 : decode cX9_spans 27 = .ok (.goto 4, 3) := by decide +kernel
theorem dX9_spans_30 : decode cX9_spans 30 = .ok (.iconst 0, 1) := by decide +kernel
theorem dX9_spans_31 : decode cX9_spans 31 = .ok (.ireturn, 1) := by decide +kernel
theorem dX9_put_0 : decode cX9_put 0 = .ok (.aload_n 0, 1) := by decide +kernel
theorem dX9_put_1 : decode cX9_put 1 = .ok (.getfield 19, 3) := by decide +kernel
theorem dX9_put_4 : decode cX9_put 4 = .ok (.tableswitch 66 0 2 #[28, 41, 54], 28) := by decide +kernel
theorem dX9_put_32 : decode cX9_put 32 = .ok (.aload_n 0, 1) := by decide +kernel
theorem dX9_put_33 : decode cX9_put 33 = .ok (.getfield 9, 3) := by decide +kernel
theorem dX9_put_36 : decode cX9_put 36 = .ok (.iload_n 1, 1) := by decide +kernel
theorem dX9_put_37 : decode cX9_put 37 = .ok (.lload_n 2, 1) := by decide +kernel
theorem dX9_put_38 : decode cX9_put 38 = .ok (.l2i, 1) := by decide +kernel
theorem dX9_put_39 : decode cX9_put 39 = .ok (.i2b, 1) := by decide +kernel
theorem dX9_put_40 : decode cX9_put 40 = .ok (.i2l, 1) := by decide +kernel
theorem dX9_put_41 : decode cX9_put 41 = .ok (.lastore, 1) := by decide +kernel
theorem dX9_put_42 : decode cX9_put 42 = .ok (.goto 35, 3) := by decide +kernel
theorem dX9_put_45 : decode cX9_put 45 = .ok (.aload_n 0, 1) := by decide +kernel
theorem dX9_put_46 : decode cX9_put 46 = .ok (.getfield 9, 3) := by decide +kernel
theorem dX9_put_49 : decode cX9_put 49 = .ok (.iload_n 1, 1) := by decide +kernel
theorem dX9_put_50 : decode cX9_put 50 = .ok (.lload_n 2, 1) := by decide +kernel
theorem dX9_put_51 : decode cX9_put 51 = .ok (.l2i, 1) := by decide +kernel
theorem dX9_put_52 : decode cX9_put 52 = .ok (.i2s, 1) := by decide +kernel
theorem dX9_put_53 : decode cX9_put 53 = .ok (.i2l, 1) := by decide +kernel
theorem dX9_put_54 : decode cX9_put 54 = .ok (.lastore, 1) := by decide +kernel
theorem dX9_put_55 : decode cX9_put 55 = .ok (.goto 22, 3) := by decide +kernel
theorem dX9_put_58 : decode cX9_put 58 = .ok (.aload_n 0, 1) := by decide +kernel
theorem dX9_put_59 : decode cX9_put 59 = .ok (.getfield 9, 3) := by decide +kernel
theorem dX9_put_62 : decode cX9_put 62 = .ok (.iload_n 1, 1) := by decide +kernel
theorem dX9_put_63 : decode cX9_put 63 = .ok (.lload_n 2, 1) := by decide +kernel
theorem dX9_put_64 : decode cX9_put 64 = .ok (.l2i, 1) := by decide +kernel
theorem dX9_put_65 : decode cX9_put 65 = .ok (.i2l, 1) := by decide +kernel
theorem dX9_put_66 : decode cX9_put 66 = .ok (.lastore, 1) := by decide +kernel
theorem dX9_put_67 : decode cX9_put 67 = .ok (.goto 10, 3) := by decide +kernel
theorem dX9_put_70 : decode cX9_put 70 = .ok (.aload_n 0, 1) := by decide +kernel
theorem dX9_put_71 : decode cX9_put 71 = .ok (.getfield 9, 3) := by decide +kernel
theorem dX9_put_74 : decode cX9_put 74 = .ok (.iload_n 1, 1) := by decide +kernel
theorem dX9_put_75 : decode cX9_put 75 = .ok (.lload_n 2, 1) := by decide +kernel
theorem dX9_put_76 : decode cX9_put 76 = .ok (.lastore, 1) := by decide +kernel
theorem dX9_put_77 : decode cX9_put 77 = .ok (.return_, 1) := by decide +kernel
theorem dX10_init_0 : decode cX10_init 0 = .ok (.aload_n 0, 1) := by decide +kernel
theorem dX10_init_1 : decode cX10_init 1 = .ok (.invokespecial 1, 3) := by decide +kernel
theorem dX10_init_4 : decode cX10_init 4 = .ok (.return_, 1) := by decide +kernel
theorem dX10_loudness_0 : decode cX10_loudness 0 = .ok (.iload_n 2, 1) := by decide +kernel
theorem dX10_loudness_1 : decode cX10_loudness 1 = .ok (.iconst 2, 1) := by decide +kernel
theorem dX10_loudness_2 : decode cX10_loudness 2 = .ok (.irem, 1) := by decide +kernel
theorem dX10_loudness_3 : decode cX10_loudness 3 = .ok (.ifCond .ne 7, 3) := by decide +kernel
theorem dX10_loudness_6 : decode cX10_loudness 6 = .ok (.iconst 0, 1) := by decide +kernel
theorem dX10_loudness_7 : decode cX10_loudness 7 = .ok (.goto 9, 3) := by decide +kernel
theorem dX10_loudness_10 : decode cX10_loudness 10 = .ok (.aload_n 0, 1) := by decide +kernel
theorem dX10_loudness_11 : decode cX10_loudness 11 = .ok (.iload_n 1, 1) := by decide +kernel
theorem dX10_loudness_12 : decode cX10_loudness 12 = .ok (.iload_n 2, 1) := by decide +kernel
theorem dX10_loudness_13 : decode cX10_loudness 13 = .ok (.invokespecial 7, 3) := by decide +kernel
theorem dX10_loudness_16 : decode cX10_loudness 16 = .ok (.ireturn, 1) := by decide +kernel
theorem dX10_leftBehind_0 : decode cX10_leftBehind 0 = .ok (.iload_n 3, 1) := by decide +kernel
theorem dX10_leftBehind_1 : decode cX10_leftBehind 1 = .ok (.iconst 2, 1) := by decide +kernel
theorem dX10_leftBehind_2 : decode cX10_leftBehind 2 = .ok (.irem, 1) := by decide +kernel
theorem dX10_leftBehind_3 : decode cX10_leftBehind 3 = .ok (.ifCond .ne 7, 3) := by decide +kernel
theorem dX10_leftBehind_6 : decode cX10_leftBehind 6 = .ok (.iload_n 1, 1) := by decide +kernel
theorem dX10_leftBehind_7 : decode cX10_leftBehind 7 = .ok (.goto 10, 3) := by decide +kernel
theorem dX10_leftBehind_10 : decode cX10_leftBehind 10 = .ok (.aload_n 0, 1) := by decide +kernel
theorem dX10_leftBehind_11 : decode cX10_leftBehind 11 = .ok (.iload_n 1, 1) := by decide +kernel
theorem dX10_leftBehind_12 : decode cX10_leftBehind 12 = .ok (.iload_n 2, 1) := by decide +kernel
theorem dX10_leftBehind_13 : decode cX10_leftBehind 13 = .ok (.iload_n 3, 1) := by decide +kernel
theorem dX10_leftBehind_14 : decode cX10_leftBehind 14 = .ok (.invokespecial 11, 3) := by decide +kernel
theorem dX10_leftBehind_17 : decode cX10_leftBehind 17 = .ok (.ireturn, 1) := by decide +kernel
theorem dJ9_max_7cf53_0 : decode cJ9_max_7cf53 0 = .ok (.iload_n 0, 1) := by decide +kernel
theorem dJ9_max_7cf53_1 : decode cJ9_max_7cf53 1 = .ok (.iload_n 1, 1) := by decide +kernel
theorem dJ9_max_7cf53_2 : decode cJ9_max_7cf53 2 = .ok (.if_icmp .lt 7, 3) := by decide +kernel
theorem dJ9_max_7cf53_5 : decode cJ9_max_7cf53 5 = .ok (.iload_n 0, 1) := by decide +kernel
theorem dJ9_max_7cf53_6 : decode cJ9_max_7cf53 6 = .ok (.goto 4, 3) := by decide +kernel
theorem dJ9_max_7cf53_9 : decode cJ9_max_7cf53 9 = .ok (.iload_n 1, 1) := by decide +kernel
theorem dJ9_max_7cf53_10 : decode cJ9_max_7cf53 10 = .ok (.ireturn, 1) := by decide +kernel
theorem dJ9_min_7cf53_0 : decode cJ9_min_7cf53 0 = .ok (.iload_n 0, 1) := by decide +kernel
theorem dJ9_min_7cf53_1 : decode cJ9_min_7cf53 1 = .ok (.iload_n 1, 1) := by decide +kernel
theorem dJ9_min_7cf53_2 : decode cJ9_min_7cf53 2 = .ok (.if_icmp .gt 7, 3) := by decide +kernel
theorem dJ9_min_7cf53_5 : decode cJ9_min_7cf53 5 = .ok (.iload_n 0, 1) := by decide +kernel
theorem dJ9_min_7cf53_6 : decode cJ9_min_7cf53 6 = .ok (.goto 4, 3) := by decide +kernel
theorem dJ9_min_7cf53_9 : decode cJ9_min_7cf53 9 = .ok (.iload_n 1, 1) := by decide +kernel
theorem dJ9_min_7cf53_10 : decode cJ9_min_7cf53 10 = .ok (.ireturn, 1) := by decide +kernel
theorem dJ6_bitCount_0f7a4_0 : decode cJ6_bitCount_0f7a4 0 = .ok (.iload_n 0, 1) := by decide +kernel
theorem dJ6_bitCount_0f7a4_1 : decode cJ6_bitCount_0f7a4 1 = .ok (.iload_n 0, 1) := by decide +kernel
theorem dJ6_bitCount_0f7a4_2 : decode cJ6_bitCount_0f7a4 2 = .ok (.iconst 1, 1) := by decide +kernel
theorem dJ6_bitCount_0f7a4_3 : decode cJ6_bitCount_0f7a4 3 = .ok (.iushr, 1) := by decide +kernel
theorem dJ6_bitCount_0f7a4_4 : decode cJ6_bitCount_0f7a4 4 = .ok (.ldc_w 265, 3) := by decide +kernel
theorem dJ6_bitCount_0f7a4_7 : decode cJ6_bitCount_0f7a4 7 = .ok (.iand, 1) := by decide +kernel
theorem dJ6_bitCount_0f7a4_8 : decode cJ6_bitCount_0f7a4 8 = .ok (.isub, 1) := by decide +kernel
theorem dJ6_bitCount_0f7a4_9 : decode cJ6_bitCount_0f7a4 9 = .ok (.istore_n 0, 1) := by decide +kernel
theorem dJ6_bitCount_0f7a4_10 : decode cJ6_bitCount_0f7a4 10 = .ok (.iload_n 0, 1) := by decide +kernel
theorem dJ6_bitCount_0f7a4_11 : decode cJ6_bitCount_0f7a4 11 = .ok (.ldc_w 266, 3) := by decide +kernel
theorem dJ6_bitCount_0f7a4_14 : decode cJ6_bitCount_0f7a4 14 = .ok (.iand, 1) := by decide +kernel
theorem dJ6_bitCount_0f7a4_15 : decode cJ6_bitCount_0f7a4 15 = .ok (.iload_n 0, 1) := by decide +kernel
theorem dJ6_bitCount_0f7a4_16 : decode cJ6_bitCount_0f7a4 16 = .ok (.iconst 2, 1) := by decide +kernel
theorem dJ6_bitCount_0f7a4_17 : decode cJ6_bitCount_0f7a4 17 = .ok (.iushr, 1) := by decide +kernel
theorem dJ6_bitCount_0f7a4_18 : decode cJ6_bitCount_0f7a4 18 = .ok (.ldc_w 266, 3) := by decide +kernel
theorem dJ6_bitCount_0f7a4_21 : decode cJ6_bitCount_0f7a4 21 = .ok (.iand, 1) := by decide +kernel
theorem dJ6_bitCount_0f7a4_22 : decode cJ6_bitCount_0f7a4 22 = .ok (.iadd, 1) := by decide +kernel
theorem dJ6_bitCount_0f7a4_23 : decode cJ6_bitCount_0f7a4 23 = .ok (.istore_n 0, 1) := by decide +kernel
theorem dJ6_bitCount_0f7a4_24 : decode cJ6_bitCount_0f7a4 24 = .ok (.iload_n 0, 1) := by decide +kernel
theorem dJ6_bitCount_0f7a4_25 : decode cJ6_bitCount_0f7a4 25 = .ok (.iload_n 0, 1) := by decide +kernel
theorem dJ6_bitCount_0f7a4_26 : decode cJ6_bitCount_0f7a4 26 = .ok (.iconst 4, 1) := by decide +kernel
theorem dJ6_bitCount_0f7a4_27 : decode cJ6_bitCount_0f7a4 27 = .ok (.iushr, 1) := by decide +kernel
theorem dJ6_bitCount_0f7a4_28 : decode cJ6_bitCount_0f7a4 28 = .ok (.iadd, 1) := by decide +kernel
theorem dJ6_bitCount_0f7a4_29 : decode cJ6_bitCount_0f7a4 29 = .ok (.ldc_w 267, 3) := by decide +kernel
theorem dJ6_bitCount_0f7a4_32 : decode cJ6_bitCount_0f7a4 32 = .ok (.iand, 1) := by decide +kernel
theorem dJ6_bitCount_0f7a4_33 : decode cJ6_bitCount_0f7a4 33 = .ok (.istore_n 0, 1) := by decide +kernel
theorem dJ6_bitCount_0f7a4_34 : decode cJ6_bitCount_0f7a4 34 = .ok (.iload_n 0, 1) := by decide +kernel
theorem dJ6_bitCount_0f7a4_35 : decode cJ6_bitCount_0f7a4 35 = .ok (.iload_n 0, 1) := by decide +kernel
theorem dJ6_bitCount_0f7a4_36 : decode cJ6_bitCount_0f7a4 36 = .ok (.bipush 8, 2) := by decide +kernel
theorem dJ6_bitCount_0f7a4_38 : decode cJ6_bitCount_0f7a4 38 = .ok (.iushr, 1) := by decide +kernel
theorem dJ6_bitCount_0f7a4_39 : decode cJ6_bitCount_0f7a4 39 = .ok (.iadd, 1) := by decide +kernel
theorem dJ6_bitCount_0f7a4_40 : decode cJ6_bitCount_0f7a4 40 = .ok (.istore_n 0, 1) := by decide +kernel
theorem dJ6_bitCount_0f7a4_41 : decode cJ6_bitCount_0f7a4 41 = .ok (.iload_n 0, 1) := by decide +kernel
theorem dJ6_bitCount_0f7a4_42 : decode cJ6_bitCount_0f7a4 42 = .ok (.iload_n 0, 1) := by decide +kernel
theorem dJ6_bitCount_0f7a4_43 : decode cJ6_bitCount_0f7a4 43 = .ok (.bipush 16, 2) := by decide +kernel
theorem dJ6_bitCount_0f7a4_45 : decode cJ6_bitCount_0f7a4 45 = .ok (.iushr, 1) := by decide +kernel
theorem dJ6_bitCount_0f7a4_46 : decode cJ6_bitCount_0f7a4 46 = .ok (.iadd, 1) := by decide +kernel
theorem dJ6_bitCount_0f7a4_47 : decode cJ6_bitCount_0f7a4 47 = .ok (.istore_n 0, 1) := by decide +kernel
theorem dJ6_bitCount_0f7a4_48 : decode cJ6_bitCount_0f7a4 48 = .ok (.iload_n 0, 1) := by decide +kernel
theorem dJ6_bitCount_0f7a4_49 : decode cJ6_bitCount_0f7a4 49 = .ok (.bipush 63, 2) := by decide +kernel
theorem dJ6_bitCount_0f7a4_51 : decode cJ6_bitCount_0f7a4 51 = .ok (.iand, 1) := by decide +kernel
theorem dJ6_bitCount_0f7a4_52 : decode cJ6_bitCount_0f7a4 52 = .ok (.ireturn, 1) := by decide +kernel
theorem dJ0_indexOf_0f7a4_0 : decode cJ0_indexOf_0f7a4 0 = .ok (.aload_n 0, 1) := by decide +kernel
theorem dJ0_indexOf_0f7a4_1 : decode cJ0_indexOf_0f7a4 1 = .ok (.iload_n 1, 1) := by decide +kernel
theorem dJ0_indexOf_0f7a4_2 : decode cJ0_indexOf_0f7a4 2 = .ok (.iconst 0, 1) := by decide +kernel
theorem dJ0_indexOf_0f7a4_3 : decode cJ0_indexOf_0f7a4 3 = .ok (.invokevirtual 633, 3) := by decide +kernel
theorem dJ0_indexOf_0f7a4_6 : decode cJ0_indexOf_0f7a4 6 = .ok (.ireturn, 1) := by decide +kernel
theorem dJ0_indexOf_7cf53_0 : decode cJ0_indexOf_7cf53 0 = .ok (.aload_n 0, 1) := by decide +kernel
theorem dJ0_indexOf_7cf53_1 : decode cJ0_indexOf_7cf53 1 = .ok (.invokevirtual 492, 3) := by decide +kernel
theorem dJ0_indexOf_7cf53_4 : decode cJ0_indexOf_7cf53 4 = .ok (.ifCond .eq 19, 3) := by decide +kernel
theorem dJ0_indexOf_7cf53_7 : decode cJ0_indexOf_7cf53 7 = .ok (.aload_n 0, 1) := by decide +kernel
theorem dJ0_indexOf_7cf53_8 : decode cJ0_indexOf_7cf53 8 = .ok (.getfield 9, 3) := by decide +kernel
theorem dJ0_indexOf_7cf53_11 : decode cJ0_indexOf_7cf53 11 = .ok (.iload_n 1, 1) := by decide +kernel
theorem dJ0_indexOf_7cf53_12 : decode cJ0_indexOf_7cf53 12 = .ok (.iload_n 2, 1) := by decide +kernel
theorem dJ0_indexOf_7cf53_13 : decode cJ0_indexOf_7cf53 13 = .ok (.aload_n 0, 1) := by decide +kernel
theorem dJ0_indexOf_7cf53_14 : decode cJ0_indexOf_7cf53 14 = .ok (.invokevirtual 505, 3) := by decide +kernel
theorem dJ0_indexOf_7cf53_17 : decode cJ0_indexOf_7cf53 17 = .ok (.invokestatic 637, 3) := by decide +kernel
theorem dJ0_indexOf_7cf53_20 : decode cJ0_indexOf_7cf53 20 = .ok (.goto 16, 3) := by decide +kernel
theorem dJ0_indexOf_7cf53_23 : decode cJ0_indexOf_7cf53 23 = .ok (.aload_n 0, 1) := by decide +kernel
theorem dJ0_indexOf_7cf53_24 : decode cJ0_indexOf_7cf53 24 = .ok (.getfield 9, 3) := by decide +kernel
theorem dJ0_indexOf_7cf53_27 : decode cJ0_indexOf_7cf53 27 = .ok (.iload_n 1, 1) := by decide +kernel
theorem dJ0_indexOf_7cf53_28 : decode cJ0_indexOf_7cf53 28 = .ok (.iload_n 2, 1) := by decide +kernel
theorem dJ0_indexOf_7cf53_29 : decode cJ0_indexOf_7cf53 29 = .ok (.aload_n 0, 1) := by decide +kernel
theorem dJ0_indexOf_7cf53_30 : decode cJ0_indexOf_7cf53 30 = .ok (.invokevirtual 505, 3) := by decide +kernel
theorem dJ0_indexOf_7cf53_33 : decode cJ0_indexOf_7cf53 33 = .ok (.invokestatic 640, 3) := by decide +kernel
theorem dJ0_indexOf_7cf53_36 : decode cJ0_indexOf_7cf53 36 = .ok (.ireturn, 1) := by decide +kernel
theorem dJ0_isLatin1_aae02_0 : decode cJ0_isLatin1_aae02 0 = .ok (.getstatic 38, 3) := by decide +kernel
theorem dJ0_isLatin1_aae02_3 : decode cJ0_isLatin1_aae02 3 = .ok (.ifCond .eq 14, 3) := by decide +kernel
theorem dJ0_isLatin1_aae02_6 : decode cJ0_isLatin1_aae02 6 = .ok (.aload_n 0, 1) := by decide +kernel
theorem dJ0_isLatin1_aae02_7 : decode cJ0_isLatin1_aae02 7 = .ok (.getfield 15, 3) := by decide +kernel
theorem dJ0_isLatin1_aae02_10 : decode cJ0_isLatin1_aae02 10 = .ok (.ifCond .ne 7, 3) := by decide +kernel
theorem dJ0_isLatin1_aae02_13 : decode cJ0_isLatin1_aae02 13 = .ok (.iconst 1, 1) := by decide +kernel
theorem dJ0_isLatin1_aae02_14 : decode cJ0_isLatin1_aae02 14 = .ok (.goto 4, 3) := by decide +kernel
theorem dJ0_isLatin1_aae02_17 : decode cJ0_isLatin1_aae02 17 = .ok (.iconst 0, 1) := by decide +kernel
theorem dJ0_isLatin1_aae02_18 : decode cJ0_isLatin1_aae02 18 = .ok (.ireturn, 1) := by decide +kernel
theorem dJ1_canEncode_9a6ad_0 : decode cJ1_canEncode_9a6ad 0 = .ok (.iload_n 0, 1) := by decide +kernel
theorem dJ1_canEncode_9a6ad_1 : decode cJ1_canEncode_9a6ad 1 = .ok (.ifCond .lt 14, 3) := by decide +kernel
theorem dJ1_canEncode_9a6ad_4 : decode cJ1_canEncode_9a6ad 4 = .ok (.iload_n 0, 1) := by decide +kernel
theorem dJ1_canEncode_9a6ad_5 : decode cJ1_canEncode_9a6ad 5 = .ok (.sipush 255, 3) := by decide +kernel
theorem dJ1_canEncode_9a6ad_8 : decode cJ1_canEncode_9a6ad 8 = .ok (.if_icmp .gt 7, 3) := by decide +kernel
theorem dJ1_canEncode_9a6ad_11 : decode cJ1_canEncode_9a6ad 11 = .ok (.iconst 1, 1) := by decide +kernel
theorem dJ1_canEncode_9a6ad_12 : decode cJ1_canEncode_9a6ad 12 = .ok (.goto 4, 3) := by decide +kernel
theorem dJ1_canEncode_9a6ad_15 : decode cJ1_canEncode_9a6ad 15 = .ok (.iconst 0, 1) := by decide +kernel
theorem dJ1_canEncode_9a6ad_16 : decode cJ1_canEncode_9a6ad 16 = .ok (.ireturn, 1) := by decide +kernel
theorem dJ1_indexOf_4cfef_0 : decode cJ1_indexOf_4cfef 0 = .ok (.iload_n 1, 1) := by decide +kernel
theorem dJ1_indexOf_4cfef_1 : decode cJ1_indexOf_4cfef 1 = .ok (.invokestatic 88, 3) := by decide +kernel
theorem dJ1_indexOf_4cfef_4 : decode cJ1_indexOf_4cfef 4 = .ok (.ifCond .ne 5, 3) := by decide +kernel
theorem dJ1_indexOf_4cfef_7 : decode cJ1_indexOf_4cfef 7 = .ok (.iconst (-1), 1) := by decide +kernel
theorem dJ1_indexOf_4cfef_8 : decode cJ1_indexOf_4cfef 8 = .ok (.ireturn, 1) := by decide +kernel
theorem dJ1_indexOf_4cfef_9 : decode cJ1_indexOf_4cfef 9 = .ok (.iload_n 2, 1) := by decide +kernel
theorem dJ1_indexOf_4cfef_10 : decode cJ1_indexOf_4cfef 10 = .ok (.iconst 0, 1) := by decide +kernel
theorem dJ1_indexOf_4cfef_11 : decode cJ1_indexOf_4cfef 11 = .ok (.invokestatic 92, 3) := by decide +kernel
theorem dJ1_indexOf_4cfef_14 : decode cJ1_indexOf_4cfef 14 = .ok (.istore_n 2, 1) := by decide +kernel
theorem dJ1_indexOf_4cfef_15 : decode cJ1_indexOf_4cfef 15 = .ok (.iload_n 3, 1) := by decide +kernel
theorem dJ1_indexOf_4cfef_16 : decode cJ1_indexOf_4cfef 16 = .ok (.aload_n 0, 1) := by decide +kernel
theorem dJ1_indexOf_4cfef_17 : decode cJ1_indexOf_4cfef 17 = .ok (.arraylength, 1) := by decide +kernel
theorem dJ1_indexOf_4cfef_18 : decode cJ1_indexOf_4cfef 18 = .ok (.invokestatic 38, 3) := by decide +kernel
theorem dJ1_indexOf_4cfef_21 : decode cJ1_indexOf_4cfef 21 = .ok (.istore_n 3, 1) := by decide +kernel
theorem dJ1_indexOf_4cfef_22 : decode cJ1_indexOf_4cfef 22 = .ok (.iload_n 2, 1) := by decide +kernel
theorem dJ1_indexOf_4cfef_23 : decode cJ1_indexOf_4cfef 23 = .ok (.iload_n 3, 1) := by decide +kernel
theorem dJ1_indexOf_4cfef_24 : decode cJ1_indexOf_4cfef 24 = .ok (.if_icmp .lt 5, 3) := by decide +kernel
theorem dJ1_indexOf_4cfef_27 : decode cJ1_indexOf_4cfef 27 = .ok (.iconst (-1), 1) := by decide +kernel
theorem dJ1_indexOf_4cfef_28 : decode cJ1_indexOf_4cfef 28 = .ok (.ireturn, 1) := by decide +kernel
theorem dJ1_indexOf_4cfef_29 : decode cJ1_indexOf_4cfef 29 = .ok (.aload_n 0, 1) := by decide +kernel
theorem dJ1_indexOf_4cfef_30 : decode cJ1_indexOf_4cfef 30 = .ok (.iload_n 1, 1) := by decide +kernel
theorem dJ1_indexOf_4cfef_31 : decode cJ1_indexOf_4cfef 31 = .ok (.iload_n 2, 1) := by decide +kernel
theorem dJ1_indexOf_4cfef_32 : decode cJ1_indexOf_4cfef 32 = .ok (.iload_n 3, 1) := by decide +kernel
theorem dJ1_indexOf_4cfef_33 : decode cJ1_indexOf_4cfef 33 = .ok (.invokestatic 95, 3) := by decide +kernel
theorem dJ1_indexOf_4cfef_36 : decode cJ1_indexOf_4cfef 36 = .ok (.ireturn, 1) := by decide +kernel
theorem dJ1_indexOfChar_4cfef_0 : decode cJ1_indexOfChar_4cfef 0 = .ok (.iload_n 1, 1) := by decide +kernel
theorem dJ1_indexOfChar_4cfef_1 : decode cJ1_indexOfChar_4cfef 1 = .ok (.i2b, 1) := by decide +kernel
theorem dJ1_indexOfChar_4cfef_2 : decode cJ1_indexOfChar_4cfef 2 = .ok (.istore 4, 2) := by decide +kernel
theorem dJ1_indexOfChar_4cfef_4 : decode cJ1_indexOfChar_4cfef 4 = .ok (.iload_n 2, 1) := by decide +kernel
theorem dJ1_indexOfChar_4cfef_5 : decode cJ1_indexOfChar_4cfef 5 = .ok (.istore 5, 2) := by decide +kernel
theorem dJ1_indexOfChar_4cfef_7 : decode cJ1_indexOfChar_4cfef 7 = .ok (.iload 5, 2) := by decide +kernel
theorem dJ1_indexOfChar_4cfef_9 : decode cJ1_indexOfChar_4cfef 9 = .ok (.iload_n 3, 1) := by decide +kernel
theorem dJ1_indexOfChar_4cfef_10 : decode cJ1_indexOfChar_4cfef 10 = .ok (.if_icmp .ge 21, 3) := by decide +kernel
theorem dJ1_indexOfChar_4cfef_13 : decode cJ1_indexOfChar_4cfef 13 = .ok (.aload_n 0, 1) := by decide +kernel
theorem dJ1_indexOfChar_4cfef_14 : decode cJ1_indexOfChar_4cfef 14 = .ok (.iload 5, 2) := by decide +kernel
theorem dJ1_indexOfChar_4cfef_16 : decode cJ1_indexOfChar_4cfef 16 = .ok (.baload, 1) := by decide +kernel
theorem dJ1_indexOfChar_4cfef_17 : decode cJ1_indexOfChar_4cfef 17 = .ok (.iload 4, 2) := by decide +kernel
theorem dJ1_indexOfChar_4cfef_19 : decode cJ1_indexOfChar_4cfef 19 = .ok (.if_icmp .ne 6, 3) := by decide +kernel
theorem dJ1_indexOfChar_4cfef_22 : decode cJ1_indexOfChar_4cfef 22 = .ok (.iload 5, 2) := by decide +kernel
theorem dJ1_indexOfChar_4cfef_24 : decode cJ1_indexOfChar_4cfef 24 = .ok (.ireturn, 1) := by decide +kernel
theorem dJ1_indexOfChar_4cfef_25 : decode cJ1_indexOfChar_4cfef 25 = .ok (.iinc 5 1, 3) := by decide +kernel
theorem dJ1_indexOfChar_4cfef_28 : decode cJ1_indexOfChar_4cfef 28 = .ok (.goto (-21), 3) := by decide +kernel
theorem dJ1_indexOfChar_4cfef_31 : decode cJ1_indexOfChar_4cfef 31 = .ok (.iconst (-1), 1) := by decide +kernel
theorem dJ1_indexOfChar_4cfef_32 : decode cJ1_indexOfChar_4cfef 32 = .ok (.ireturn, 1) := by decide +kernel
