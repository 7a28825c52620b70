theorem dX12_init_0 : decode cX12_init 0 = .ok (.aload_n 0, 1) := by decide +kernel
theorem dX12_init_1 : decode cX12_init 1 = .ok (.invokespecial 1, 3) := by decide +kernel
theorem dX12_init_4 : decode cX12_init 4 = .ok (.aload_n 0, 1) := by decide +kernel
theorem dX12_init_5 : decode cX12_init 5 = .ok (.iconst 4, 1) := by decide +kernel
theorem dX12_init_6 : decode cX12_init 6 = .ok (.newarray .int, 2) := by decide +kernel
theorem dX12_init_8 : decode cX12_init 8 = .ok (.putfield 7, 3) := by decide +kernel
theorem dX12_init_11 : decode cX12_init 11 = .ok (.aload_n 0, 1) := by decide +kernel
theorem dX12_init_12 : decode cX12_init 12 = .ok (.iconst 4, 1) := by decide +kernel
theorem dX12_init_13 : decode cX12_init 13 = .ok (.newarray .int, 2) := by decide +kernel
theorem dX12_init_15 : decode cX12_init 15 = .ok (.putfield 13, 3) := by decide +kernel
theorem dX12_init_18 : decode cX12_init 18 = .ok (.aload_n 0, 1) := by decide +kernel
theorem dX12_init_19 : decode cX12_init 19 = .ok (.bipush 96, 2) := by decide +kernel
theorem dX12_init_21 : decode cX12_init 21 = .ok (.newarray .long, 2) := by decide +kernel
theorem dX12_init_23 : decode cX12_init 23 = .ok (.putfield 16, 3) := by decide +kernel
theorem dX12_init_26 : decode cX12_init 26 = .ok (.aload_n 0, 1) := by decide +kernel
theorem dX12_init_27 : decode cX12_init 27 = .ok (.bipush 80, 2) := by decide +kernel
theorem dX12_init_29 : decode cX12_init 29 = .ok (.newarray .int, 2) := by decide +kernel
theorem dX12_init_31 : decode cX12_init 31 = .ok (.putfield 20, 3) := by decide +kernel
theorem dX12_init_34 : decode cX12_init 34 = .ok (.aload_n 0, 1) := by decide +kernel
theorem dX12_init_35 : decode cX12_init 35 = .ok (.sipush 353, 3) := by decide +kernel
theorem dX12_init_38 : decode cX12_init 38 = .ok (.newarray .int, 2) := by decide +kernel
theorem dX12_init_40 : decode cX12_init 40 = .ok (.putfield 23, 3) := by decide +kernel
theorem dX12_init_43 : decode cX12_init 43 = .ok (.aload_n 0, 1) := by decide +kernel
theorem dX12_init_44 : decode cX12_init 44 = .ok (.sipush 353, 3) := by decide +kernel
theorem dX12_init_47 : decode cX12_init 47 = .ok (.newarray .int, 2) := by decide +kernel
theorem dX12_init_49 : decode cX12_init 49 = .ok (.putfield 26, 3) := by decide +kernel
theorem dX12_init_52 : decode cX12_init 52 = .ok (.aload_n 0, 1) := by decide +kernel
theorem dX12_init_53 : decode cX12_init 53 = .ok (.sipush 353, 3) := by decide +kernel
theorem dX12_init_56 : decode cX12_init 56 = .ok (.newarray .int, 2) := by decide +kernel
theorem dX12_init_58 : decode cX12_init 58 = .ok (.putfield 29, 3) := by decide +kernel
theorem dX12_init_61 : decode cX12_init 61 = .ok (.aload_n 0, 1) := by decide +kernel
theorem dX12_init_62 : decode cX12_init 62 = .ok (.sipush 353, 3) := by decide +kernel
theorem dX12_init_65 : decode cX12_init 65 = .ok (.newarray .int, 2) := by decide +kernel
theorem dX12_init_67 : decode cX12_init 67 = .ok (.putfield 32, 3) := by decide +kernel
theorem dX12_init_70 : decode cX12_init 70 = .ok (.iconst 0, 1) := by decide +kernel
theorem dX12_init_71 : decode cX12_init 71 = .ok (.istore_n 1, 1) := by decide +kernel
theorem dX12_init_72 : decode cX12_init 72 = .ok (.iload_n 1, 1) := by decide +kernel
theorem dX12_init_73 : decode cX12_init 73 = .ok (.iconst 4, 1) := by decide +kernel
theorem dX12_init_74 : decode cX12_init 74 = .ok (.if_icmp .ge 16, 3) := by decide +kernel
theorem dX12_init_77 : decode cX12_init 77 = .ok (.aload_n 0, 1) := by decide +kernel
theorem dX12_init_78 : decode cX12_init 78 = .ok (.getfield 7, 3) := by decide +kernel
theorem dX12_init_81 : decode cX12_init 81 = .ok (.iload_n 1, 1) := by decide +kernel
theorem dX12_init_82 : decode cX12_init 82 = .ok (.iconst (-1), 1) := by decide +kernel
theorem dX12_init_83 : decode cX12_init 83 = .ok (.iastore, 1) := by decide +kernel
theorem dX12_init_84 : decode cX12_init 84 = .ok (.iinc 1 1, 3) := by decide +kernel
theorem dX12_init_87 : decode cX12_init 87 = .ok (.goto (-15), 3) := by decide +kernel
theorem dX12_init_90 : decode cX12_init 90 = .ok (.aload_n 0, 1) := by decide +kernel
theorem dX12_init_91 : decode cX12_init 91 = .ok (.getfield 23, 3) := by decide +kernel
theorem dX12_init_94 : decode cX12_init 94 = .ok (.iconst 1, 1) := by decide +kernel
theorem dX12_init_95 : decode cX12_init 95 = .ok (.iconst 1, 1) := by decide +kernel
theorem dX12_init_96 : decode cX12_init 96 = .ok (.iastore, 1) := by decide +kernel
theorem dX12_init_97 : decode cX12_init 97 = .ok (.return_, 1) := by decide +kernel
theorem dX12_in_0 : decode cX12_in 0 = .ok (.iload_n 0, 1) := by decide +kernel
theorem dX12_in_1 : decode cX12_in 1 = .ok (.iload_n 1, 1) := by decide +kernel
theorem dX12_in_2 : decode cX12_in 2 = .ok (.if_icmp .lt 12, 3) := by decide +kernel
theorem dX12_in_5 : decode cX12_in 5 = .ok (.iload_n 0, 1) := by decide +kernel
theorem dX12_in_6 : decode cX12_in 6 = .ok (.iload_n 2, 1) := by decide +kernel
theorem dX12_in_7 : decode cX12_in 7 = .ok (.if_icmp .gt 7, 3) := by decide +kernel
theorem dX12_in_10 : decode cX12_in 10 = .ok (.iconst 1, 1) := by decide +kernel
theorem dX12_in_11 : decode cX12_in 11 = .ok (.goto 4, 3) := by decide +kernel
theorem dX12_in_14 : decode cX12_in 14 = .ok (.iconst 0, 1) := by decide +kernel
theorem dX12_in_15 : decode cX12_in 15 = .ok (.ireturn, 1) := by decide +kernel
theorem dX12_has_0 : decode cX12_has 0 = .ok (.iload_n 0, 1) := by decide +kernel
theorem dX12_has_1 : decode cX12_has 1 = .ok (.iload_n 1, 1) := by decide +kernel
theorem dX12_has_2 : decode cX12_has 2 = .ok (.ishr, 1) := by decide +kernel
theorem dX12_has_3 : decode cX12_has 3 = .ok (.iconst 1, 1) := by decide +kernel
theorem dX12_has_4 : decode cX12_has 4 = .ok (.iand, 1) := by decide +kernel
theorem dX12_has_5 : decode cX12_has 5 = .ok (.iconst 1, 1) := by decide +kernel
theorem dX12_has_6 : decode cX12_has 6 = .ok (.if_icmp .ne 7, 3) := by decide +kernel
theorem dX12_has_9 : decode cX12_has 9 = .ok (.iconst 1, 1) := by decide +kernel
theorem dX12_has_10 : decode cX12_has 10 = .ok (.goto 4, 3) := by decide +kernel
theorem dX12_has_13 : decode cX12_has 13 = .ok (.iconst 0, 1) := by decide +kernel
theorem dX12_has_14 : decode cX12_has 14 = .ok (.ireturn, 1) := by decide +kernel
theorem dX12_bits_0 : decode cX12_bits 0 = .ok (.iconst 0, 1) := by decide +kernel
theorem dX12_bits_1 : decode cX12_bits 1 = .ok (.istore_n 1, 1) := by decide +kernel
theorem dX12_bits_2 : decode cX12_bits 2 = .ok (.iconst 0, 1) := by decide +kernel
theorem dX12_bits_3 : decode cX12_bits 3 = .ok (.istore_n 2, 1) := by decide +kernel
theorem dX12_bits_4 : decode cX12_bits 4 = .ok (.iload_n 2, 1) := by decide +kernel
theorem dX12_bits_5 : decode cX12_bits 5 = .ok (.bipush 10, 2) := by decide +kernel
theorem dX12_bits_7 : decode cX12_bits 7 = .ok (.if_icmp .ge 17, 3) := by decide +kernel
theorem dX12_bits_10 : decode cX12_bits 10 = .ok (.iload_n 1, 1) := by decide +kernel
theorem dX12_bits_11 : decode cX12_bits 11 = .ok (.iload_n 0, 1) := by decide +kernel
theorem dX12_bits_12 : decode cX12_bits 12 = .ok (.iload_n 2, 1) := by decide +kernel
theorem dX12_bits_13 : decode cX12_bits 13 = .ok (.ishr, 1) := by decide +kernel
theorem dX12_bits_14 : decode cX12_bits 14 = .ok (.iconst 1, 1) := by decide +kernel
theorem dX12_bits_15 : decode cX12_bits 15 = .ok (.iand, 1) := by decide +kernel
theorem dX12_bits_16 : decode cX12_bits 16 = .ok (.iadd, 1) := by decide +kernel
theorem dX12_bits_17 : decode cX12_bits 17 = .ok (.istore_n 1, 1) := by decide +kernel
theorem dX12_bits_18 : decode cX12_bits 18 = .ok (.iinc 2 1, 3) := by decide +kernel
theorem dX12_bits_21 : decode cX12_bits 21 = .ok (.goto (-17), 3) := by decide +kernel
theorem dX12_bits_24 : decode cX12_bits 24 = .ok (.iload_n 1, 1) := by decide +kernel
theorem dX12_bits_25 : decode cX12_bits 25 = .ok (.ireturn, 1) := by decide +kernel
theorem dX12_bring_0 : decode cX12_bring 0 = .ok (.iconst 0, 1) := by decide +kernel
theorem dX12_bring_1 : decode cX12_bring 1 = .ok (.istore 5, 2) := by decide +kernel
theorem dX12_bring_3 : decode cX12_bring 3 = .ok (.iload 5, 2) := by decide +kernel
theorem dX12_bring_5 : decode cX12_bring 5 = .ok (.iload 4, 2) := by decide +kernel
theorem dX12_bring_7 : decode cX12_bring 7 = .ok (.if_icmp .ge 21, 3) := by decide +kernel
theorem dX12_bring_10 : decode cX12_bring 10 = .ok (.aload_n 2, 1) := by decide +kernel
theorem dX12_bring_11 : decode cX12_bring 11 = .ok (.iload_n 3, 1) := by decide +kernel
theorem dX12_bring_12 : decode cX12_bring 12 = .ok (.iload 5, 2) := by decide +kernel
theorem dX12_bring_14 : decode cX12_bring 14 = .ok (.iadd, 1) := by decide +kernel
theorem dX12_bring_15 : decode cX12_bring 15 = .ok (.aload_n 0, 1) := by decide +kernel
theorem dX12_bring_16 : decode cX12_bring 16 = .ok (.iload_n 1, 1) := by decide +kernel
theorem dX12_bring_17 : decode cX12_bring 17 = .ok (.iload 5, 2) := by decide +kernel
theorem dX12_bring_19 : decode cX12_bring 19 = .ok (.iadd, 1) := by decide +kernel
theorem dX12_bring_20 : decode cX12_bring 20 = .ok (.iaload, 1) := by decide +kernel
theorem dX12_bring_21 : decode cX12_bring 21 = .ok (.iastore, 1) := by decide +kernel
theorem dX12_bring_22 : decode cX12_bring 22 = .ok (.iinc 5 1, 3) := by decide +kernel
theorem dX12_bring_25 : decode cX12_bring 25 = .ok (.goto (-22), 3) := by decide +kernel
theorem dX12_bring_28 : decode cX12_bring 28 = .ok (.return_, 1) := by decide +kernel
theorem dX12_isSleeper_0 : decode cX12_isSleeper 0 = .ok (.iload_n 1, 1) := by decide +kernel
theorem dX12_isSleeper_1 : decode cX12_isSleeper 1 = .ok (.iconst 0, 1) := by decide +kernel
theorem dX12_isSleeper_2 : decode cX12_isSleeper 2 = .ok (.aload_n 0, 1) := by decide +kernel
theorem dX12_isSleeper_3 : decode cX12_isSleeper 3 = .ok (.getfield 23, 3) := by decide +kernel
theorem dX12_isSleeper_6 : decode cX12_isSleeper 6 = .ok (.bipush 36, 2) := by decide +kernel
theorem dX12_isSleeper_8 : decode cX12_isSleeper 8 = .ok (.iaload, 1) := by decide +kernel
theorem dX12_isSleeper_9 : decode cX12_isSleeper 9 = .ok (.iconst 1, 1) := by decide +kernel
theorem dX12_isSleeper_10 : decode cX12_isSleeper 10 = .ok (.isub, 1) := by decide +kernel
theorem dX12_isSleeper_11 : decode cX12_isSleeper 11 = .ok (.invokestatic 35, 3) := by decide +kernel
theorem dX12_isSleeper_14 : decode cX12_isSleeper 14 = .ok (.ireturn, 1) := by decide +kernel
theorem dX12_isThing_0 : decode cX12_isThing 0 = .ok (.iload_n 1, 1) := by decide +kernel
theorem dX12_isThing_1 : decode cX12_isThing 1 = .ok (.iconst 0, 1) := by decide +kernel
theorem dX12_isThing_2 : decode cX12_isThing 2 = .ok (.aload_n 0, 1) := by decide +kernel
theorem dX12_isThing_3 : decode cX12_isThing 3 = .ok (.getfield 23, 3) := by decide +kernel
theorem dX12_isThing_6 : decode cX12_isThing 6 = .ok (.bipush 47, 2) := by decide +kernel
theorem dX12_isThing_8 : decode cX12_isThing 8 = .ok (.iaload, 1) := by decide +kernel
theorem dX12_isThing_9 : decode cX12_isThing 9 = .ok (.iconst 1, 1) := by decide +kernel
theorem dX12_isThing_10 : decode cX12_isThing 10 = .ok (.isub, 1) := by decide +kernel
theorem dX12_isThing_11 : decode cX12_isThing 11 = .ok (.invokestatic 35, 3) := by decide +kernel
theorem dX12_isThing_14 : decode cX12_isThing 14 = .ok (.ireturn, 1) := by decide +kernel
theorem dX12_isRoom_0 : decode cX12_isRoom 0 = .ok (.iload_n 0, 1) := by decide +kernel
theorem dX12_isRoom_1 : decode cX12_isRoom 1 = .ok (.iconst 0, 1) := by decide +kernel
theorem dX12_isRoom_2 : decode cX12_isRoom 2 = .ok (.iconst 3, 1) := by decide +kernel
theorem dX12_isRoom_3 : decode cX12_isRoom 3 = .ok (.invokestatic 35, 3) := by decide +kernel
theorem dX12_isRoom_6 : decode cX12_isRoom 6 = .ok (.ireturn, 1) := by decide +kernel
theorem dX12_addSleeper_0 : decode cX12_addSleeper 0 = .ok (.aload_n 0, 1) := by decide +kernel
theorem dX12_addSleeper_1 : decode cX12_addSleeper 1 = .ok (.bipush 36, 2) := by decide +kernel
theorem dX12_addSleeper_3 : decode cX12_addSleeper 3 = .ok (.iaload, 1) := by decide +kernel
theorem dX12_addSleeper_4 : decode cX12_addSleeper 4 = .ok (.istore_n 3, 1) := by decide +kernel
theorem dX12_addSleeper_5 : decode cX12_addSleeper 5 = .ok (.aload_n 0, 1) := by decide +kernel
theorem dX12_addSleeper_6 : decode cX12_addSleeper 6 = .ok (.bipush 37, 2) := by decide +kernel
theorem dX12_addSleeper_8 : decode cX12_addSleeper 8 = .ok (.iload_n 3, 1) := by decide +kernel
theorem dX12_addSleeper_9 : decode cX12_addSleeper 9 = .ok (.iadd, 1) := by decide +kernel
theorem dX12_addSleeper_10 : decode cX12_addSleeper 10 = .ok (.iload_n 1, 1) := by decide +kernel
theorem dX12_addSleeper_11 : decode cX12_addSleeper 11 = .ok (.iastore, 1) := by decide +kernel
theorem dX12_addSleeper_12 : decode cX12_addSleeper 12 = .ok (.aload_n 0, 1) := by decide +kernel
theorem dX12_addSleeper_13 : decode cX12_addSleeper 13 = .ok (.bipush 42, 2) := by decide +kernel
theorem dX12_addSleeper_15 : decode cX12_addSleeper 15 = .ok (.iload_n 3, 1) := by decide +kernel
theorem dX12_addSleeper_16 : decode cX12_addSleeper 16 = .ok (.iadd, 1) := by decide +kernel
theorem dX12_addSleeper_17 : decode cX12_addSleeper 17 = .ok (.iload_n 2, 1) := by decide +kernel
theorem dX12_addSleeper_18 : decode cX12_addSleeper 18 = .ok (.iastore, 1) := by decide +kernel
theorem dX12_addSleeper_19 : decode cX12_addSleeper 19 = .ok (.aload_n 0, 1) := by decide +kernel
theorem dX12_addSleeper_20 : decode cX12_addSleeper 20 = .ok (.bipush 26, 2) := by decide +kernel
theorem dX12_addSleeper_22 : decode cX12_addSleeper 22 = .ok (.iload_n 3, 1) := by decide +kernel
theorem dX12_addSleeper_23 : decode cX12_addSleeper 23 = .ok (.iadd, 1) := by decide +kernel
theorem dX12_addSleeper_24 : decode cX12_addSleeper 24 = .ok (.iconst 0, 1) := by decide +kernel
theorem dX12_addSleeper_25 : decode cX12_addSleeper 25 = .ok (.iastore, 1) := by decide +kernel
theorem dX12_addSleeper_26 : decode cX12_addSleeper 26 = .ok (.aload_n 0, 1) := by decide +kernel
theorem dX12_addSleeper_27 : decode cX12_addSleeper 27 = .ok (.bipush 31, 2) := by decide +kernel
theorem dX12_addSleeper_29 : decode cX12_addSleeper 29 = .ok (.iload_n 3, 1) := by decide +kernel
theorem dX12_addSleeper_30 : decode cX12_addSleeper 30 = .ok (.iadd, 1) := by decide +kernel
theorem dX12_addSleeper_31 : decode cX12_addSleeper 31 = .ok (.iconst 0, 1) := by decide +kernel
theorem dX12_addSleeper_32 : decode cX12_addSleeper 32 = .ok (.iastore, 1) := by decide +kernel
theorem dX12_addSleeper_33 : decode cX12_addSleeper 33 = .ok (.aload_n 0, 1) := by decide +kernel
theorem dX12_addSleeper_34 : decode cX12_addSleeper 34 = .ok (.bipush 36, 2) := by decide +kernel
theorem dX12_addSleeper_36 : decode cX12_addSleeper 36 = .ok (.dup2, 1) := by decide +kernel
theorem dX12_addSleeper_37 : decode cX12_addSleeper 37 = .ok (.iaload, 1) := by decide +kernel
theorem dX12_addSleeper_38 : decode cX12_addSleeper 38 = .ok (.iconst 1, 1) := by decide +kernel
theorem dX12_addSleeper_39 : decode cX12_addSleeper 39 = .ok (.iadd, 1) := by decide +kernel
theorem dX12_addSleeper_40 : decode cX12_addSleeper 40 = .ok (.iastore, 1) := by decide +kernel
theorem dX12_addSleeper_41 : decode cX12_addSleeper 41 = .ok (.iload_n 3, 1) := by decide +kernel
theorem dX12_addSleeper_42 : decode cX12_addSleeper 42 = .ok (.ireturn, 1) := by decide +kernel
theorem dX12_firstLeft_0 : decode cX12_firstLeft 0 = .ok (.iload_n 0, 1) := by decide +kernel
theorem dX12_firstLeft_1 : decode cX12_firstLeft 1 = .ok (.bipush 10, 2) := by decide +kernel
theorem dX12_firstLeft_3 : decode cX12_firstLeft 3 = .ok (.imul, 1) := by decide +kernel
theorem dX12_firstLeft_4 : decode cX12_firstLeft 4 = .ok (.bipush 99, 2) := by decide +kernel
theorem dX12_firstLeft_6 : decode cX12_firstLeft 6 = .ok (.if_icmp .le 8, 3) := by decide +kernel
theorem dX12_firstLeft_9 : decode cX12_firstLeft 9 = .ok (.bipush 99, 2) := by decide +kernel
theorem dX12_firstLeft_11 : decode cX12_firstLeft 11 = .ok (.goto 7, 3) := by decide +kernel
theorem dX12_firstLeft_14 : decode cX12_firstLeft 14 = .ok (.iload_n 0, 1) := by decide +kernel
theorem dX12_firstLeft_15 : decode cX12_firstLeft 15 = .ok (.bipush 10, 2) := by decide +kernel
theorem dX12_firstLeft_17 : decode cX12_firstLeft 17 = .ok (.imul, 1) := by decide +kernel
theorem dX12_firstLeft_18 : decode cX12_firstLeft 18 = .ok (.ireturn, 1) := by decide +kernel
theorem dX12_addThing_0 : decode cX12_addThing 0 = .ok (.aload_n 0, 1) := by decide +kernel
theorem dX12_addThing_1 : decode cX12_addThing 1 = .ok (.bipush 47, 2) := by decide +kernel
theorem dX12_addThing_3 : decode cX12_addThing 3 = .ok (.iaload, 1) := by decide +kernel
theorem dX12_addThing_4 : decode cX12_addThing 4 = .ok (.istore 5, 2) := by decide +kernel
theorem dX12_addThing_6 : decode cX12_addThing 6 = .ok (.aload_n 0, 1) := by decide +kernel
theorem dX12_addThing_7 : decode cX12_addThing 7 = .ok (.bipush 48, 2) := by decide +kernel
theorem dX12_addThing_9 : decode cX12_addThing 9 = .ok (.iload 5, 2) := by decide +kernel
theorem dX12_addThing_11 : decode cX12_addThing 11 = .ok (.iadd, 1) := by decide +kernel
theorem dX12_addThing_12 : decode cX12_addThing 12 = .ok (.iload_n 1, 1) := by decide +kernel
theorem dX12_addThing_13 : decode cX12_addThing 13 = .ok (.iastore, 1) := by decide +kernel
theorem dX12_addThing_14 : decode cX12_addThing 14 = .ok (.aload_n 0, 1) := by decide +kernel
theorem dX12_addThing_15 : decode cX12_addThing 15 = .ok (.bipush 10, 2) := by decide +kernel
theorem dX12_addThing_17 : decode cX12_addThing 17 = .ok (.iload 5, 2) := by decide +kernel
theorem dX12_addThing_19 : decode cX12_addThing 19 = .ok (.iadd, 1) := by decide +kernel
theorem dX12_addThing_20 : decode cX12_addThing 20 = .ok (.iload_n 2, 1) := by decide +kernel
theorem dX12_addThing_21 : decode cX12_addThing 21 = .ok (.iastore, 1) := by decide +kernel
theorem dX12_addThing_22 : decode cX12_addThing 22 = .ok (.aload_n 0, 1) := by decide +kernel
theorem dX12_addThing_23 : decode cX12_addThing 23 = .ok (.bipush 56, 2) := by decide +kernel
theorem dX12_addThing_25 : decode cX12_addThing 25 = .ok (.iload 5, 2) := by decide +kernel
theorem dX12_addThing_27 : decode cX12_addThing 27 = .ok (.iadd, 1) := by decide +kernel
theorem dX12_addThing_28 : decode cX12_addThing 28 = .ok (.iload_n 3, 1) := by decide +kernel
theorem dX12_addThing_29 : decode cX12_addThing 29 = .ok (.iastore, 1) := by decide +kernel
theorem dX12_addThing_30 : decode cX12_addThing 30 = .ok (.aload_n 0, 1) := by decide +kernel
theorem dX12_addThing_31 : decode cX12_addThing 31 = .ok (.iconst 2, 1) := by decide +kernel
theorem dX12_addThing_32 : decode cX12_addThing 32 = .ok (.iload 5, 2) := by decide +kernel
theorem dX12_addThing_34 : decode cX12_addThing 34 = .ok (.iadd, 1) := by decide +kernel
theorem dX12_addThing_35 : decode cX12_addThing 35 = .ok (.iload 4, 2) := by decide +kernel
theorem dX12_addThing_37 : decode cX12_addThing 37 = .ok (.iastore, 1) := by decide +kernel
theorem dX12_addThing_38 : decode cX12_addThing 38 = .ok (.aload_n 0, 1) := by decide +kernel
theorem dX12_addThing_39 : decode cX12_addThing 39 = .ok (.bipush 18, 2) := by decide +kernel
theorem dX12_addThing_41 : decode cX12_addThing 41 = .ok (.iload 5, 2) := by decide +kernel
theorem dX12_addThing_43 : decode cX12_addThing 43 = .ok (.iadd, 1) := by decide +kernel
theorem dX12_addThing_44 : decode cX12_addThing 44 = .ok (.iload_n 3, 1) := by decide +kernel
theorem dX12_addThing_45 : decode cX12_addThing 45 = .ok (.invokestatic 39, 3) := by decide +kernel
theorem dX12_addThing_48 : decode cX12_addThing 48 = .ok (.iastore, 1) := by decide +kernel
theorem dX12_addThing_49 : decode cX12_addThing 49 = .ok (.aload_n 0, 1) := by decide +kernel
theorem dX12_addThing_50 : decode cX12_addThing 50 = .ok (.bipush 47, 2) := by decide +kernel
theorem dX12_addThing_52 : decode cX12_addThing 52 = .ok (.dup2, 1) := by decide +kernel
theorem dX12_addThing_53 : decode cX12_addThing 53 = .ok (.iaload, 1) := by decide +kernel
theorem dX12_addThing_54 : decode cX12_addThing 54 = .ok (.iconst 1, 1) := by decide +kernel
theorem dX12_addThing_55 : decode cX12_addThing 55 = .ok (.iadd, 1) := by decide +kernel
theorem dX12_addThing_56 : decode cX12_addThing 56 = .ok (.iastore, 1) := by decide +kernel
theorem dX12_addThing_57 : decode cX12_addThing 57 = .ok (.iload 5, 2) := by decide +kernel
theorem dX12_addThing_59 : decode cX12_addThing 59 = .ok (.ireturn, 1) := by decide +kernel
theorem dX12_sleeper_0 : decode cX12_sleeper 0 = .ok (.iload_n 1, 1) := by decide +kernel
theorem dX12_sleeper_1 : decode cX12_sleeper 1 = .ok (.invokestatic 43, 3) := by decide +kernel
theorem dX12_sleeper_4 : decode cX12_sleeper 4 = .ok (.ifCond .eq 13, 3) := by decide +kernel
theorem dX12_sleeper_7 : decode cX12_sleeper 7 = .ok (.iload_n 2, 1) := by decide +kernel
theorem dX12_sleeper_8 : decode cX12_sleeper 8 = .ok (.iconst 0, 1) := by decide +kernel
theorem dX12_sleeper_9 : decode cX12_sleeper 9 = .ok (.bipush 60, 2) := by decide +kernel
theorem dX12_sleeper_11 : decode cX12_sleeper 11 = .ok (.invokestatic 35, 3) := by decide +kernel
theorem dX12_sleeper_14 : decode cX12_sleeper 14 = .ok (.ifCond .ne 5, 3) := by decide +kernel
theorem dX12_sleeper_17 : decode cX12_sleeper 17 = .ok (.iconst (-1), 1) := by decide +kernel
theorem dX12_sleeper_18 : decode cX12_sleeper 18 = .ok (.ireturn, 1) := by decide +kernel
theorem dX12_sleeper_19 : decode cX12_sleeper 19 = .ok (.aload_n 0, 1) := by decide +kernel
theorem dX12_sleeper_20 : decode cX12_sleeper 20 = .ok (.getfield 23, 3) := by decide +kernel
theorem dX12_sleeper_23 : decode cX12_sleeper 23 = .ok (.bipush 36, 2) := by decide +kernel
theorem dX12_sleeper_25 : decode cX12_sleeper 25 = .ok (.iaload, 1) := by decide +kernel
theorem dX12_sleeper_26 : decode cX12_sleeper 26 = .ok (.iconst 5, 1) := by decide +kernel
theorem dX12_sleeper_27 : decode cX12_sleeper 27 = .ok (.if_icmp .ne 6, 3) := by decide +kernel
theorem dX12_sleeper_30 : decode cX12_sleeper 30 = .ok (.bipush (-3), 2) := by decide +kernel
theorem dX12_sleeper_32 : decode cX12_sleeper 32 = .ok (.ireturn, 1) := by decide +kernel
theorem dX12_sleeper_33 : decode cX12_sleeper 33 = .ok (.aload_n 0, 1) := by decide +kernel
theorem dX12_sleeper_34 : decode cX12_sleeper 34 = .ok (.getfield 23, 3) := by decide +kernel
theorem dX12_sleeper_37 : decode cX12_sleeper 37 = .ok (.bipush 64, 2) := by decide +kernel
theorem dX12_sleeper_39 : decode cX12_sleeper 39 = .ok (.iconst 0, 1) := by decide +kernel
theorem dX12_sleeper_40 : decode cX12_sleeper 40 = .ok (.iastore, 1) := by decide +kernel
theorem dX12_sleeper_41 : decode cX12_sleeper 41 = .ok (.aload_n 0, 1) := by decide +kernel
theorem dX12_sleeper_42 : decode cX12_sleeper 42 = .ok (.getfield 23, 3) := by decide +kernel
theorem dX12_sleeper_45 : decode cX12_sleeper 45 = .ok (.iload_n 1, 1) := by decide +kernel
theorem dX12_sleeper_46 : decode cX12_sleeper 46 = .ok (.iload_n 2, 1) := by decide +kernel
theorem dX12_sleeper_47 : decode cX12_sleeper 47 = .ok (.invokestatic 47, 3) := by decide +kernel
theorem dX12_sleeper_50 : decode cX12_sleeper 50 = .ok (.ireturn, 1) := by decide +kernel
theorem dX12_thing_0 : decode cX12_thing 0 = .ok (.iload_n 1, 1) := by decide +kernel
theorem dX12_thing_1 : decode cX12_thing 1 = .ok (.iconst 0, 1) := by decide +kernel
theorem dX12_thing_2 : decode cX12_thing 2 = .ok (.iconst 4, 1) := by decide +kernel
theorem dX12_thing_3 : decode cX12_thing 3 = .ok (.invokestatic 35, 3) := by decide +kernel
theorem dX12_thing_6 : decode cX12_thing 6 = .ok (.ifCond .eq 31, 3) := by decide +kernel
theorem dX12_thing_9 : decode cX12_thing 9 = .ok (.iload_n 2, 1) := by decide +kernel
theorem dX12_thing_10 : decode cX12_thing 10 = .ok (.iconst 0, 1) := by decide +kernel
theorem dX12_thing_11 : decode cX12_thing 11 = .ok (.bipush 9, 2) := by decide +kernel
theorem dX12_thing_13 : decode cX12_thing 13 = .ok (.invokestatic 35, 3) := by decide +kernel
theorem dX12_thing_16 : decode cX12_thing 16 = .ok (.ifCond .eq 21, 3) := by decide +kernel
theorem dX12_thing_19 : decode cX12_thing 19 = .ok (.iload_n 3, 1) := by decide +kernel
theorem dX12_thing_20 : decode cX12_thing 20 = .ok (.iconst 1, 1) := by decide +kernel
theorem dX12_thing_21 : decode cX12_thing 21 = .ok (.bipush 9, 2) := by decide +kernel
theorem dX12_thing_23 : decode cX12_thing 23 = .ok (.invokestatic 35, 3) := by decide +kernel
theorem dX12_thing_26 : decode cX12_thing 26 = .ok (.ifCond .eq 11, 3) := by decide +kernel
theorem dX12_thing_29 : decode cX12_thing 29 = .ok (.iload 4, 2) := by decide +kernel
theorem dX12_thing_31 : decode cX12_thing 31 = .ok (.invokestatic 43, 3) := by decide +kernel
theorem dX12_thing_34 : decode cX12_thing 34 = .ok (.ifCond .ne 5, 3) := by decide +kernel
theorem dX12_thing_37 : decode cX12_thing 37 = .ok (.iconst (-1), 1) := by decide +kernel
theorem dX12_thing_38 : decode cX12_thing 38 = .ok (.ireturn, 1) := by decide +kernel
theorem dX12_thing_39 : decode cX12_thing 39 = .ok (.aload_n 0, 1) := by decide +kernel
theorem dX12_thing_40 : decode cX12_thing 40 = .ok (.getfield 23, 3) := by decide +kernel
theorem dX12_thing_43 : decode cX12_thing 43 = .ok (.bipush 47, 2) := by decide +kernel
theorem dX12_thing_45 : decode cX12_thing 45 = .ok (.iaload, 1) := by decide +kernel
theorem dX12_thing_46 : decode cX12_thing 46 = .ok (.bipush 8, 2) := by decide +kernel
theorem dX12_thing_48 : decode cX12_thing 48 = .ok (.if_icmp .ne 6, 3) := by decide +kernel
theorem dX12_thing_51 : decode cX12_thing 51 = .ok (.bipush (-3), 2) := by decide +kernel
theorem dX12_thing_53 : decode cX12_thing 53 = .ok (.ireturn, 1) := by decide +kernel
theorem dX12_thing_54 : decode cX12_thing 54 = .ok (.aload_n 0, 1) := by decide +kernel
theorem dX12_thing_55 : decode cX12_thing 55 = .ok (.getfield 23, 3) := by decide +kernel
theorem dX12_thing_58 : decode cX12_thing 58 = .ok (.bipush 64, 2) := by decide +kernel
theorem dX12_thing_60 : decode cX12_thing 60 = .ok (.iconst 0, 1) := by decide +kernel
theorem dX12_thing_61 : decode cX12_thing 61 = .ok (.iastore, 1) := by decide +kernel
theorem dX12_thing_62 : decode cX12_thing 62 = .ok (.aload_n 0, 1) := by decide +kernel
theorem dX12_thing_63 : decode cX12_thing 63 = .ok (.getfield 23, 3) := by decide +kernel
theorem dX12_thing_66 : decode cX12_thing 66 = .ok (.iload_n 1, 1) := by decide +kernel
theorem dX12_thing_67 : decode cX12_thing 67 = .ok (.iload_n 2, 1) := by decide +kernel
theorem dX12_thing_68 : decode cX12_thing 68 = .ok (.iload_n 3, 1) := by decide +kernel
theorem dX12_thing_69 : decode cX12_thing 69 = .ok (.iload 4, 2) := by decide +kernel
theorem dX12_thing_71 : decode cX12_thing 71 = .ok (.invokestatic 51, 3) := by decide +kernel
theorem dX12_thing_74 : decode cX12_thing 74 = .ok (.ireturn, 1) := by decide +kernel
theorem dX12_loudBy_0 : decode cX12_loudBy 0 = .ok (.iload_n 2, 1) := by decide +kernel
theorem dX12_loudBy_1 : decode cX12_loudBy 1 = .ok (.ifCond .ne 5, 3) := by decide +kernel
theorem dX12_loudBy_4 : decode cX12_loudBy 4 = .ok (.iconst 0, 1) := by decide +kernel
theorem dX12_loudBy_5 : decode cX12_loudBy 5 = .ok (.ireturn, 1) := by decide +kernel
theorem dX12_loudBy_6 : decode cX12_loudBy 6 = .ok (.iload_n 0, 1) := by decide +kernel
theorem dX12_loudBy_7 : decode cX12_loudBy 7 = .ok (.tableswitch 49 1 4 #[29, 49, 33, 47], 29) := by decide +kernel
theorem dX12_loudBy_36 : decode cX12_loudBy 36 = .ok (.iconst 2, 1) := by decide +kernel
theorem dX12_loudBy_37 : decode cX12_loudBy 37 = .ok (.iload_n 1, 1) := by decide +kernel
theorem dX12_loudBy_38 : decode cX12_loudBy 38 = .ok (.imul, 1) := by decide +kernel
theorem dX12_loudBy_39 : decode cX12_loudBy 39 = .ok (.ireturn, 1) := by decide +kernel
theorem dX12_loudBy_40 : decode cX12_loudBy 40 = .ok (.iload_n 3, 1) := by decide +kernel
theorem dX12_loudBy_41 : decode cX12_loudBy 41 = .ok (.iconst 2, 1) := by decide +kernel
theorem dX12_loudBy_42 : decode cX12_loudBy 42 = .ok (.irem, 1) := by decide +kernel
theorem dX12_loudBy_43 : decode cX12_loudBy 43 = .ok (.ifCond .ne 7, 3) := by decide +kernel
theorem dX12_loudBy_46 : decode cX12_loudBy 46 = .ok (.iconst 0, 1) := by decide +kernel
theorem dX12_loudBy_47 : decode cX12_loudBy 47 = .ok (.goto 6, 3) := by decide +kernel
theorem dX12_loudBy_50 : decode cX12_loudBy 50 = .ok (.iconst 2, 1) := by decide +kernel
theorem dX12_loudBy_51 : decode cX12_loudBy 51 = .ok (.iload_n 1, 1) := by decide +kernel
theorem dX12_loudBy_52 : decode cX12_loudBy 52 = .ok (.imul, 1) := by decide +kernel
theorem dX12_loudBy_53 : decode cX12_loudBy 53 = .ok (.ireturn, 1) := by decide +kernel
theorem dX12_loudBy_54 : decode cX12_loudBy 54 = .ok (.iconst 1, 1) := by decide +kernel
theorem dX12_loudBy_55 : decode cX12_loudBy 55 = .ok (.ireturn, 1) := by decide +kernel
theorem dX12_loudBy_56 : decode cX12_loudBy 56 = .ok (.iload_n 1, 1) := by decide +kernel
theorem dX12_loudBy_57 : decode cX12_loudBy 57 = .ok (.ireturn, 1) := by decide +kernel
theorem dX12_leftBy_0 : decode cX12_leftBy 0 = .ok (.iload_n 2, 1) := by decide +kernel
theorem dX12_leftBy_1 : decode cX12_leftBy 1 = .ok (.ifCond .le 9, 3) := by decide +kernel
theorem dX12_leftBy_4 : decode cX12_leftBy 4 = .ok (.iload_n 2, 1) := by decide +kernel
theorem dX12_leftBy_5 : decode cX12_leftBy 5 = .ok (.iconst 1, 1) := by decide +kernel
theorem dX12_leftBy_6 : decode cX12_leftBy 6 = .ok (.isub, 1) := by decide +kernel
theorem dX12_leftBy_7 : decode cX12_leftBy 7 = .ok (.goto 4, 3) := by decide +kernel
theorem dX12_leftBy_10 : decode cX12_leftBy 10 = .ok (.iconst 0, 1) := by decide +kernel
theorem dX12_leftBy_11 : decode cX12_leftBy 11 = .ok (.istore 4, 2) := by decide +kernel
theorem dX12_leftBy_13 : decode cX12_leftBy 13 = .ok (.iload_n 0, 1) := by decide +kernel
theorem dX12_leftBy_14 : decode cX12_leftBy 14 = .ok (.tableswitch 63 0 3 #[30, 43, 46, 50], 30) := by decide +kernel
theorem dX12_leftBy_44 : decode cX12_leftBy 44 = .ok (.iload_n 2, 1) := by decide +kernel
theorem dX12_leftBy_45 : decode cX12_leftBy 45 = .ok (.iload_n 1, 1) := by decide +kernel
theorem dX12_leftBy_46 : decode cX12_leftBy 46 = .ok (.if_icmp .le 9, 3) := by decide +kernel
theorem dX12_leftBy_49 : decode cX12_leftBy 49 = .ok (.iload_n 2, 1) := by decide +kernel
theorem dX12_leftBy_50 : decode cX12_leftBy 50 = .ok (.iload_n 1, 1) := by decide +kernel
theorem dX12_leftBy_51 : decode cX12_leftBy 51 = .ok (.isub, 1) := by decide +kernel
theorem dX12_leftBy_52 : decode cX12_leftBy 52 = .ok (.goto 4, 3) := by decide +kernel
theorem dX12_leftBy_55 : decode cX12_leftBy 55 = .ok (.iconst 0, 1) := by decide +kernel
theorem dX12_leftBy_56 : decode cX12_leftBy 56 = .ok (.ireturn, 1) := by decide +kernel
theorem dX12_leftBy_57 : decode cX12_leftBy 57 = .ok (.iload 4, 2) := by decide +kernel
theorem dX12_leftBy_59 : decode cX12_leftBy 59 = .ok (.ireturn, 1) := by decide +kernel
theorem dX12_leftBy_60 : decode cX12_leftBy 60 = .ok (.iload_n 2, 1) := by decide +kernel
theorem dX12_leftBy_61 : decode cX12_leftBy 61 = .ok (.iconst 2, 1) := by decide +kernel
theorem dX12_leftBy_62 : decode cX12_leftBy 62 = .ok (.idiv, 1) := by decide +kernel
theorem dX12_leftBy_63 : decode cX12_leftBy 63 = .ok (.ireturn, 1) := by decide +kernel
theorem dX12_leftBy_64 : decode cX12_leftBy 64 = .ok (.iload_n 3, 1) := by decide +kernel
theorem dX12_leftBy_65 : decode cX12_leftBy 65 = .ok (.iconst 2, 1) := by decide +kernel
theorem dX12_leftBy_66 : decode cX12_leftBy 66 = .ok (.irem, 1) := by decide +kernel
theorem dX12_leftBy_67 : decode cX12_leftBy 67 = .ok (.ifCond .ne 7, 3) := by decide +kernel
theorem dX12_leftBy_70 : decode cX12_leftBy 70 = .ok (.iload_n 2, 1) := by decide +kernel
theorem dX12_leftBy_71 : decode cX12_leftBy 71 = .ok (.goto 5, 3) := by decide +kernel
theorem dX12_leftBy_74 : decode cX12_leftBy 74 = .ok (.iload 4, 2) := by decide +kernel
theorem dX12_leftBy_76 : decode cX12_leftBy 76 = .ok (.ireturn, 1) := by decide +kernel
theorem dX12_leftBy_77 : decode cX12_leftBy 77 = .ok (.iload_n 3, 1) := by decide +kernel
theorem dX12_leftBy_78 : decode cX12_leftBy 78 = .ok (.iconst 3, 1) := by decide +kernel
theorem dX12_leftBy_79 : decode cX12_leftBy 79 = .ok (.irem, 1) := by decide +kernel
theorem dX12_leftBy_80 : decode cX12_leftBy 80 = .ok (.ifCond .ne 9, 3) := by decide +kernel
theorem dX12_leftBy_83 : decode cX12_leftBy 83 = .ok (.iload_n 2, 1) := by decide +kernel
theorem dX12_leftBy_84 : decode cX12_leftBy 84 = .ok (.iconst 2, 1) := by decide +kernel
theorem dX12_leftBy_85 : decode cX12_leftBy 85 = .ok (.idiv, 1) := by decide +kernel
theorem dX12_leftBy_86 : decode cX12_leftBy 86 = .ok (.goto 4, 3) := by decide +kernel
theorem dX12_leftBy_89 : decode cX12_leftBy 89 = .ok (.iload_n 2, 1) := by decide +kernel
theorem dX12_leftBy_90 : decode cX12_leftBy 90 = .ok (.ireturn, 1) := by decide +kernel
theorem dX12_loudOf_0 : decode cX12_loudOf 0 = .ok (.aload_n 0, 1) := by decide +kernel
theorem dX12_loudOf_1 : decode cX12_loudOf 1 = .ok (.bipush 48, 2) := by decide +kernel
theorem dX12_loudOf_3 : decode cX12_loudOf 3 = .ok (.iload_n 1, 1) := by decide +kernel
theorem dX12_loudOf_4 : decode cX12_loudOf 4 = .ok (.iadd, 1) := by decide +kernel
theorem dX12_loudOf_5 : decode cX12_loudOf 5 = .ok (.iaload, 1) := by decide +kernel
theorem dX12_loudOf_6 : decode cX12_loudOf 6 = .ok (.aload_n 0, 1) := by decide +kernel
theorem dX12_loudOf_7 : decode cX12_loudOf 7 = .ok (.bipush 56, 2) := by decide +kernel
theorem dX12_loudOf_9 : decode cX12_loudOf 9 = .ok (.iload_n 1, 1) := by decide +kernel
theorem dX12_loudOf_10 : decode cX12_loudOf 10 = .ok (.iadd, 1) := by decide +kernel
theorem dX12_loudOf_11 : decode cX12_loudOf 11 = .ok (.iaload, 1) := by decide +kernel
theorem dX12_loudOf_12 : decode cX12_loudOf 12 = .ok (.aload_n 0, 1) := by decide +kernel
theorem dX12_loudOf_13 : decode cX12_loudOf 13 = .ok (.bipush 18, 2) := by decide +kernel
theorem dX12_loudOf_15 : decode cX12_loudOf 15 = .ok (.iload_n 1, 1) := by decide +kernel
theorem dX12_loudOf_16 : decode cX12_loudOf 16 = .ok (.iadd, 1) := by decide +kernel
theorem dX12_loudOf_17 : decode cX12_loudOf 17 = .ok (.iaload, 1) := by decide +kernel
theorem dX12_loudOf_18 : decode cX12_loudOf 18 = .ok (.aload_n 0, 1) := by decide +kernel
theorem dX12_loudOf_19 : decode cX12_loudOf 19 = .ok (.iconst 0, 1) := by decide +kernel
theorem dX12_loudOf_20 : decode cX12_loudOf 20 = .ok (.iaload, 1) := by decide +kernel
theorem dX12_loudOf_21 : decode cX12_loudOf 21 = .ok (.invokestatic 55, 3) := by decide +kernel
theorem dX12_loudOf_24 : decode cX12_loudOf 24 = .ok (.ireturn, 1) := by decide +kernel
theorem dX12_loudIn_0 : decode cX12_loudIn 0 = .ok (.iconst 0, 1) := by decide +kernel
theorem dX12_loudIn_1 : decode cX12_loudIn 1 = .ok (.istore_n 2, 1) := by decide +kernel
theorem dX12_loudIn_2 : decode cX12_loudIn 2 = .ok (.iconst 0, 1) := by decide +kernel
theorem dX12_loudIn_3 : decode cX12_loudIn 3 = .ok (.istore_n 3, 1) := by decide +kernel
theorem dX12_loudIn_4 : decode cX12_loudIn 4 = .ok (.iload_n 3, 1) := by decide +kernel
theorem dX12_loudIn_5 : decode cX12_loudIn 5 = .ok (.aload_n 0, 1) := by decide +kernel
theorem dX12_loudIn_6 : decode cX12_loudIn 6 = .ok (.bipush 47, 2) := by decide +kernel
theorem dX12_loudIn_8 : decode cX12_loudIn 8 = .ok (.iaload, 1) := by decide +kernel
theorem dX12_loudIn_9 : decode cX12_loudIn 9 = .ok (.if_icmp .ge 30, 3) := by decide +kernel
theorem dX12_loudIn_12 : decode cX12_loudIn 12 = .ok (.iload_n 2, 1) := by decide +kernel
theorem dX12_loudIn_13 : decode cX12_loudIn 13 = .ok (.aload_n 0, 1) := by decide +kernel
theorem dX12_loudIn_14 : decode cX12_loudIn 14 = .ok (.iconst 2, 1) := by decide +kernel
theorem dX12_loudIn_15 : decode cX12_loudIn 15 = .ok (.iload_n 3, 1) := by decide +kernel
theorem dX12_loudIn_16 : decode cX12_loudIn 16 = .ok (.iadd, 1) := by decide +kernel
theorem dX12_loudIn_17 : decode cX12_loudIn 17 = .ok (.iaload, 1) := by decide +kernel
theorem dX12_loudIn_18 : decode cX12_loudIn 18 = .ok (.iload_n 1, 1) := by decide +kernel
theorem dX12_loudIn_19 : decode cX12_loudIn 19 = .ok (.if_icmp .ne 11, 3) := by decide +kernel
theorem dX12_loudIn_22 : decode cX12_loudIn 22 = .ok (.aload_n 0, 1) := by decide +kernel
theorem dX12_loudIn_23 : decode cX12_loudIn 23 = .ok (.iload_n 3, 1) := by decide +kernel
theorem dX12_loudIn_24 : decode cX12_loudIn 24 = .ok (.invokestatic 59, 3) := by decide +kernel
theorem dX12_loudIn_27 : decode cX12_loudIn 27 = .ok (.goto 4, 3) := by decide +kernel
theorem dX12_loudIn_30 : decode cX12_loudIn 30 = .ok (.iconst 0, 1) := by decide +kernel
theorem dX12_loudIn_31 : decode cX12_loudIn 31 = .ok (.iadd, 1) := by decide +kernel
theorem dX12_loudIn_32 : decode cX12_loudIn 32 = .ok (.istore_n 2, 1) := by decide +kernel
theorem dX12_loudIn_33 : decode cX12_loudIn 33 = .ok (.iinc 3 1, 3) := by decide +kernel
theorem dX12_loudIn_36 : decode cX12_loudIn 36 = .ok (.goto (-32), 3) := by decide +kernel
theorem dX12_loudIn_39 : decode cX12_loudIn 39 = .ok (.iload_n 2, 1) := by decide +kernel
theorem dX12_loudIn_40 : decode cX12_loudIn 40 = .ok (.ireturn, 1) := by decide +kernel
theorem dX12_isAsleep_0 : decode cX12_isAsleep 0 = .ok (.aload_n 0, 1) := by decide +kernel
theorem dX12_isAsleep_1 : decode cX12_isAsleep 1 = .ok (.aload_n 0, 1) := by decide +kernel
theorem dX12_isAsleep_2 : decode cX12_isAsleep 2 = .ok (.bipush 37, 2) := by decide +kernel
theorem dX12_isAsleep_4 : decode cX12_isAsleep 4 = .ok (.iload_n 1, 1) := by decide +kernel
theorem dX12_isAsleep_5 : decode cX12_isAsleep 5 = .ok (.iadd, 1) := by decide +kernel
theorem dX12_isAsleep_6 : decode cX12_isAsleep 6 = .ok (.iaload, 1) := by decide +kernel
theorem dX12_isAsleep_7 : decode cX12_isAsleep 7 = .ok (.invokestatic 63, 3) := by decide +kernel
theorem dX12_isAsleep_10 : decode cX12_isAsleep 10 = .ok (.aload_n 0, 1) := by decide +kernel
theorem dX12_isAsleep_11 : decode cX12_isAsleep 11 = .ok (.bipush 42, 2) := by decide +kernel
theorem dX12_isAsleep_13 : decode cX12_isAsleep 13 = .ok (.iload_n 1, 1) := by decide +kernel
theorem dX12_isAsleep_14 : decode cX12_isAsleep 14 = .ok (.iadd, 1) := by decide +kernel
theorem dX12_isAsleep_15 : decode cX12_isAsleep 15 = .ok (.iaload, 1) := by decide +kernel
theorem dX12_isAsleep_16 : decode cX12_isAsleep 16 = .ok (.if_icmp .gt 7, 3) := by decide +kernel
theorem dX12_isAsleep_19 : decode cX12_isAsleep 19 = .ok (.iconst 1, 1) := by decide +kernel
theorem dX12_isAsleep_20 : decode cX12_isAsleep 20 = .ok (.goto 4, 3) := by decide +kernel
theorem dX12_isAsleep_23 : decode cX12_isAsleep 23 = .ok (.iconst 0, 1) := by decide +kernel
theorem dX12_isAsleep_24 : decode cX12_isAsleep 24 = .ok (.ireturn, 1) := by decide +kernel
theorem dX12_of_0 : decode cX12_of 0 = .ok (.aload_n 0, 1) := by decide +kernel
theorem dX12_of_1 : decode cX12_of 1 = .ok (.iload_n 1, 1) := by decide +kernel
theorem dX12_of_2 : decode cX12_of 2 = .ok (.invokevirtual 66, 3) := by decide +kernel
theorem dX12_of_5 : decode cX12_of 5 = .ok (.ifCond .ne 5, 3) := by decide +kernel
theorem dX12_of_8 : decode cX12_of 8 = .ok (.iconst (-1), 1) := by decide +kernel
theorem dX12_of_9 : decode cX12_of 9 = .ok (.ireturn, 1) := by decide +kernel
theorem dX12_of_10 : decode cX12_of 10 = .ok (.iload_n 2, 1) := by decide +kernel
theorem dX12_of_11 : decode cX12_of 11 = .ok (.tableswitch 90 0 4 #[33, 43, 53, 63, 73], 33) := by decide +kernel
theorem dX12_of_44 : decode cX12_of 44 = .ok (.aload_n 0, 1) := by decide +kernel
theorem dX12_of_45 : decode cX12_of 45 = .ok (.getfield 23, 3) := by decide +kernel
theorem dX12_of_48 : decode cX12_of 48 = .ok (.bipush 37, 2) := by decide +kernel
theorem dX12_of_50 : decode cX12_of 50 = .ok (.iload_n 1, 1) := by decide +kernel
theorem dX12_of_51 : decode cX12_of 51 = .ok (.iadd, 1) := by decide +kernel
theorem dX12_of_52 : decode cX12_of 52 = .ok (.iaload, 1) := by decide +kernel
theorem dX12_of_53 : decode cX12_of 53 = .ok (.ireturn, 1) := by decide +kernel
theorem dX12_of_54 : decode cX12_of 54 = .ok (.aload_n 0, 1) := by decide +kernel
theorem dX12_of_55 : decode cX12_of 55 = .ok (.getfield 23, 3) := by decide +kernel
theorem dX12_of_58 : decode cX12_of 58 = .ok (.bipush 42, 2) := by decide +kernel
theorem dX12_of_60 : decode cX12_of 60 = .ok (.iload_n 1, 1) := by decide +kernel
theorem dX12_of_61 : decode cX12_of 61 = .ok (.iadd, 1) := by decide +kernel
theorem dX12_of_62 : decode cX12_of 62 = .ok (.iaload, 1) := by decide +kernel
theorem dX12_of_63 : decode cX12_of 63 = .ok (.ireturn, 1) := by decide +kernel
theorem dX12_of_64 : decode cX12_of 64 = .ok (.aload_n 0, 1) := by decide +kernel
theorem dX12_of_65 : decode cX12_of 65 = .ok (.getfield 23, 3) := by decide +kernel
theorem dX12_of_68 : decode cX12_of 68 = .ok (.bipush 26, 2) := by decide +kernel
theorem dX12_of_70 : decode cX12_of 70 = .ok (.iload_n 1, 1) := by decide +kernel
theorem dX12_of_71 : decode cX12_of 71 = .ok (.iadd, 1) := by decide +kernel
theorem dX12_of_72 : decode cX12_of 72 = .ok (.iaload, 1) := by decide +kernel
theorem dX12_of_73 : decode cX12_of 73 = .ok (.ireturn, 1) := by decide +kernel
theorem dX12_of_74 : decode cX12_of 74 = .ok (.aload_n 0, 1) := by decide +kernel
theorem dX12_of_75 : decode cX12_of 75 = .ok (.getfield 23, 3) := by decide +kernel
theorem dX12_of_78 : decode cX12_of 78 = .ok (.bipush 31, 2) := by decide +kernel
theorem dX12_of_80 : decode cX12_of 80 = .ok (.iload_n 1, 1) := by decide +kernel
theorem dX12_of_81 : decode cX12_of 81 = .ok (.iadd, 1) := by decide +kernel
theorem dX12_of_82 : decode cX12_of 82 = .ok (.iaload, 1) := by decide +kernel
theorem dX12_of_83 : decode cX12_of 83 = .ok (.ireturn, 1) := by decide +kernel
theorem dX12_of_84 : decode cX12_of 84 = .ok (.aload_n 0, 1) := by decide +kernel
theorem dX12_of_85 : decode cX12_of 85 = .ok (.getfield 23, 3) := by decide +kernel
theorem dX12_of_88 : decode cX12_of 88 = .ok (.iload_n 1, 1) := by decide +kernel
theorem dX12_of_89 : decode cX12_of 89 = .ok (.invokestatic 69, 3) := by decide +kernel
theorem dX12_of_92 : decode cX12_of 92 = .ok (.ifCond .eq 7, 3) := by decide +kernel
theorem dX12_of_95 : decode cX12_of 95 = .ok (.iconst 1, 1) := by decide +kernel
theorem dX12_of_96 : decode cX12_of 96 = .ok (.goto 4, 3) := by decide +kernel
theorem dX12_of_99 : decode cX12_of 99 = .ok (.iconst 0, 1) := by decide +kernel
theorem dX12_of_100 : decode cX12_of 100 = .ok (.ireturn, 1) := by decide +kernel
theorem dX12_of_101 : decode cX12_of 101 = .ok (.iconst (-1), 1) := by decide +kernel
theorem dX12_of_102 : decode cX12_of 102 = .ok (.ireturn, 1) := by decide +kernel
theorem dX12_gift_0 : decode cX12_gift 0 = .ok (.aload_n 0, 1) := by decide +kernel
theorem dX12_gift_1 : decode cX12_gift 1 = .ok (.iload_n 1, 1) := by decide +kernel
theorem dX12_gift_2 : decode cX12_gift 2 = .ok (.invokevirtual 73, 3) := by decide +kernel
theorem dX12_gift_5 : decode cX12_gift 5 = .ok (.ifCond .ne 5, 3) := by decide +kernel
theorem dX12_gift_8 : decode cX12_gift 8 = .ok (.iconst (-1), 1) := by decide +kernel
theorem dX12_gift_9 : decode cX12_gift 9 = .ok (.ireturn, 1) := by decide +kernel
theorem dX12_gift_10 : decode cX12_gift 10 = .ok (.iload_n 2, 1) := by decide +kernel
theorem dX12_gift_11 : decode cX12_gift 11 = .ok (.tableswitch 95 0 5 #[37, 47, 57, 67, 76, 86], 37) := by decide +kernel
theorem dX12_gift_48 : decode cX12_gift 48 = .ok (.aload_n 0, 1) := by decide +kernel
theorem dX12_gift_49 : decode cX12_gift 49 = .ok (.getfield 23, 3) := by decide +kernel
theorem dX12_gift_52 : decode cX12_gift 52 = .ok (.bipush 48, 2) := by decide +kernel
theorem dX12_gift_54 : decode cX12_gift 54 = .ok (.iload_n 1, 1) := by decide +kernel
theorem dX12_gift_55 : decode cX12_gift 55 = .ok (.iadd, 1) := by decide +kernel
theorem dX12_gift_56 : decode cX12_gift 56 = .ok (.iaload, 1) := by decide +kernel
theorem dX12_gift_57 : decode cX12_gift 57 = .ok (.ireturn, 1) := by decide +kernel
theorem dX12_gift_58 : decode cX12_gift 58 = .ok (.aload_n 0, 1) := by decide +kernel
theorem dX12_gift_59 : decode cX12_gift 59 = .ok (.getfield 23, 3) := by decide +kernel
theorem dX12_gift_62 : decode cX12_gift 62 = .ok (.bipush 10, 2) := by decide +kernel
theorem dX12_gift_64 : decode cX12_gift 64 = .ok (.iload_n 1, 1) := by decide +kernel
theorem dX12_gift_65 : decode cX12_gift 65 = .ok (.iadd, 1) := by decide +kernel
theorem dX12_gift_66 : decode cX12_gift 66 = .ok (.iaload, 1) := by decide +kernel
theorem dX12_gift_67 : decode cX12_gift 67 = .ok (.ireturn, 1) := by decide +kernel
theorem dX12_gift_68 : decode cX12_gift 68 = .ok (.aload_n 0, 1) := by decide +kernel
theorem dX12_gift_69 : decode cX12_gift 69 = .ok (.getfield 23, 3) := by decide +kernel
theorem dX12_gift_72 : decode cX12_gift 72 = .ok (.bipush 56, 2) := by decide +kernel
theorem dX12_gift_74 : decode cX12_gift 74 = .ok (.iload_n 1, 1) := by decide +kernel
theorem dX12_gift_75 : decode cX12_gift 75 = .ok (.iadd, 1) := by decide +kernel
theorem dX12_gift_76 : decode cX12_gift 76 = .ok (.iaload, 1) := by decide +kernel
theorem dX12_gift_77 : decode cX12_gift 77 = .ok (.ireturn, 1) := by decide +kernel
theorem dX12_gift_78 : decode cX12_gift 78 = .ok (.aload_n 0, 1) := by decide +kernel
theorem dX12_gift_79 : decode cX12_gift 79 = .ok (.getfield 23, 3) := by decide +kernel
theorem dX12_gift_82 : decode cX12_gift 82 = .ok (.iconst 2, 1) := by decide +kernel
theorem dX12_gift_83 : decode cX12_gift 83 = .ok (.iload_n 1, 1) := by decide +kernel
theorem dX12_gift_84 : decode cX12_gift 84 = .ok (.iadd, 1) := by decide +kernel
theorem dX12_gift_85 : decode cX12_gift 85 = .ok (.iaload, 1) := by decide +kernel
theorem dX12_gift_86 : decode cX12_gift 86 = .ok (.ireturn, 1) := by decide +kernel
theorem dX12_gift_87 : decode cX12_gift 87 = .ok (.aload_n 0, 1) := by decide +kernel
theorem dX12_gift_88 : decode cX12_gift 88 = .ok (.getfield 23, 3) := by decide +kernel
theorem dX12_gift_91 : decode cX12_gift 91 = .ok (.bipush 18, 2) := by decide +kernel
theorem dX12_gift_93 : decode cX12_gift 93 = .ok (.iload_n 1, 1) := by decide +kernel
theorem dX12_gift_94 : decode cX12_gift 94 = .ok (.iadd, 1) := by decide +kernel
theorem dX12_gift_95 : decode cX12_gift 95 = .ok (.iaload, 1) := by decide +kernel
theorem dX12_gift_96 : decode cX12_gift 96 = .ok (.ireturn, 1) := by decide +kernel
theorem dX12_gift_97 : decode cX12_gift 97 = .ok (.aload_n 0, 1) := by decide +kernel
theorem dX12_gift_98 : decode cX12_gift 98 = .ok (.getfield 23, 3) := by decide +kernel
theorem dX12_gift_101 : decode cX12_gift 101 = .ok (.iload_n 1, 1) := by decide +kernel
theorem dX12_gift_102 : decode cX12_gift 102 = .ok (.invokestatic 59, 3) := by decide +kernel
theorem dX12_gift_105 : decode cX12_gift 105 = .ok (.ireturn, 1) := by decide +kernel
theorem dX12_gift_106 : decode cX12_gift 106 = .ok (.iconst (-1), 1) := by decide +kernel
theorem dX12_gift_107 : decode cX12_gift 107 = .ok (.ireturn, 1) := by decide +kernel
theorem dX12_room_0 : decode cX12_room 0 = .ok (.iload_n 1, 1) := by decide +kernel
theorem dX12_room_1 : decode cX12_room 1 = .ok (.invokestatic 43, 3) := by decide +kernel
theorem dX12_room_4 : decode cX12_room 4 = .ok (.ifCond .eq 12, 3) := by decide +kernel
theorem dX12_room_7 : decode cX12_room 7 = .ok (.iload_n 2, 1) := by decide +kernel
theorem dX12_room_8 : decode cX12_room 8 = .ok (.iconst 0, 1) := by decide +kernel
theorem dX12_room_9 : decode cX12_room 9 = .ok (.iconst 2, 1) := by decide +kernel
theorem dX12_room_10 : decode cX12_room 10 = .ok (.invokestatic 35, 3) := by decide +kernel
theorem dX12_room_13 : decode cX12_room 13 = .ok (.ifCond .ne 5, 3) := by decide +kernel
theorem dX12_room_16 : decode cX12_room 16 = .ok (.iconst (-1), 1) := by decide +kernel
theorem dX12_room_17 : decode cX12_room 17 = .ok (.ireturn, 1) := by decide +kernel
theorem dX12_room_18 : decode cX12_room 18 = .ok (.iload_n 2, 1) := by decide +kernel
theorem dX12_room_19 : decode cX12_room 19 = .ok (.ifCond .ne 12, 3) := by decide +kernel
theorem dX12_room_22 : decode cX12_room 22 = .ok (.aload_n 0, 1) := by decide +kernel
theorem dX12_room_23 : decode cX12_room 23 = .ok (.getfield 23, 3) := by decide +kernel
theorem dX12_room_26 : decode cX12_room 26 = .ok (.iload_n 1, 1) := by decide +kernel
theorem dX12_room_27 : decode cX12_room 27 = .ok (.invokestatic 63, 3) := by decide +kernel
theorem dX12_room_30 : decode cX12_room 30 = .ok (.ireturn, 1) := by decide +kernel
theorem dX12_room_31 : decode cX12_room 31 = .ok (.iconst 0, 1) := by decide +kernel
theorem dX12_room_32 : decode cX12_room 32 = .ok (.istore_n 3, 1) := by decide +kernel
theorem dX12_room_33 : decode cX12_room 33 = .ok (.iload_n 2, 1) := by decide +kernel
theorem dX12_room_34 : decode cX12_room 34 = .ok (.iconst 1, 1) := by decide +kernel
theorem dX12_room_35 : decode cX12_room 35 = .ok (.if_icmp .ne 7, 3) := by decide +kernel
theorem dX12_room_38 : decode cX12_room 38 = .ok (.iconst 2, 1) := by decide +kernel
theorem dX12_room_39 : decode cX12_room 39 = .ok (.goto 5, 3) := by decide +kernel
theorem dX12_room_42 : decode cX12_room 42 = .ok (.bipush 37, 2) := by decide +kernel
theorem dX12_room_44 : decode cX12_room 44 = .ok (.istore 4, 2) := by decide +kernel
theorem dX12_room_46 : decode cX12_room 46 = .ok (.iconst 0, 1) := by decide +kernel
theorem dX12_room_47 : decode cX12_room 47 = .ok (.istore 5, 2) := by decide +kernel
theorem dX12_room_49 : decode cX12_room 49 = .ok (.iload 5, 2) := by decide +kernel
theorem dX12_room_51 : decode cX12_room 51 = .ok (.aload_n 0, 1) := by decide +kernel
theorem dX12_room_52 : decode cX12_room 52 = .ok (.getfield 23, 3) := by decide +kernel
theorem dX12_room_55 : decode cX12_room 55 = .ok (.iload_n 2, 1) := by decide +kernel
theorem dX12_room_56 : decode cX12_room 56 = .ok (.iconst 1, 1) := by decide +kernel
theorem dX12_room_57 : decode cX12_room 57 = .ok (.if_icmp .ne 8, 3) := by decide +kernel
theorem dX12_room_60 : decode cX12_room 60 = .ok (.bipush 47, 2) := by decide +kernel
theorem dX12_room_62 : decode cX12_room 62 = .ok (.goto 5, 3) := by decide +kernel
theorem dX12_room_65 : decode cX12_room 65 = .ok (.bipush 36, 2) := by decide +kernel
theorem dX12_room_67 : decode cX12_room 67 = .ok (.iaload, 1) := by decide +kernel
theorem dX12_room_68 : decode cX12_room 68 = .ok (.if_icmp .ge 34, 3) := by decide +kernel
theorem dX12_room_71 : decode cX12_room 71 = .ok (.iload_n 3, 1) := by decide +kernel
theorem dX12_room_72 : decode cX12_room 72 = .ok (.aload_n 0, 1) := by decide +kernel
theorem dX12_room_73 : decode cX12_room 73 = .ok (.getfield 23, 3) := by decide +kernel
theorem dX12_room_76 : decode cX12_room 76 = .ok (.iload 4, 2) := by decide +kernel
theorem dX12_room_78 : decode cX12_room 78 = .ok (.iload 5, 2) := by decide +kernel
theorem dX12_room_80 : decode cX12_room 80 = .ok (.iadd, 1) := by decide +kernel
theorem dX12_room_81 : decode cX12_room 81 = .ok (.iaload, 1) := by decide +kernel
theorem dX12_room_82 : decode cX12_room 82 = .ok (.iload_n 1, 1) := by decide +kernel
theorem dX12_room_83 : decode cX12_room 83 = .ok (.if_icmp .ne 10, 3) := by decide +kernel
theorem dX12_room_86 : decode cX12_room 86 = .ok (.iconst 1, 1) := by decide +kernel
theorem dX12_room_87 : decode cX12_room 87 = .ok (.iload 5, 2) := by decide +kernel
theorem dX12_room_89 : decode cX12_room 89 = .ok (.ishl, 1) := by decide +kernel
theorem dX12_room_90 : decode cX12_room 90 = .ok (.goto 4, 3) := by decide +kernel
theorem dX12_room_93 : decode cX12_room 93 = .ok (.iconst 0, 1) := by decide +kernel
theorem dX12_room_94 : decode cX12_room 94 = .ok (.ior, 1) := by decide +kernel
theorem dX12_room_95 : decode cX12_room 95 = .ok (.istore_n 3, 1) := by decide +kernel
theorem dX12_room_96 : decode cX12_room 96 = .ok (.iinc 5 1, 3) := by decide +kernel
theorem dX12_room_99 : decode cX12_room 99 = .ok (.goto (-50), 3) := by decide +kernel
theorem dX12_room_102 : decode cX12_room 102 = .ok (.iload_n 3, 1) := by decide +kernel
theorem dX12_room_103 : decode cX12_room 103 = .ok (.ireturn, 1) := by decide +kernel
theorem dX12_bed_0 : decode cX12_bed 0 = .ok (.aload_n 0, 1) := by decide +kernel
theorem dX12_bed_1 : decode cX12_bed 1 = .ok (.iload_n 1, 1) := by decide +kernel
theorem dX12_bed_2 : decode cX12_bed 2 = .ok (.invokevirtual 66, 3) := by decide +kernel
theorem dX12_bed_5 : decode cX12_bed 5 = .ok (.ifCond .eq 10, 3) := by decide +kernel
theorem dX12_bed_8 : decode cX12_bed 8 = .ok (.iload_n 2, 1) := by decide +kernel
theorem dX12_bed_9 : decode cX12_bed 9 = .ok (.invokestatic 43, 3) := by decide +kernel
theorem dX12_bed_12 : decode cX12_bed 12 = .ok (.ifCond .ne 5, 3) := by decide +kernel
theorem dX12_bed_15 : decode cX12_bed 15 = .ok (.iconst (-1), 1) := by decide +kernel
theorem dX12_bed_16 : decode cX12_bed 16 = .ok (.ireturn, 1) := by decide +kernel
theorem dX12_bed_17 : decode cX12_bed 17 = .ok (.aload_n 0, 1) := by decide +kernel
theorem dX12_bed_18 : decode cX12_bed 18 = .ok (.getfield 23, 3) := by decide +kernel
theorem dX12_bed_21 : decode cX12_bed 21 = .ok (.bipush 37, 2) := by decide +kernel
theorem dX12_bed_23 : decode cX12_bed 23 = .ok (.iload_n 1, 1) := by decide +kernel
theorem dX12_bed_24 : decode cX12_bed 24 = .ok (.iadd, 1) := by decide +kernel
theorem dX12_bed_25 : decode cX12_bed 25 = .ok (.iaload, 1) := by decide +kernel
theorem dX12_bed_26 : decode cX12_bed 26 = .ok (.istore_n 3, 1) := by decide +kernel
theorem dX12_bed_27 : decode cX12_bed 27 = .ok (.aload_n 0, 1) := by decide +kernel
theorem dX12_bed_28 : decode cX12_bed 28 = .ok (.getfield 23, 3) := by decide +kernel
theorem dX12_bed_31 : decode cX12_bed 31 = .ok (.bipush 37, 2) := by decide +kernel
theorem dX12_bed_33 : decode cX12_bed 33 = .ok (.iload_n 1, 1) := by decide +kernel
theorem dX12_bed_34 : decode cX12_bed 34 = .ok (.iadd, 1) := by decide +kernel
theorem dX12_bed_35 : decode cX12_bed 35 = .ok (.iload_n 2, 1) := by decide +kernel
theorem dX12_bed_36 : decode cX12_bed 36 = .ok (.iastore, 1) := by decide +kernel
theorem dX12_bed_37 : decode cX12_bed 37 = .ok (.iload_n 3, 1) := by decide +kernel
theorem dX12_bed_38 : decode cX12_bed 38 = .ok (.ireturn, 1) := by decide +kernel
theorem dX12_type_0 : decode cX12_type 0 = .ok (.iload_n 1, 1) := by decide +kernel
theorem dX12_type_1 : decode cX12_type 1 = .ok (.bipush 32, 2) := by decide +kernel
theorem dX12_type_3 : decode cX12_type 3 = .ok (.bipush 126, 2) := by decide +kernel
theorem dX12_type_5 : decode cX12_type 5 = .ok (.invokestatic 35, 3) := by decide +kernel
theorem dX12_type_8 : decode cX12_type 8 = .ok (.ifCond .ne 5, 3) := by decide +kernel
theorem dX12_type_11 : decode cX12_type 11 = .ok (.iconst (-1), 1) := by decide +kernel
theorem dX12_type_12 : decode cX12_type 12 = .ok (.ireturn, 1) := by decide +kernel
theorem dX12_type_13 : decode cX12_type 13 = .ok (.aload_n 0, 1) := by decide +kernel
theorem dX12_type_14 : decode cX12_type 14 = .ok (.getfield 76, 3) := by decide +kernel
theorem dX12_type_17 : decode cX12_type 17 = .ok (.bipush 80, 2) := by decide +kernel
theorem dX12_type_19 : decode cX12_type 19 = .ok (.if_icmp .ne 6, 3) := by decide +kernel
theorem dX12_type_22 : decode cX12_type 22 = .ok (.bipush (-3), 2) := by decide +kernel
theorem dX12_type_24 : decode cX12_type 24 = .ok (.ireturn, 1) := by decide +kernel
theorem dX12_type_25 : decode cX12_type 25 = .ok (.aload_n 0, 1) := by decide +kernel
theorem dX12_type_26 : decode cX12_type 26 = .ok (.getfield 20, 3) := by decide +kernel
theorem dX12_type_29 : decode cX12_type 29 = .ok (.aload_n 0, 1) := by decide +kernel
theorem dX12_type_30 : decode cX12_type 30 = .ok (.getfield 76, 3) := by decide +kernel
theorem dX12_type_33 : decode cX12_type 33 = .ok (.iload_n 1, 1) := by decide +kernel
theorem dX12_type_34 : decode cX12_type 34 = .ok (.iastore, 1) := by decide +kernel
theorem dX12_type_35 : decode cX12_type 35 = .ok (.aload_n 0, 1) := by decide +kernel
theorem dX12_type_36 : decode cX12_type 36 = .ok (.dup, 1) := by decide +kernel
theorem dX12_type_37 : decode cX12_type 37 = .ok (.getfield 76, 3) := by decide +kernel
theorem dX12_type_40 : decode cX12_type 40 = .ok (.iconst 1, 1) := by decide +kernel
theorem dX12_type_41 : decode cX12_type 41 = .ok (.iadd, 1) := by decide +kernel
theorem dX12_type_42 : decode cX12_type 42 = .ok (.putfield 76, 3) := by decide +kernel
theorem dX12_type_45 : decode cX12_type 45 = .ok (.aload_n 0, 1) := by decide +kernel
theorem dX12_type_46 : decode cX12_type 46 = .ok (.getfield 76, 3) := by decide +kernel
theorem dX12_type_49 : decode cX12_type 49 = .ok (.ireturn, 1) := by decide +kernel
theorem dX12_peek_0 : decode cX12_peek 0 = .ok (.aload_n 0, 1) := by decide +kernel
theorem dX12_peek_1 : decode cX12_peek 1 = .ok (.getfield 80, 3) := by decide +kernel
theorem dX12_peek_4 : decode cX12_peek 4 = .ok (.aload_n 0, 1) := by decide +kernel
theorem dX12_peek_5 : decode cX12_peek 5 = .ok (.getfield 76, 3) := by decide +kernel
theorem dX12_peek_8 : decode cX12_peek 8 = .ok (.if_icmp .ge 30, 3) := by decide +kernel
theorem dX12_peek_11 : decode cX12_peek 11 = .ok (.aload_n 0, 1) := by decide +kernel
theorem dX12_peek_12 : decode cX12_peek 12 = .ok (.getfield 20, 3) := by decide +kernel
theorem dX12_peek_15 : decode cX12_peek 15 = .ok (.aload_n 0, 1) := by decide +kernel
theorem dX12_peek_16 : decode cX12_peek 16 = .ok (.getfield 80, 3) := by decide +kernel
theorem dX12_peek_19 : decode cX12_peek 19 = .ok (.iaload, 1) := by decide +kernel
theorem dX12_peek_20 : decode cX12_peek 20 = .ok (.bipush 32, 2) := by decide +kernel
theorem dX12_peek_22 : decode cX12_peek 22 = .ok (.if_icmp .ne 16, 3) := by decide +kernel
theorem dX12_peek_25 : decode cX12_peek 25 = .ok (.aload_n 0, 1) := by decide +kernel
theorem dX12_peek_26 : decode cX12_peek 26 = .ok (.dup, 1) := by decide +kernel
theorem dX12_peek_27 : decode cX12_peek 27 = .ok (.getfield 80, 3) := by decide +kernel
theorem dX12_peek_30 : decode cX12_peek 30 = .ok (.iconst 1, 1) := by decide +kernel
theorem dX12_peek_31 : decode cX12_peek 31 = .ok (.iadd, 1) := by decide +kernel
theorem dX12_peek_32 : decode cX12_peek 32 = .ok (.putfield 80, 3) := by decide +kernel
theorem dX12_peek_35 : decode cX12_peek 35 = .ok (.goto (-35), 3) := by decide +kernel
theorem dX12_peek_38 : decode cX12_peek 38 = .ok (.aload_n 0, 1) := by decide +kernel
theorem dX12_peek_39 : decode cX12_peek 39 = .ok (.getfield 80, 3) := by decide +kernel
theorem dX12_peek_42 : decode cX12_peek 42 = .ok (.aload_n 0, 1) := by decide +kernel
theorem dX12_peek_43 : decode cX12_peek 43 = .ok (.getfield 76, 3) := by decide +kernel
theorem dX12_peek_46 : decode cX12_peek 46 = .ok (.if_icmp .ge 15, 3) := by decide +kernel
theorem dX12_peek_49 : decode cX12_peek 49 = .ok (.aload_n 0, 1) := by decide +kernel
theorem dX12_peek_50 : decode cX12_peek 50 = .ok (.getfield 20, 3) := by decide +kernel
theorem dX12_peek_53 : decode cX12_peek 53 = .ok (.aload_n 0, 1) := by decide +kernel
theorem dX12_peek_54 : decode cX12_peek 54 = .ok (.getfield 80, 3) := by decide +kernel
theorem dX12_peek_57 : decode cX12_peek 57 = .ok (.iaload, 1) := by decide +kernel
theorem dX12_peek_58 : decode cX12_peek 58 = .ok (.goto 4, 3) := by decide +kernel
theorem dX12_peek_61 : decode cX12_peek 61 = .ok (.iconst 0, 1) := by decide +kernel
theorem dX12_peek_62 : decode cX12_peek 62 = .ok (.ireturn, 1) := by decide +kernel
theorem dX12_isSign_0 : decode cX12_isSign 0 = .ok (.aload_n 0, 1) := by decide +kernel
theorem dX12_isSign_1 : decode cX12_isSign 1 = .ok (.invokevirtual 83, 3) := by decide +kernel
theorem dX12_isSign_4 : decode cX12_isSign 4 = .ok (.iload_n 1, 1) := by decide +kernel
theorem dX12_isSign_5 : decode cX12_isSign 5 = .ok (.if_icmp .eq 5, 3) := by decide +kernel
theorem dX12_isSign_8 : decode cX12_isSign 8 = .ok (.iconst 0, 1) := by decide +kernel
theorem dX12_isSign_9 : decode cX12_isSign 9 = .ok (.ireturn, 1) := by decide +kernel
theorem dX12_isSign_10 : decode cX12_isSign 10 = .ok (.aload_n 0, 1) := by decide +kernel
theorem dX12_isSign_11 : decode cX12_isSign 11 = .ok (.dup, 1) := by decide +kernel
theorem dX12_isSign_12 : decode cX12_isSign 12 = .ok (.getfield 80, 3) := by decide +kernel
theorem dX12_isSign_15 : decode cX12_isSign 15 = .ok (.iconst 1, 1) := by decide +kernel
theorem dX12_isSign_16 : decode cX12_isSign 16 = .ok (.iadd, 1) := by decide +kernel
theorem dX12_isSign_17 : decode cX12_isSign 17 = .ok (.putfield 80, 3) := by decide +kernel
theorem dX12_isSign_20 : decode cX12_isSign 20 = .ok (.iconst 1, 1) := by decide +kernel
theorem dX12_isSign_21 : decode cX12_isSign 21 = .ok (.ireturn, 1) := by decide +kernel
theorem dX12_isDigit_0 : decode cX12_isDigit 0 = .ok (.aload_n 0, 1) := by decide +kernel
theorem dX12_isDigit_1 : decode cX12_isDigit 1 = .ok (.aload_n 0, 1) := by decide +kernel
theorem dX12_isDigit_2 : decode cX12_isDigit 2 = .ok (.invokevirtual 83, 3) := by decide +kernel
theorem dX12_isDigit_5 : decode cX12_isDigit 5 = .ok (.bipush 48, 2) := by decide +kernel
theorem dX12_isDigit_7 : decode cX12_isDigit 7 = .ok (.isub, 1) := by decide +kernel
theorem dX12_isDigit_8 : decode cX12_isDigit 8 = .ok (.putfield 87, 3) := by decide +kernel
theorem dX12_isDigit_11 : decode cX12_isDigit 11 = .ok (.aload_n 0, 1) := by decide +kernel
theorem dX12_isDigit_12 : decode cX12_isDigit 12 = .ok (.getfield 87, 3) := by decide +kernel
theorem dX12_isDigit_15 : decode cX12_isDigit 15 = .ok (.iload_n 1, 1) := by decide +kernel
theorem dX12_isDigit_16 : decode cX12_isDigit 16 = .ok (.iload_n 2, 1) := by decide +kernel
theorem dX12_isDigit_17 : decode cX12_isDigit 17 = .ok (.invokestatic 35, 3) := by decide +kernel
theorem dX12_isDigit_20 : decode cX12_isDigit 20 = .ok (.ifCond .ne 5, 3) := by decide +kernel
theorem dX12_isDigit_23 : decode cX12_isDigit 23 = .ok (.iconst 0, 1) := by decide +kernel
theorem dX12_isDigit_24 : decode cX12_isDigit 24 = .ok (.ireturn, 1) := by decide +kernel
theorem dX12_isDigit_25 : decode cX12_isDigit 25 = .ok (.aload_n 0, 1) := by decide +kernel
theorem dX12_isDigit_26 : decode cX12_isDigit 26 = .ok (.dup, 1) := by decide +kernel
theorem dX12_isDigit_27 : decode cX12_isDigit 27 = .ok (.getfield 80, 3) := by decide +kernel
theorem dX12_isDigit_30 : decode cX12_isDigit 30 = .ok (.iconst 1, 1) := by decide +kernel
theorem dX12_isDigit_31 : decode cX12_isDigit 31 = .ok (.iadd, 1) := by decide +kernel
theorem dX12_isDigit_32 : decode cX12_isDigit 32 = .ok (.putfield 80, 3) := by decide +kernel
theorem dX12_isDigit_35 : decode cX12_isDigit 35 = .ok (.iconst 1, 1) := by decide +kernel
theorem dX12_isDigit_36 : decode cX12_isDigit 36 = .ok (.ireturn, 1) := by decide +kernel
theorem dX12_isNumber_0 : decode cX12_isNumber 0 = .ok (.aload_n 0, 1) := by decide +kernel
theorem dX12_isNumber_1 : decode cX12_isNumber 1 = .ok (.iconst 0, 1) := by decide +kernel
theorem dX12_isNumber_2 : decode cX12_isNumber 2 = .ok (.bipush 9, 2) := by decide +kernel
theorem dX12_isNumber_4 : decode cX12_isNumber 4 = .ok (.invokevirtual 90, 3) := by decide +kernel
theorem dX12_isNumber_7 : decode cX12_isNumber 7 = .ok (.ifCond .ne 5, 3) := by decide +kernel
theorem dX12_isNumber_10 : decode cX12_isNumber 10 = .ok (.iconst 0, 1) := by decide +kernel
theorem dX12_isNumber_11 : decode cX12_isNumber 11 = .ok (.ireturn, 1) := by decide +kernel
theorem dX12_isNumber_12 : decode cX12_isNumber 12 = .ok (.aload_n 0, 1) := by decide +kernel
theorem dX12_isNumber_13 : decode cX12_isNumber 13 = .ok (.getfield 80, 3) := by decide +kernel
theorem dX12_isNumber_16 : decode cX12_isNumber 16 = .ok (.iconst 1, 1) := by decide +kernel
theorem dX12_isNumber_17 : decode cX12_isNumber 17 = .ok (.isub, 1) := by decide +kernel
theorem dX12_isNumber_18 : decode cX12_isNumber 18 = .ok (.istore_n 1, 1) := by decide +kernel
theorem dX12_isNumber_19 : decode cX12_isNumber 19 = .ok (.aload_n 0, 1) := by decide +kernel
theorem dX12_isNumber_20 : decode cX12_isNumber 20 = .ok (.getfield 87, 3) := by decide +kernel
theorem dX12_isNumber_23 : decode cX12_isNumber 23 = .ok (.istore_n 2, 1) := by decide +kernel
theorem dX12_isNumber_24 : decode cX12_isNumber 24 = .ok (.aload_n 0, 1) := by decide +kernel
theorem dX12_isNumber_25 : decode cX12_isNumber 25 = .ok (.getfield 80, 3) := by decide +kernel
theorem dX12_isNumber_28 : decode cX12_isNumber 28 = .ok (.aload_n 0, 1) := by decide +kernel
theorem dX12_isNumber_29 : decode cX12_isNumber 29 = .ok (.getfield 76, 3) := by decide +kernel
theorem dX12_isNumber_32 : decode cX12_isNumber 32 = .ok (.if_icmp .ge 50, 3) := by decide +kernel
theorem dX12_isNumber_35 : decode cX12_isNumber 35 = .ok (.aload_n 0, 1) := by decide +kernel
theorem dX12_isNumber_36 : decode cX12_isNumber 36 = .ok (.getfield 20, 3) := by decide +kernel
theorem dX12_isNumber_39 : decode cX12_isNumber 39 = .ok (.aload_n 0, 1) := by decide +kernel
theorem dX12_isNumber_40 : decode cX12_isNumber 40 = .ok (.getfield 80, 3) := by decide +kernel
theorem dX12_isNumber_43 : decode cX12_isNumber 43 = .ok (.iaload, 1) := by decide +kernel
theorem dX12_isNumber_44 : decode cX12_isNumber 44 = .ok (.bipush 48, 2) := by decide +kernel
theorem dX12_isNumber_46 : decode cX12_isNumber 46 = .ok (.bipush 57, 2) := by decide +kernel
theorem dX12_isNumber_48 : decode cX12_isNumber 48 = .ok (.invokestatic 35, 3) := by decide +kernel
theorem dX12_isNumber_51 : decode cX12_isNumber 51 = .ok (.ifCond .eq 31, 3) := by decide +kernel
theorem dX12_isNumber_54 : decode cX12_isNumber 54 = .ok (.bipush 10, 2) := by decide +kernel
theorem dX12_isNumber_56 : decode cX12_isNumber 56 = .ok (.iload_n 2, 1) := by decide +kernel
theorem dX12_isNumber_57 : decode cX12_isNumber 57 = .ok (.imul, 1) := by decide +kernel
theorem dX12_isNumber_58 : decode cX12_isNumber 58 = .ok (.aload_n 0, 1) := by decide +kernel
theorem dX12_isNumber_59 : decode cX12_isNumber 59 = .ok (.getfield 20, 3) := by decide +kernel
theorem dX12_isNumber_62 : decode cX12_isNumber 62 = .ok (.aload_n 0, 1) := by decide +kernel
theorem dX12_isNumber_63 : decode cX12_isNumber 63 = .ok (.getfield 80, 3) := by decide +kernel
theorem dX12_isNumber_66 : decode cX12_isNumber 66 = .ok (.iaload, 1) := by decide +kernel
theorem dX12_isNumber_67 : decode cX12_isNumber 67 = .ok (.iadd, 1) := by decide +kernel
theorem dX12_isNumber_68 : decode cX12_isNumber 68 = .ok (.bipush 48, 2) := by decide +kernel
theorem dX12_isNumber_70 : decode cX12_isNumber 70 = .ok (.isub, 1) := by decide +kernel
theorem dX12_isNumber_71 : decode cX12_isNumber 71 = .ok (.istore_n 2, 1) := by decide +kernel
theorem dX12_isNumber_72 : decode cX12_isNumber 72 = .ok (.aload_n 0, 1) := by decide +kernel
theorem dX12_isNumber_73 : decode cX12_isNumber 73 = .ok (.dup, 1) := by decide +kernel
theorem dX12_isNumber_74 : decode cX12_isNumber 74 = .ok (.getfield 80, 3) := by decide +kernel
theorem dX12_isNumber_77 : decode cX12_isNumber 77 = .ok (.iconst 1, 1) := by decide +kernel
theorem dX12_isNumber_78 : decode cX12_isNumber 78 = .ok (.iadd, 1) := by decide +kernel
theorem dX12_isNumber_79 : decode cX12_isNumber 79 = .ok (.putfield 80, 3) := by decide +kernel
theorem dX12_isNumber_82 : decode cX12_isNumber 82 = .ok (.aload_n 0, 1) := by decide +kernel
theorem dX12_isNumber_83 : decode cX12_isNumber 83 = .ok (.iload_n 2, 1) := by decide +kernel
theorem dX12_isNumber_84 : decode cX12_isNumber 84 = .ok (.putfield 87, 3) := by decide +kernel
theorem dX12_isNumber_87 : decode cX12_isNumber 87 = .ok (.aload_n 0, 1) := by decide +kernel
theorem dX12_isNumber_88 : decode cX12_isNumber 88 = .ok (.iload_n 2, 1) := by decide +kernel
theorem dX12_isNumber_89 : decode cX12_isNumber 89 = .ok (.bipush 60, 2) := by decide +kernel
theorem dX12_isNumber_91 : decode cX12_isNumber 91 = .ok (.if_icmp .le 7, 3) := by decide +kernel
theorem dX12_isNumber_94 : decode cX12_isNumber 94 = .ok (.iload_n 1, 1) := by decide +kernel
theorem dX12_isNumber_95 : decode cX12_isNumber 95 = .ok (.goto 7, 3) := by decide +kernel
theorem dX12_isNumber_98 : decode cX12_isNumber 98 = .ok (.aload_n 0, 1) := by decide +kernel
theorem dX12_isNumber_99 : decode cX12_isNumber 99 = .ok (.getfield 80, 3) := by decide +kernel
theorem dX12_isNumber_102 : decode cX12_isNumber 102 = .ok (.putfield 80, 3) := by decide +kernel
theorem dX12_isNumber_105 : decode cX12_isNumber 105 = .ok (.iload_n 2, 1) := by decide +kernel
theorem dX12_isNumber_106 : decode cX12_isNumber 106 = .ok (.bipush 60, 2) := by decide +kernel
theorem dX12_isNumber_108 : decode cX12_isNumber 108 = .ok (.if_icmp .gt 7, 3) := by decide +kernel
theorem dX12_isNumber_111 : decode cX12_isNumber 111 = .ok (.iconst 1, 1) := by decide +kernel
theorem dX12_isNumber_112 : decode cX12_isNumber 112 = .ok (.goto 4, 3) := by decide +kernel
theorem dX12_isNumber_115 : decode cX12_isNumber 115 = .ok (.iconst 0, 1) := by decide +kernel
theorem dX12_isNumber_116 : decode cX12_isNumber 116 = .ok (.ireturn, 1) := by decide +kernel
theorem dX12_isSleeperItem_0 : decode cX12_isSleeperItem 0 = .ok (.aload_n 0, 1) := by decide +kernel
theorem dX12_isSleeperItem_1 : decode cX12_isSleeperItem 1 = .ok (.iconst 0, 1) := by decide +kernel
theorem dX12_isSleeperItem_2 : decode cX12_isSleeperItem 2 = .ok (.iconst 3, 1) := by decide +kernel
theorem dX12_isSleeperItem_3 : decode cX12_isSleeperItem 3 = .ok (.invokevirtual 90, 3) := by decide +kernel
theorem dX12_isSleeperItem_6 : decode cX12_isSleeperItem 6 = .ok (.ifCond .ne 5, 3) := by decide +kernel
theorem dX12_isSleeperItem_9 : decode cX12_isSleeperItem 9 = .ok (.iconst 0, 1) := by decide +kernel
theorem dX12_isSleeperItem_10 : decode cX12_isSleeperItem 10 = .ok (.ireturn, 1) := by decide +kernel
theorem dX12_isSleeperItem_11 : decode cX12_isSleeperItem 11 = .ok (.aload_n 0, 1) := by decide +kernel
theorem dX12_isSleeperItem_12 : decode cX12_isSleeperItem 12 = .ok (.getfield 87, 3) := by decide +kernel
theorem dX12_isSleeperItem_15 : decode cX12_isSleeperItem 15 = .ok (.istore_n 1, 1) := by decide +kernel
theorem dX12_isSleeperItem_16 : decode cX12_isSleeperItem 16 = .ok (.aload_n 0, 1) := by decide +kernel
theorem dX12_isSleeperItem_17 : decode cX12_isSleeperItem 17 = .ok (.bipush 58, 2) := by decide +kernel
theorem dX12_isSleeperItem_19 : decode cX12_isSleeperItem 19 = .ok (.invokevirtual 94, 3) := by decide +kernel
theorem dX12_isSleeperItem_22 : decode cX12_isSleeperItem 22 = .ok (.ifCond .eq 10, 3) := by decide +kernel
theorem dX12_isSleeperItem_25 : decode cX12_isSleeperItem 25 = .ok (.aload_n 0, 1) := by decide +kernel
theorem dX12_isSleeperItem_26 : decode cX12_isSleeperItem 26 = .ok (.invokevirtual 97, 3) := by decide +kernel
theorem dX12_isSleeperItem_29 : decode cX12_isSleeperItem 29 = .ok (.ifCond .ne 5, 3) := by decide +kernel
theorem dX12_isSleeperItem_32 : decode cX12_isSleeperItem 32 = .ok (.iconst 0, 1) := by decide +kernel
theorem dX12_isSleeperItem_33 : decode cX12_isSleeperItem 33 = .ok (.ireturn, 1) := by decide +kernel
theorem dX12_isSleeperItem_34 : decode cX12_isSleeperItem 34 = .ok (.aload_n 0, 1) := by decide +kernel
theorem dX12_isSleeperItem_35 : decode cX12_isSleeperItem 35 = .ok (.getfield 29, 3) := by decide +kernel
theorem dX12_isSleeperItem_38 : decode cX12_isSleeperItem 38 = .ok (.iload_n 1, 1) := by decide +kernel
theorem dX12_isSleeperItem_39 : decode cX12_isSleeperItem 39 = .ok (.aload_n 0, 1) := by decide +kernel
theorem dX12_isSleeperItem_40 : decode cX12_isSleeperItem 40 = .ok (.getfield 87, 3) := by decide +kernel
theorem dX12_isSleeperItem_43 : decode cX12_isSleeperItem 43 = .ok (.invokestatic 47, 3) := by decide +kernel
theorem dX12_isSleeperItem_46 : decode cX12_isSleeperItem 46 = .ok (.pop, 1) := by decide +kernel
theorem dX12_isSleeperItem_47 : decode cX12_isSleeperItem 47 = .ok (.iconst 1, 1) := by decide +kernel
theorem dX12_isSleeperItem_48 : decode cX12_isSleeperItem 48 = .ok (.ireturn, 1) := by decide +kernel
theorem dX12_kindBy_0 : decode cX12_kindBy 0 = .ok (.iload_n 0, 1) := by decide +kernel
theorem dX12_kindBy_1 : decode cX12_kindBy 1 = .ok (.bipush 112, 2) := by decide +kernel
theorem dX12_kindBy_3 : decode cX12_kindBy 3 = .ok (.if_icmp .ne 7, 3) := by decide +kernel
theorem dX12_kindBy_6 : decode cX12_kindBy 6 = .ok (.iconst 0, 1) := by decide +kernel
theorem dX12_kindBy_7 : decode cX12_kindBy 7 = .ok (.goto 44, 3) := by decide +kernel
theorem dX12_kindBy_10 : decode cX12_kindBy 10 = .ok (.iload_n 0, 1) := by decide +kernel
theorem dX12_kindBy_11 : decode cX12_kindBy 11 = .ok (.bipush 102, 2) := by decide +kernel
theorem dX12_kindBy_13 : decode cX12_kindBy 13 = .ok (.if_icmp .ne 7, 3) := by decide +kernel
theorem dX12_kindBy_16 : decode cX12_kindBy 16 = .ok (.iconst 1, 1) := by decide +kernel
theorem dX12_kindBy_17 : decode cX12_kindBy 17 = .ok (.goto 34, 3) := by decide +kernel
theorem dX12_kindBy_20 : decode cX12_kindBy 20 = .ok (.iload_n 0, 1) := by decide +kernel
theorem dX12_kindBy_21 : decode cX12_kindBy 21 = .ok (.bipush 99, 2) := by decide +kernel
theorem dX12_kindBy_23 : decode cX12_kindBy 23 = .ok (.if_icmp .ne 7, 3) := by decide +kernel
theorem dX12_kindBy_26 : decode cX12_kindBy 26 = .ok (.iconst 2, 1) := by decide +kernel
theorem dX12_kindBy_27 : decode cX12_kindBy 27 = .ok (.goto 24, 3) := by decide +kernel
theorem dX12_kindBy_30 : decode cX12_kindBy 30 = .ok (.iload_n 0, 1) := by decide +kernel
theorem dX12_kindBy_31 : decode cX12_kindBy 31 = .ok (.bipush 116, 2) := by decide +kernel
theorem dX12_kindBy_33 : decode cX12_kindBy 33 = .ok (.if_icmp .ne 7, 3) := by decide +kernel
theorem dX12_kindBy_36 : decode cX12_kindBy 36 = .ok (.iconst 3, 1) := by decide +kernel
theorem dX12_kindBy_37 : decode cX12_kindBy 37 = .ok (.goto 14, 3) := by decide +kernel
theorem dX12_kindBy_40 : decode cX12_kindBy 40 = .ok (.iload_n 0, 1) := by decide +kernel
theorem dX12_kindBy_41 : decode cX12_kindBy 41 = .ok (.bipush 104, 2) := by decide +kernel
theorem dX12_kindBy_43 : decode cX12_kindBy 43 = .ok (.if_icmp .ne 7, 3) := by decide +kernel
theorem dX12_kindBy_46 : decode cX12_kindBy 46 = .ok (.iconst 4, 1) := by decide +kernel
theorem dX12_kindBy_47 : decode cX12_kindBy 47 = .ok (.goto 4, 3) := by decide +kernel
theorem dX12_kindBy_50 : decode cX12_kindBy 50 = .ok (.iconst (-1), 1) := by decide +kernel
theorem dX12_kindBy_51 : decode cX12_kindBy 51 = .ok (.ireturn, 1) := by decide +kernel
theorem dX12_isThingItem_0 : decode cX12_isThingItem 0 = .ok (.aload_n 0, 1) := by decide +kernel
theorem dX12_isThingItem_1 : decode cX12_isThingItem 1 = .ok (.invokevirtual 83, 3) := by decide +kernel
theorem dX12_isThingItem_4 : decode cX12_isThingItem 4 = .ok (.invokestatic 101, 3) := by decide +kernel
theorem dX12_isThingItem_7 : decode cX12_isThingItem 7 = .ok (.istore_n 1, 1) := by decide +kernel
theorem dX12_isThingItem_8 : decode cX12_isThingItem 8 = .ok (.iload_n 1, 1) := by decide +kernel
theorem dX12_isThingItem_9 : decode cX12_isThingItem 9 = .ok (.ifCond .ge 5, 3) := by decide +kernel
theorem dX12_isThingItem_12 : decode cX12_isThingItem 12 = .ok (.iconst 0, 1) := by decide +kernel
theorem dX12_isThingItem_13 : decode cX12_isThingItem 13 = .ok (.ireturn, 1) := by decide +kernel
theorem dX12_isThingItem_14 : decode cX12_isThingItem 14 = .ok (.aload_n 0, 1) := by decide +kernel
theorem dX12_isThingItem_15 : decode cX12_isThingItem 15 = .ok (.dup, 1) := by decide +kernel
theorem dX12_isThingItem_16 : decode cX12_isThingItem 16 = .ok (.getfield 80, 3) := by decide +kernel
theorem dX12_isThingItem_19 : decode cX12_isThingItem 19 = .ok (.iconst 1, 1) := by decide +kernel
theorem dX12_isThingItem_20 : decode cX12_isThingItem 20 = .ok (.iadd, 1) := by decide +kernel
theorem dX12_isThingItem_21 : decode cX12_isThingItem 21 = .ok (.putfield 80, 3) := by decide +kernel
theorem dX12_isThingItem_24 : decode cX12_isThingItem 24 = .ok (.aload_n 0, 1) := by decide +kernel
theorem dX12_isThingItem_25 : decode cX12_isThingItem 25 = .ok (.iconst 0, 1) := by decide +kernel
theorem dX12_isThingItem_26 : decode cX12_isThingItem 26 = .ok (.bipush 9, 2) := by decide +kernel
theorem dX12_isThingItem_28 : decode cX12_isThingItem 28 = .ok (.invokevirtual 90, 3) := by decide +kernel
theorem dX12_isThingItem_31 : decode cX12_isThingItem 31 = .ok (.ifCond .ne 5, 3) := by decide +kernel
theorem dX12_isThingItem_34 : decode cX12_isThingItem 34 = .ok (.iconst 0, 1) := by decide +kernel
theorem dX12_isThingItem_35 : decode cX12_isThingItem 35 = .ok (.ireturn, 1) := by decide +kernel
theorem dX12_isThingItem_36 : decode cX12_isThingItem 36 = .ok (.aload_n 0, 1) := by decide +kernel
theorem dX12_isThingItem_37 : decode cX12_isThingItem 37 = .ok (.getfield 87, 3) := by decide +kernel
theorem dX12_isThingItem_40 : decode cX12_isThingItem 40 = .ok (.istore_n 2, 1) := by decide +kernel
theorem dX12_isThingItem_41 : decode cX12_isThingItem 41 = .ok (.aload_n 0, 1) := by decide +kernel
theorem dX12_isThingItem_42 : decode cX12_isThingItem 42 = .ok (.iconst 1, 1) := by decide +kernel
theorem dX12_isThingItem_43 : decode cX12_isThingItem 43 = .ok (.bipush 9, 2) := by decide +kernel
theorem dX12_isThingItem_45 : decode cX12_isThingItem 45 = .ok (.invokevirtual 90, 3) := by decide +kernel
theorem dX12_isThingItem_48 : decode cX12_isThingItem 48 = .ok (.ifCond .ne 5, 3) := by decide +kernel
theorem dX12_isThingItem_51 : decode cX12_isThingItem 51 = .ok (.iconst 0, 1) := by decide +kernel
theorem dX12_isThingItem_52 : decode cX12_isThingItem 52 = .ok (.ireturn, 1) := by decide +kernel
theorem dX12_isThingItem_53 : decode cX12_isThingItem 53 = .ok (.aload_n 0, 1) := by decide +kernel
theorem dX12_isThingItem_54 : decode cX12_isThingItem 54 = .ok (.getfield 87, 3) := by decide +kernel
theorem dX12_isThingItem_57 : decode cX12_isThingItem 57 = .ok (.istore_n 3, 1) := by decide +kernel
theorem dX12_isThingItem_58 : decode cX12_isThingItem 58 = .ok (.aload_n 0, 1) := by decide +kernel
theorem dX12_isThingItem_59 : decode cX12_isThingItem 59 = .ok (.iconst 0, 1) := by decide +kernel
theorem dX12_isThingItem_60 : decode cX12_isThingItem 60 = .ok (.iconst 3, 1) := by decide +kernel
theorem dX12_isThingItem_61 : decode cX12_isThingItem 61 = .ok (.invokevirtual 90, 3) := by decide +kernel
theorem dX12_isThingItem_64 : decode cX12_isThingItem 64 = .ok (.ifCond .ne 5, 3) := by decide +kernel
theorem dX12_isThingItem_67 : decode cX12_isThingItem 67 = .ok (.iconst 0, 1) := by decide +kernel
theorem dX12_isThingItem_68 : decode cX12_isThingItem 68 = .ok (.ireturn, 1) := by decide +kernel
theorem dX12_isThingItem_69 : decode cX12_isThingItem 69 = .ok (.aload_n 0, 1) := by decide +kernel
theorem dX12_isThingItem_70 : decode cX12_isThingItem 70 = .ok (.getfield 29, 3) := by decide +kernel
theorem dX12_isThingItem_73 : decode cX12_isThingItem 73 = .ok (.iload_n 1, 1) := by decide +kernel
theorem dX12_isThingItem_74 : decode cX12_isThingItem 74 = .ok (.iload_n 2, 1) := by decide +kernel
theorem dX12_isThingItem_75 : decode cX12_isThingItem 75 = .ok (.iload_n 3, 1) := by decide +kernel
theorem dX12_isThingItem_76 : decode cX12_isThingItem 76 = .ok (.aload_n 0, 1) := by decide +kernel
theorem dX12_isThingItem_77 : decode cX12_isThingItem 77 = .ok (.getfield 87, 3) := by decide +kernel
theorem dX12_isThingItem_80 : decode cX12_isThingItem 80 = .ok (.invokestatic 51, 3) := by decide +kernel
theorem dX12_isThingItem_83 : decode cX12_isThingItem 83 = .ok (.pop, 1) := by decide +kernel
theorem dX12_isThingItem_84 : decode cX12_isThingItem 84 = .ok (.iconst 1, 1) := by decide +kernel
theorem dX12_isThingItem_85 : decode cX12_isThingItem 85 = .ok (.ireturn, 1) := by decide +kernel
theorem dX12_isHouse_0 : decode cX12_isHouse 0 = .ok (.iconst 1, 1) := by decide +kernel
theorem dX12_isHouse_1 : decode cX12_isHouse 1 = .ok (.istore_n 1, 1) := by decide +kernel
theorem dX12_isHouse_2 : decode cX12_isHouse 2 = .ok (.iload_n 1, 1) := by decide +kernel
theorem dX12_isHouse_3 : decode cX12_isHouse 3 = .ok (.ifCond .eq 41, 3) := by decide +kernel
theorem dX12_isHouse_6 : decode cX12_isHouse 6 = .ok (.aload_n 0, 1) := by decide +kernel
theorem dX12_isHouse_7 : decode cX12_isHouse 7 = .ok (.invokevirtual 104, 3) := by decide +kernel
theorem dX12_isHouse_10 : decode cX12_isHouse 10 = .ok (.ifCond .ne 5, 3) := by decide +kernel
theorem dX12_isHouse_13 : decode cX12_isHouse 13 = .ok (.iconst 0, 1) := by decide +kernel
theorem dX12_isHouse_14 : decode cX12_isHouse 14 = .ok (.ireturn, 1) := by decide +kernel
theorem dX12_isHouse_15 : decode cX12_isHouse 15 = .ok (.aload_n 0, 1) := by decide +kernel
theorem dX12_isHouse_16 : decode cX12_isHouse 16 = .ok (.getfield 29, 3) := by decide +kernel
theorem dX12_isHouse_19 : decode cX12_isHouse 19 = .ok (.bipush 36, 2) := by decide +kernel
theorem dX12_isHouse_21 : decode cX12_isHouse 21 = .ok (.iaload, 1) := by decide +kernel
theorem dX12_isHouse_22 : decode cX12_isHouse 22 = .ok (.iconst 5, 1) := by decide +kernel
theorem dX12_isHouse_23 : decode cX12_isHouse 23 = .ok (.if_icmp .ge 16, 3) := by decide +kernel
theorem dX12_isHouse_26 : decode cX12_isHouse 26 = .ok (.aload_n 0, 1) := by decide +kernel
theorem dX12_isHouse_27 : decode cX12_isHouse 27 = .ok (.bipush 44, 2) := by decide +kernel
theorem dX12_isHouse_29 : decode cX12_isHouse 29 = .ok (.invokevirtual 94, 3) := by decide +kernel
theorem dX12_isHouse_32 : decode cX12_isHouse 32 = .ok (.ifCond .eq 7, 3) := by decide +kernel
theorem dX12_isHouse_35 : decode cX12_isHouse 35 = .ok (.iconst 1, 1) := by decide +kernel
theorem dX12_isHouse_36 : decode cX12_isHouse 36 = .ok (.goto 4, 3) := by decide +kernel
theorem dX12_isHouse_39 : decode cX12_isHouse 39 = .ok (.iconst 0, 1) := by decide +kernel
theorem dX12_isHouse_40 : decode cX12_isHouse 40 = .ok (.istore_n 1, 1) := by decide +kernel
theorem dX12_isHouse_41 : decode cX12_isHouse 41 = .ok (.goto (-39), 3) := by decide +kernel
theorem dX12_isHouse_44 : decode cX12_isHouse 44 = .ok (.aload_n 0, 1) := by decide +kernel
theorem dX12_isHouse_45 : decode cX12_isHouse 45 = .ok (.bipush 59, 2) := by decide +kernel
theorem dX12_isHouse_47 : decode cX12_isHouse 47 = .ok (.invokevirtual 94, 3) := by decide +kernel
theorem dX12_isHouse_50 : decode cX12_isHouse 50 = .ok (.istore_n 1, 1) := by decide +kernel
theorem dX12_isHouse_51 : decode cX12_isHouse 51 = .ok (.iload_n 1, 1) := by decide +kernel
theorem dX12_isHouse_52 : decode cX12_isHouse 52 = .ok (.ifCond .eq 42, 3) := by decide +kernel
theorem dX12_isHouse_55 : decode cX12_isHouse 55 = .ok (.aload_n 0, 1) := by decide +kernel
theorem dX12_isHouse_56 : decode cX12_isHouse 56 = .ok (.invokevirtual 107, 3) := by decide +kernel
theorem dX12_isHouse_59 : decode cX12_isHouse 59 = .ok (.ifCond .ne 5, 3) := by decide +kernel
theorem dX12_isHouse_62 : decode cX12_isHouse 62 = .ok (.iconst 0, 1) := by decide +kernel
theorem dX12_isHouse_63 : decode cX12_isHouse 63 = .ok (.ireturn, 1) := by decide +kernel
theorem dX12_isHouse_64 : decode cX12_isHouse 64 = .ok (.aload_n 0, 1) := by decide +kernel
theorem dX12_isHouse_65 : decode cX12_isHouse 65 = .ok (.getfield 29, 3) := by decide +kernel
theorem dX12_isHouse_68 : decode cX12_isHouse 68 = .ok (.bipush 47, 2) := by decide +kernel
theorem dX12_isHouse_70 : decode cX12_isHouse 70 = .ok (.iaload, 1) := by decide +kernel
theorem dX12_isHouse_71 : decode cX12_isHouse 71 = .ok (.bipush 8, 2) := by decide +kernel
theorem dX12_isHouse_73 : decode cX12_isHouse 73 = .ok (.if_icmp .ge 16, 3) := by decide +kernel
theorem dX12_isHouse_76 : decode cX12_isHouse 76 = .ok (.aload_n 0, 1) := by decide +kernel
theorem dX12_isHouse_77 : decode cX12_isHouse 77 = .ok (.bipush 44, 2) := by decide +kernel
theorem dX12_isHouse_79 : decode cX12_isHouse 79 = .ok (.invokevirtual 94, 3) := by decide +kernel
theorem dX12_isHouse_82 : decode cX12_isHouse 82 = .ok (.ifCond .eq 7, 3) := by decide +kernel
theorem dX12_isHouse_85 : decode cX12_isHouse 85 = .ok (.iconst 1, 1) := by decide +kernel
theorem dX12_isHouse_86 : decode cX12_isHouse 86 = .ok (.goto 4, 3) := by decide +kernel
theorem dX12_isHouse_89 : decode cX12_isHouse 89 = .ok (.iconst 0, 1) := by decide +kernel
theorem dX12_isHouse_90 : decode cX12_isHouse 90 = .ok (.istore_n 1, 1) := by decide +kernel
theorem dX12_isHouse_91 : decode cX12_isHouse 91 = .ok (.goto (-40), 3) := by decide +kernel
theorem dX12_isHouse_94 : decode cX12_isHouse 94 = .ok (.aload_n 0, 1) := by decide +kernel
theorem dX12_isHouse_95 : decode cX12_isHouse 95 = .ok (.invokevirtual 83, 3) := by decide +kernel
theorem dX12_isHouse_98 : decode cX12_isHouse 98 = .ok (.ifCond .ne 7, 3) := by decide +kernel
theorem dX12_isHouse_101 : decode cX12_isHouse 101 = .ok (.iconst 1, 1) := by decide +kernel
theorem dX12_isHouse_102 : decode cX12_isHouse 102 = .ok (.goto 4, 3) := by decide +kernel
theorem dX12_isHouse_105 : decode cX12_isHouse 105 = .ok (.iconst 0, 1) := by decide +kernel
theorem dX12_isHouse_106 : decode cX12_isHouse 106 = .ok (.ireturn, 1) := by decide +kernel
theorem dX12_house_0 : decode cX12_house 0 = .ok (.iconst 0, 1) := by decide +kernel
theorem dX12_house_1 : decode cX12_house 1 = .ok (.istore_n 1, 1) := by decide +kernel
theorem dX12_house_2 : decode cX12_house 2 = .ok (.iload_n 1, 1) := by decide +kernel
theorem dX12_house_3 : decode cX12_house 3 = .ok (.sipush 353, 3) := by decide +kernel
theorem dX12_house_6 : decode cX12_house 6 = .ok (.if_icmp .ge 16, 3) := by decide +kernel
theorem dX12_house_9 : decode cX12_house 9 = .ok (.aload_n 0, 1) := by decide +kernel
theorem dX12_house_10 : decode cX12_house 10 = .ok (.getfield 29, 3) := by decide +kernel
theorem dX12_house_13 : decode cX12_house 13 = .ok (.iload_n 1, 1) := by decide +kernel
theorem dX12_house_14 : decode cX12_house 14 = .ok (.iconst 0, 1) := by decide +kernel
theorem dX12_house_15 : decode cX12_house 15 = .ok (.iastore, 1) := by decide +kernel
theorem dX12_house_16 : decode cX12_house 16 = .ok (.iinc 1 1, 3) := by decide +kernel
theorem dX12_house_19 : decode cX12_house 19 = .ok (.goto (-17), 3) := by decide +kernel
theorem dX12_house_22 : decode cX12_house 22 = .ok (.aload_n 0, 1) := by decide +kernel
theorem dX12_house_23 : decode cX12_house 23 = .ok (.getfield 29, 3) := by decide +kernel
theorem dX12_house_26 : decode cX12_house 26 = .ok (.iconst 1, 1) := by decide +kernel
theorem dX12_house_27 : decode cX12_house 27 = .ok (.aload_n 0, 1) := by decide +kernel
theorem dX12_house_28 : decode cX12_house 28 = .ok (.getfield 23, 3) := by decide +kernel
theorem dX12_house_31 : decode cX12_house 31 = .ok (.iconst 1, 1) := by decide +kernel
theorem dX12_house_32 : decode cX12_house 32 = .ok (.iaload, 1) := by decide +kernel
theorem dX12_house_33 : decode cX12_house 33 = .ok (.iastore, 1) := by decide +kernel
theorem dX12_house_34 : decode cX12_house 34 = .ok (.aload_n 0, 1) := by decide +kernel
theorem dX12_house_35 : decode cX12_house 35 = .ok (.iconst 0, 1) := by decide +kernel
theorem dX12_house_36 : decode cX12_house 36 = .ok (.putfield 80, 3) := by decide +kernel
theorem dX12_house_39 : decode cX12_house 39 = .ok (.aload_n 0, 1) := by decide +kernel
theorem dX12_house_40 : decode cX12_house 40 = .ok (.invokevirtual 110, 3) := by decide +kernel
theorem dX12_house_43 : decode cX12_house 43 = .ok (.istore_n 1, 1) := by decide +kernel
theorem dX12_house_44 : decode cX12_house 44 = .ok (.aload_n 0, 1) := by decide +kernel
theorem dX12_house_45 : decode cX12_house 45 = .ok (.iconst 0, 1) := by decide +kernel
theorem dX12_house_46 : decode cX12_house 46 = .ok (.putfield 76, 3) := by decide +kernel
theorem dX12_house_49 : decode cX12_house 49 = .ok (.iload_n 1, 1) := by decide +kernel
theorem dX12_house_50 : decode cX12_house 50 = .ok (.ifCond .ne 11, 3) := by decide +kernel
theorem dX12_house_53 : decode cX12_house 53 = .ok (.bipush (-20), 2) := by decide +kernel
theorem dX12_house_55 : decode cX12_house 55 = .ok (.aload_n 0, 1) := by decide +kernel
theorem dX12_house_56 : decode cX12_house 56 = .ok (.getfield 80, 3) := by decide +kernel
theorem dX12_house_59 : decode cX12_house 59 = .ok (.isub, 1) := by decide +kernel
theorem dX12_house_60 : decode cX12_house 60 = .ok (.ireturn, 1) := by decide +kernel
theorem dX12_house_61 : decode cX12_house 61 = .ok (.aload_n 0, 1) := by decide +kernel
theorem dX12_house_62 : decode cX12_house 62 = .ok (.getfield 29, 3) := by decide +kernel
theorem dX12_house_65 : decode cX12_house 65 = .ok (.iconst 0, 1) := by decide +kernel
theorem dX12_house_66 : decode cX12_house 66 = .ok (.aload_n 0, 1) := by decide +kernel
theorem dX12_house_67 : decode cX12_house 67 = .ok (.getfield 23, 3) := by decide +kernel
theorem dX12_house_70 : decode cX12_house 70 = .ok (.iconst 0, 1) := by decide +kernel
theorem dX12_house_71 : decode cX12_house 71 = .ok (.sipush 353, 3) := by decide +kernel
theorem dX12_house_74 : decode cX12_house 74 = .ok (.invokestatic 113, 3) := by decide +kernel
theorem dX12_house_77 : decode cX12_house 77 = .ok (.aload_n 0, 1) := by decide +kernel
theorem dX12_house_78 : decode cX12_house 78 = .ok (.getfield 23, 3) := by decide +kernel
theorem dX12_house_81 : decode cX12_house 81 = .ok (.bipush 36, 2) := by decide +kernel
theorem dX12_house_83 : decode cX12_house 83 = .ok (.iaload, 1) := by decide +kernel
theorem dX12_house_84 : decode cX12_house 84 = .ok (.ireturn, 1) := by decide +kernel
theorem dX12_count_0 : decode cX12_count 0 = .ok (.iconst 0, 1) := by decide +kernel
theorem dX12_count_1 : decode cX12_count 1 = .ok (.istore_n 2, 1) := by decide +kernel
theorem dX12_count_2 : decode cX12_count 2 = .ok (.iload_n 1, 1) := by decide +kernel
theorem dX12_count_3 : decode cX12_count 3 = .ok (.tableswitch 229 0 8 #[49, 57, 65, 72, 105, 137, 180, 213, 221], 49) := by decide +kernel
theorem dX12_count_52 : decode cX12_count 52 = .ok (.aload_n 0, 1) := by decide +kernel
theorem dX12_count_53 : decode cX12_count 53 = .ok (.getfield 23, 3) := by decide +kernel
theorem dX12_count_56 : decode cX12_count 56 = .ok (.bipush 36, 2) := by decide +kernel
theorem dX12_count_58 : decode cX12_count 58 = .ok (.iaload, 1) := by decide +kernel
theorem dX12_count_59 : decode cX12_count 59 = .ok (.ireturn, 1) := by decide +kernel
theorem dX12_count_60 : decode cX12_count 60 = .ok (.aload_n 0, 1) := by decide +kernel
theorem dX12_count_61 : decode cX12_count 61 = .ok (.getfield 23, 3) := by decide +kernel
theorem dX12_count_64 : decode cX12_count 64 = .ok (.bipush 47, 2) := by decide +kernel
theorem dX12_count_66 : decode cX12_count 66 = .ok (.iaload, 1) := by decide +kernel
theorem dX12_count_67 : decode cX12_count 67 = .ok (.ireturn, 1) := by decide +kernel
theorem dX12_count_68 : decode cX12_count 68 = .ok (.aload_n 0, 1) := by decide +kernel
theorem dX12_count_69 : decode cX12_count 69 = .ok (.getfield 23, 3) := by decide +kernel
theorem dX12_count_72 : decode cX12_count 72 = .ok (.iconst 0, 1) := by decide +kernel
theorem dX12_count_73 : decode cX12_count 73 = .ok (.iaload, 1) := by decide +kernel
theorem dX12_count_74 : decode cX12_count 74 = .ok (.ireturn, 1) := by decide +kernel
theorem dX12_count_75 : decode cX12_count 75 = .ok (.iconst 0, 1) := by decide +kernel
theorem dX12_count_76 : decode cX12_count 76 = .ok (.istore_n 3, 1) := by decide +kernel
theorem dX12_count_77 : decode cX12_count 77 = .ok (.iload_n 3, 1) := by decide +kernel
theorem dX12_count_78 : decode cX12_count 78 = .ok (.aload_n 0, 1) := by decide +kernel
theorem dX12_count_79 : decode cX12_count 79 = .ok (.getfield 23, 3) := by decide +kernel
theorem dX12_count_82 : decode cX12_count 82 = .ok (.bipush 47, 2) := by decide +kernel
theorem dX12_count_84 : decode cX12_count 84 = .ok (.iaload, 1) := by decide +kernel
theorem dX12_count_85 : decode cX12_count 85 = .ok (.if_icmp .ge 21, 3) := by decide +kernel
theorem dX12_count_88 : decode cX12_count 88 = .ok (.iload_n 2, 1) := by decide +kernel
theorem dX12_count_89 : decode cX12_count 89 = .ok (.aload_n 0, 1) := by decide +kernel
theorem dX12_count_90 : decode cX12_count 90 = .ok (.getfield 23, 3) := by decide +kernel
theorem dX12_count_93 : decode cX12_count 93 = .ok (.bipush 18, 2) := by decide +kernel
theorem dX12_count_95 : decode cX12_count 95 = .ok (.iload_n 3, 1) := by decide +kernel
theorem dX12_count_96 : decode cX12_count 96 = .ok (.iadd, 1) := by decide +kernel
theorem dX12_count_97 : decode cX12_count 97 = .ok (.iaload, 1) := by decide +kernel
theorem dX12_count_98 : decode cX12_count 98 = .ok (.iadd, 1) := by decide +kernel
theorem dX12_count_99 : decode cX12_count 99 = .ok (.istore_n 2, 1) := by decide +kernel
theorem dX12_count_100 : decode cX12_count 100 = .ok (.iinc 3 1, 3) := by decide +kernel
theorem dX12_count_103 : decode cX12_count 103 = .ok (.goto (-26), 3) := by decide +kernel
theorem dX12_count_106 : decode cX12_count 106 = .ok (.iload_n 2, 1) := by decide +kernel
theorem dX12_count_107 : decode cX12_count 107 = .ok (.ireturn, 1) := by decide +kernel
theorem dX12_count_108 : decode cX12_count 108 = .ok (.iconst 0, 1) := by decide +kernel
theorem dX12_count_109 : decode cX12_count 109 = .ok (.istore_n 3, 1) := by decide +kernel
theorem dX12_count_110 : decode cX12_count 110 = .ok (.iload_n 3, 1) := by decide +kernel
theorem dX12_count_111 : decode cX12_count 111 = .ok (.aload_n 0, 1) := by decide +kernel
theorem dX12_count_112 : decode cX12_count 112 = .ok (.getfield 23, 3) := by decide +kernel
theorem dX12_count_115 : decode cX12_count 115 = .ok (.bipush 47, 2) := by decide +kernel
theorem dX12_count_117 : decode cX12_count 117 = .ok (.iaload, 1) := by decide +kernel
theorem dX12_count_118 : decode cX12_count 118 = .ok (.if_icmp .ge 20, 3) := by decide +kernel
theorem dX12_count_121 : decode cX12_count 121 = .ok (.iload_n 2, 1) := by decide +kernel
theorem dX12_count_122 : decode cX12_count 122 = .ok (.aload_n 0, 1) := by decide +kernel
theorem dX12_count_123 : decode cX12_count 123 = .ok (.getfield 23, 3) := by decide +kernel
theorem dX12_count_126 : decode cX12_count 126 = .ok (.iload_n 3, 1) := by decide +kernel
theorem dX12_count_127 : decode cX12_count 127 = .ok (.invokestatic 59, 3) := by decide +kernel
theorem dX12_count_130 : decode cX12_count 130 = .ok (.iadd, 1) := by decide +kernel
theorem dX12_count_131 : decode cX12_count 131 = .ok (.istore_n 2, 1) := by decide +kernel
theorem dX12_count_132 : decode cX12_count 132 = .ok (.iinc 3 1, 3) := by decide +kernel
theorem dX12_count_135 : decode cX12_count 135 = .ok (.goto (-25), 3) := by decide +kernel
theorem dX12_count_138 : decode cX12_count 138 = .ok (.iload_n 2, 1) := by decide +kernel
theorem dX12_count_139 : decode cX12_count 139 = .ok (.ireturn, 1) := by decide +kernel
theorem dX12_count_140 : decode cX12_count 140 = .ok (.iconst 0, 1) := by decide +kernel
theorem dX12_count_141 : decode cX12_count 141 = .ok (.istore_n 3, 1) := by decide +kernel
theorem dX12_count_142 : decode cX12_count 142 = .ok (.iload_n 3, 1) := by decide +kernel
theorem dX12_count_143 : decode cX12_count 143 = .ok (.aload_n 0, 1) := by decide +kernel
theorem dX12_count_144 : decode cX12_count 144 = .ok (.getfield 23, 3) := by decide +kernel
theorem dX12_count_147 : decode cX12_count 147 = .ok (.bipush 47, 2) := by decide +kernel
theorem dX12_count_149 : decode cX12_count 149 = .ok (.iaload, 1) := by decide +kernel
theorem dX12_count_150 : decode cX12_count 150 = .ok (.if_icmp .ge 31, 3) := by decide +kernel
theorem dX12_count_153 : decode cX12_count 153 = .ok (.iload_n 2, 1) := by decide +kernel
theorem dX12_count_154 : decode cX12_count 154 = .ok (.aload_n 0, 1) := by decide +kernel
theorem dX12_count_155 : decode cX12_count 155 = .ok (.getfield 23, 3) := by decide +kernel
theorem dX12_count_158 : decode cX12_count 158 = .ok (.bipush 18, 2) := by decide +kernel
theorem dX12_count_160 : decode cX12_count 160 = .ok (.iload_n 3, 1) := by decide +kernel
theorem dX12_count_161 : decode cX12_count 161 = .ok (.iadd, 1) := by decide +kernel
theorem dX12_count_162 : decode cX12_count 162 = .ok (.iaload, 1) := by decide +kernel
theorem dX12_count_163 : decode cX12_count 163 = .ok (.ifCond .ne 9, 3) := by decide +kernel
theorem dX12_count_166 : decode cX12_count 166 = .ok (.iconst 1, 1) := by decide +kernel
theorem dX12_count_167 : decode cX12_count 167 = .ok (.iload_n 3, 1) := by decide +kernel
theorem dX12_count_168 : decode cX12_count 168 = .ok (.ishl, 1) := by decide +kernel
theorem dX12_count_169 : decode cX12_count 169 = .ok (.goto 4, 3) := by decide +kernel
theorem dX12_count_172 : decode cX12_count 172 = .ok (.iconst 0, 1) := by decide +kernel
theorem dX12_count_173 : decode cX12_count 173 = .ok (.iadd, 1) := by decide +kernel
theorem dX12_count_174 : decode cX12_count 174 = .ok (.istore_n 2, 1) := by decide +kernel
theorem dX12_count_175 : decode cX12_count 175 = .ok (.iinc 3 1, 3) := by decide +kernel
theorem dX12_count_178 : decode cX12_count 178 = .ok (.goto (-36), 3) := by decide +kernel
theorem dX12_count_181 : decode cX12_count 181 = .ok (.iload_n 2, 1) := by decide +kernel
theorem dX12_count_182 : decode cX12_count 182 = .ok (.ireturn, 1) := by decide +kernel
theorem dX12_count_183 : decode cX12_count 183 = .ok (.iconst 0, 1) := by decide +kernel
theorem dX12_count_184 : decode cX12_count 184 = .ok (.istore_n 3, 1) := by decide +kernel
theorem dX12_count_185 : decode cX12_count 185 = .ok (.iload_n 3, 1) := by decide +kernel
theorem dX12_count_186 : decode cX12_count 186 = .ok (.aload_n 0, 1) := by decide +kernel
theorem dX12_count_187 : decode cX12_count 187 = .ok (.getfield 23, 3) := by decide +kernel
theorem dX12_count_190 : decode cX12_count 190 = .ok (.bipush 36, 2) := by decide +kernel
theorem dX12_count_192 : decode cX12_count 192 = .ok (.iaload, 1) := by decide +kernel
theorem dX12_count_193 : decode cX12_count 193 = .ok (.if_icmp .ge 21, 3) := by decide +kernel
theorem dX12_count_196 : decode cX12_count 196 = .ok (.iload_n 2, 1) := by decide +kernel
theorem dX12_count_197 : decode cX12_count 197 = .ok (.aload_n 0, 1) := by decide +kernel
theorem dX12_count_198 : decode cX12_count 198 = .ok (.getfield 23, 3) := by decide +kernel
theorem dX12_count_201 : decode cX12_count 201 = .ok (.bipush 26, 2) := by decide +kernel
theorem dX12_count_203 : decode cX12_count 203 = .ok (.iload_n 3, 1) := by decide +kernel
theorem dX12_count_204 : decode cX12_count 204 = .ok (.iadd, 1) := by decide +kernel
theorem dX12_count_205 : decode cX12_count 205 = .ok (.iaload, 1) := by decide +kernel
theorem dX12_count_206 : decode cX12_count 206 = .ok (.iadd, 1) := by decide +kernel
theorem dX12_count_207 : decode cX12_count 207 = .ok (.istore_n 2, 1) := by decide +kernel
theorem dX12_count_208 : decode cX12_count 208 = .ok (.iinc 3 1, 3) := by decide +kernel
theorem dX12_count_211 : decode cX12_count 211 = .ok (.goto (-26), 3) := by decide +kernel
theorem dX12_count_214 : decode cX12_count 214 = .ok (.iload_n 2, 1) := by decide +kernel
theorem dX12_count_215 : decode cX12_count 215 = .ok (.ireturn, 1) := by decide +kernel
theorem dX12_count_216 : decode cX12_count 216 = .ok (.aload_n 0, 1) := by decide +kernel
theorem dX12_count_217 : decode cX12_count 217 = .ok (.getfield 23, 3) := by decide +kernel
theorem dX12_count_220 : decode cX12_count 220 = .ok (.invokestatic 117, 3) := by decide +kernel
theorem dX12_count_223 : decode cX12_count 223 = .ok (.ireturn, 1) := by decide +kernel
theorem dX12_count_224 : decode cX12_count 224 = .ok (.aload_n 0, 1) := by decide +kernel
theorem dX12_count_225 : decode cX12_count 225 = .ok (.getfield 23, 3) := by decide +kernel
theorem dX12_count_228 : decode cX12_count 228 = .ok (.bipush 64, 2) := by decide +kernel
theorem dX12_count_230 : decode cX12_count 230 = .ok (.iaload, 1) := by decide +kernel
theorem dX12_count_231 : decode cX12_count 231 = .ok (.ireturn, 1) := by decide +kernel
theorem dX12_count_232 : decode cX12_count 232 = .ok (.iconst (-1), 1) := by decide +kernel
theorem dX12_count_233 : decode cX12_count 233 = .ok (.ireturn, 1) := by decide +kernel
theorem dX12_wokenIn_0 : decode cX12_wokenIn 0 = .ok (.iconst 0, 1) := by decide +kernel
theorem dX12_wokenIn_1 : decode cX12_wokenIn 1 = .ok (.istore_n 1, 1) := by decide +kernel
theorem dX12_wokenIn_2 : decode cX12_wokenIn 2 = .ok (.iconst 0, 1) := by decide +kernel
theorem dX12_wokenIn_3 : decode cX12_wokenIn 3 = .ok (.istore_n 2, 1) := by decide +kernel
theorem dX12_wokenIn_4 : decode cX12_wokenIn 4 = .ok (.iload_n 2, 1) := by decide +kernel
theorem dX12_wokenIn_5 : decode cX12_wokenIn 5 = .ok (.aload_n 0, 1) := by decide +kernel
theorem dX12_wokenIn_6 : decode cX12_wokenIn 6 = .ok (.bipush 36, 2) := by decide +kernel
theorem dX12_wokenIn_8 : decode cX12_wokenIn 8 = .ok (.iaload, 1) := by decide +kernel
theorem dX12_wokenIn_9 : decode cX12_wokenIn 9 = .ok (.if_icmp .ge 18, 3) := by decide +kernel
theorem dX12_wokenIn_12 : decode cX12_wokenIn 12 = .ok (.iload_n 1, 1) := by decide +kernel
theorem dX12_wokenIn_13 : decode cX12_wokenIn 13 = .ok (.aload_n 0, 1) := by decide +kernel
theorem dX12_wokenIn_14 : decode cX12_wokenIn 14 = .ok (.bipush 31, 2) := by decide +kernel
theorem dX12_wokenIn_16 : decode cX12_wokenIn 16 = .ok (.iload_n 2, 1) := by decide +kernel
theorem dX12_wokenIn_17 : decode cX12_wokenIn 17 = .ok (.iadd, 1) := by decide +kernel
theorem dX12_wokenIn_18 : decode cX12_wokenIn 18 = .ok (.iaload, 1) := by decide +kernel
theorem dX12_wokenIn_19 : decode cX12_wokenIn 19 = .ok (.iadd, 1) := by decide +kernel
theorem dX12_wokenIn_20 : decode cX12_wokenIn 20 = .ok (.istore_n 1, 1) := by decide +kernel
theorem dX12_wokenIn_21 : decode cX12_wokenIn 21 = .ok (.iinc 2 1, 3) := by decide +kernel
theorem dX12_wokenIn_24 : decode cX12_wokenIn 24 = .ok (.goto (-20), 3) := by decide +kernel
theorem dX12_wokenIn_27 : decode cX12_wokenIn 27 = .ok (.iload_n 1, 1) := by decide +kernel
theorem dX12_wokenIn_28 : decode cX12_wokenIn 28 = .ok (.ireturn, 1) := by decide +kernel
theorem dX12_note_0 : decode cX12_note 0 = .ok (.aload_n 0, 1) := by decide +kernel
theorem dX12_note_1 : decode cX12_note 1 = .ok (.getfield 23, 3) := by decide +kernel
theorem dX12_note_4 : decode cX12_note 4 = .ok (.bipush 64, 2) := by decide +kernel
theorem dX12_note_6 : decode cX12_note 6 = .ok (.iaload, 1) := by decide +kernel
theorem dX12_note_7 : decode cX12_note 7 = .ok (.bipush 8, 2) := by decide +kernel
theorem dX12_note_9 : decode cX12_note 9 = .ok (.if_icmp .ne 32, 3) := by decide +kernel
theorem dX12_note_12 : decode cX12_note 12 = .ok (.aload_n 0, 1) := by decide +kernel
theorem dX12_note_13 : decode cX12_note 13 = .ok (.getfield 23, 3) := by decide +kernel
theorem dX12_note_16 : decode cX12_note 16 = .ok (.bipush 101, 2) := by decide +kernel
theorem dX12_note_18 : decode cX12_note 18 = .ok (.aload_n 0, 1) := by decide +kernel
theorem dX12_note_19 : decode cX12_note 19 = .ok (.getfield 23, 3) := by decide +kernel
theorem dX12_note_22 : decode cX12_note 22 = .ok (.bipush 65, 2) := by decide +kernel
theorem dX12_note_24 : decode cX12_note 24 = .ok (.sipush 252, 3) := by decide +kernel
theorem dX12_note_27 : decode cX12_note 27 = .ok (.invokestatic 113, 3) := by decide +kernel
theorem dX12_note_30 : decode cX12_note 30 = .ok (.aload_n 0, 1) := by decide +kernel
theorem dX12_note_31 : decode cX12_note 31 = .ok (.getfield 23, 3) := by decide +kernel
theorem dX12_note_34 : decode cX12_note 34 = .ok (.bipush 64, 2) := by decide +kernel
theorem dX12_note_36 : decode cX12_note 36 = .ok (.dup2, 1) := by decide +kernel
theorem dX12_note_37 : decode cX12_note 37 = .ok (.iaload, 1) := by decide +kernel
theorem dX12_note_38 : decode cX12_note 38 = .ok (.iconst 1, 1) := by decide +kernel
theorem dX12_note_39 : decode cX12_note 39 = .ok (.isub, 1) := by decide +kernel
theorem dX12_note_40 : decode cX12_note 40 = .ok (.iastore, 1) := by decide +kernel
theorem dX12_note_41 : decode cX12_note 41 = .ok (.aload_n 0, 1) := by decide +kernel
theorem dX12_note_42 : decode cX12_note 42 = .ok (.getfield 23, 3) := by decide +kernel
theorem dX12_note_45 : decode cX12_note 45 = .ok (.iconst 0, 1) := by decide +kernel
theorem dX12_note_46 : decode cX12_note 46 = .ok (.aload_n 0, 1) := by decide +kernel
theorem dX12_note_47 : decode cX12_note 47 = .ok (.getfield 23, 3) := by decide +kernel
theorem dX12_note_50 : decode cX12_note 50 = .ok (.bipush 65, 2) := by decide +kernel
theorem dX12_note_52 : decode cX12_note 52 = .ok (.bipush 36, 2) := by decide +kernel
theorem dX12_note_54 : decode cX12_note 54 = .ok (.aload_n 0, 1) := by decide +kernel
theorem dX12_note_55 : decode cX12_note 55 = .ok (.getfield 23, 3) := by decide +kernel
theorem dX12_note_58 : decode cX12_note 58 = .ok (.bipush 64, 2) := by decide +kernel
theorem dX12_note_60 : decode cX12_note 60 = .ok (.iaload, 1) := by decide +kernel
theorem dX12_note_61 : decode cX12_note 61 = .ok (.imul, 1) := by decide +kernel
theorem dX12_note_62 : decode cX12_note 62 = .ok (.iadd, 1) := by decide +kernel
theorem dX12_note_63 : decode cX12_note 63 = .ok (.bipush 36, 2) := by decide +kernel
theorem dX12_note_65 : decode cX12_note 65 = .ok (.invokestatic 113, 3) := by decide +kernel
theorem dX12_note_68 : decode cX12_note 68 = .ok (.aload_n 0, 1) := by decide +kernel
theorem dX12_note_69 : decode cX12_note 69 = .ok (.getfield 23, 3) := by decide +kernel
theorem dX12_note_72 : decode cX12_note 72 = .ok (.bipush 64, 2) := by decide +kernel
theorem dX12_note_74 : decode cX12_note 74 = .ok (.dup2, 1) := by decide +kernel
theorem dX12_note_75 : decode cX12_note 75 = .ok (.iaload, 1) := by decide +kernel
theorem dX12_note_76 : decode cX12_note 76 = .ok (.iconst 1, 1) := by decide +kernel
theorem dX12_note_77 : decode cX12_note 77 = .ok (.iadd, 1) := by decide +kernel
theorem dX12_note_78 : decode cX12_note 78 = .ok (.iastore, 1) := by decide +kernel
theorem dX12_note_79 : decode cX12_note 79 = .ok (.return_, 1) := by decide +kernel
theorem dX12_goBy_0 : decode cX12_goBy 0 = .ok (.iconst 0, 1) := by decide +kernel
theorem dX12_goBy_1 : decode cX12_goBy 1 = .ok (.istore_n 1, 1) := by decide +kernel
theorem dX12_goBy_2 : decode cX12_goBy 2 = .ok (.iload_n 1, 1) := by decide +kernel
theorem dX12_goBy_3 : decode cX12_goBy 3 = .ok (.aload_n 0, 1) := by decide +kernel
theorem dX12_goBy_4 : decode cX12_goBy 4 = .ok (.bipush 36, 2) := by decide +kernel
theorem dX12_goBy_6 : decode cX12_goBy 6 = .ok (.iaload, 1) := by decide +kernel
theorem dX12_goBy_7 : decode cX12_goBy 7 = .ok (.if_icmp .ge 32, 3) := by decide +kernel
theorem dX12_goBy_10 : decode cX12_goBy 10 = .ok (.aload_n 0, 1) := by decide +kernel
theorem dX12_goBy_11 : decode cX12_goBy 11 = .ok (.aload_n 0, 1) := by decide +kernel
theorem dX12_goBy_12 : decode cX12_goBy 12 = .ok (.iload_n 1, 1) := by decide +kernel
theorem dX12_goBy_13 : decode cX12_goBy 13 = .ok (.invokestatic 69, 3) := by decide +kernel
theorem dX12_goBy_16 : decode cX12_goBy 16 = .ok (.ifCond .eq 8, 3) := by decide +kernel
theorem dX12_goBy_19 : decode cX12_goBy 19 = .ok (.bipush 26, 2) := by decide +kernel
theorem dX12_goBy_21 : decode cX12_goBy 21 = .ok (.goto 5, 3) := by decide +kernel
theorem dX12_goBy_24 : decode cX12_goBy 24 = .ok (.bipush 31, 2) := by decide +kernel
theorem dX12_goBy_26 : decode cX12_goBy 26 = .ok (.iload_n 1, 1) := by decide +kernel
theorem dX12_goBy_27 : decode cX12_goBy 27 = .ok (.iadd, 1) := by decide +kernel
theorem dX12_goBy_28 : decode cX12_goBy 28 = .ok (.dup2, 1) := by decide +kernel
theorem dX12_goBy_29 : decode cX12_goBy 29 = .ok (.iaload, 1) := by decide +kernel
theorem dX12_goBy_30 : decode cX12_goBy 30 = .ok (.iconst 1, 1) := by decide +kernel
theorem dX12_goBy_31 : decode cX12_goBy 31 = .ok (.iadd, 1) := by decide +kernel
theorem dX12_goBy_32 : decode cX12_goBy 32 = .ok (.iastore, 1) := by decide +kernel
theorem dX12_goBy_33 : decode cX12_goBy 33 = .ok (.iinc 1 1, 3) := by decide +kernel
theorem dX12_goBy_36 : decode cX12_goBy 36 = .ok (.goto (-34), 3) := by decide +kernel
theorem dX12_goBy_39 : decode cX12_goBy 39 = .ok (.iconst 0, 1) := by decide +kernel
theorem dX12_goBy_40 : decode cX12_goBy 40 = .ok (.istore_n 1, 1) := by decide +kernel
theorem dX12_goBy_41 : decode cX12_goBy 41 = .ok (.iload_n 1, 1) := by decide +kernel
theorem dX12_goBy_42 : decode cX12_goBy 42 = .ok (.aload_n 0, 1) := by decide +kernel
theorem dX12_goBy_43 : decode cX12_goBy 43 = .ok (.bipush 47, 2) := by decide +kernel
theorem dX12_goBy_45 : decode cX12_goBy 45 = .ok (.iaload, 1) := by decide +kernel
theorem dX12_goBy_46 : decode cX12_goBy 46 = .ok (.if_icmp .ge 39, 3) := by decide +kernel
theorem dX12_goBy_49 : decode cX12_goBy 49 = .ok (.aload_n 0, 1) := by decide +kernel
theorem dX12_goBy_50 : decode cX12_goBy 50 = .ok (.bipush 18, 2) := by decide +kernel
theorem dX12_goBy_52 : decode cX12_goBy 52 = .ok (.iload_n 1, 1) := by decide +kernel
theorem dX12_goBy_53 : decode cX12_goBy 53 = .ok (.iadd, 1) := by decide +kernel
theorem dX12_goBy_54 : decode cX12_goBy 54 = .ok (.aload_n 0, 1) := by decide +kernel
theorem dX12_goBy_55 : decode cX12_goBy 55 = .ok (.bipush 48, 2) := by decide +kernel
theorem dX12_goBy_57 : decode cX12_goBy 57 = .ok (.iload_n 1, 1) := by decide +kernel
theorem dX12_goBy_58 : decode cX12_goBy 58 = .ok (.iadd, 1) := by decide +kernel
theorem dX12_goBy_59 : decode cX12_goBy 59 = .ok (.iaload, 1) := by decide +kernel
theorem dX12_goBy_60 : decode cX12_goBy 60 = .ok (.aload_n 0, 1) := by decide +kernel
theorem dX12_goBy_61 : decode cX12_goBy 61 = .ok (.bipush 56, 2) := by decide +kernel
theorem dX12_goBy_63 : decode cX12_goBy 63 = .ok (.iload_n 1, 1) := by decide +kernel
theorem dX12_goBy_64 : decode cX12_goBy 64 = .ok (.iadd, 1) := by decide +kernel
theorem dX12_goBy_65 : decode cX12_goBy 65 = .ok (.iaload, 1) := by decide +kernel
theorem dX12_goBy_66 : decode cX12_goBy 66 = .ok (.aload_n 0, 1) := by decide +kernel
theorem dX12_goBy_67 : decode cX12_goBy 67 = .ok (.bipush 18, 2) := by decide +kernel
theorem dX12_goBy_69 : decode cX12_goBy 69 = .ok (.iload_n 1, 1) := by decide +kernel
theorem dX12_goBy_70 : decode cX12_goBy 70 = .ok (.iadd, 1) := by decide +kernel
theorem dX12_goBy_71 : decode cX12_goBy 71 = .ok (.iaload, 1) := by decide +kernel
theorem dX12_goBy_72 : decode cX12_goBy 72 = .ok (.aload_n 0, 1) := by decide +kernel
theorem dX12_goBy_73 : decode cX12_goBy 73 = .ok (.iconst 0, 1) := by decide +kernel
theorem dX12_goBy_74 : decode cX12_goBy 74 = .ok (.iaload, 1) := by decide +kernel
theorem dX12_goBy_75 : decode cX12_goBy 75 = .ok (.invokestatic 121, 3) := by decide +kernel
theorem dX12_goBy_78 : decode cX12_goBy 78 = .ok (.iastore, 1) := by decide +kernel
theorem dX12_goBy_79 : decode cX12_goBy 79 = .ok (.iinc 1 1, 3) := by decide +kernel
theorem dX12_goBy_82 : decode cX12_goBy 82 = .ok (.goto (-41), 3) := by decide +kernel
theorem dX12_goBy_85 : decode cX12_goBy 85 = .ok (.aload_n 0, 1) := by decide +kernel
theorem dX12_goBy_86 : decode cX12_goBy 86 = .ok (.iconst 0, 1) := by decide +kernel
theorem dX12_goBy_87 : decode cX12_goBy 87 = .ok (.dup2, 1) := by decide +kernel
theorem dX12_goBy_88 : decode cX12_goBy 88 = .ok (.iaload, 1) := by decide +kernel
theorem dX12_goBy_89 : decode cX12_goBy 89 = .ok (.iconst 1, 1) := by decide +kernel
theorem dX12_goBy_90 : decode cX12_goBy 90 = .ok (.iadd, 1) := by decide +kernel
theorem dX12_goBy_91 : decode cX12_goBy 91 = .ok (.iastore, 1) := by decide +kernel
theorem dX12_goBy_92 : decode cX12_goBy 92 = .ok (.return_, 1) := by decide +kernel
theorem dX12_nights_0 : decode cX12_nights 0 = .ok (.iload_n 1, 1) := by decide +kernel
theorem dX12_nights_1 : decode cX12_nights 1 = .ok (.iconst 1, 1) := by decide +kernel
theorem dX12_nights_2 : decode cX12_nights 2 = .ok (.bipush 40, 2) := by decide +kernel
theorem dX12_nights_4 : decode cX12_nights 4 = .ok (.invokestatic 35, 3) := by decide +kernel
theorem dX12_nights_7 : decode cX12_nights 7 = .ok (.ifCond .ne 5, 3) := by decide +kernel
theorem dX12_nights_10 : decode cX12_nights 10 = .ok (.iconst (-1), 1) := by decide +kernel
theorem dX12_nights_11 : decode cX12_nights 11 = .ok (.ireturn, 1) := by decide +kernel
theorem dX12_nights_12 : decode cX12_nights 12 = .ok (.aload_n 0, 1) := by decide +kernel
theorem dX12_nights_13 : decode cX12_nights 13 = .ok (.getfield 23, 3) := by decide +kernel
theorem dX12_nights_16 : decode cX12_nights 16 = .ok (.iconst 0, 1) := by decide +kernel
theorem dX12_nights_17 : decode cX12_nights 17 = .ok (.iaload, 1) := by decide +kernel
theorem dX12_nights_18 : decode cX12_nights 18 = .ok (.iload_n 1, 1) := by decide +kernel
theorem dX12_nights_19 : decode cX12_nights 19 = .ok (.iadd, 1) := by decide +kernel
theorem dX12_nights_20 : decode cX12_nights 20 = .ok (.sipush 9999, 3) := by decide +kernel
theorem dX12_nights_23 : decode cX12_nights 23 = .ok (.if_icmp .le 6, 3) := by decide +kernel
theorem dX12_nights_26 : decode cX12_nights 26 = .ok (.bipush (-3), 2) := by decide +kernel
theorem dX12_nights_28 : decode cX12_nights 28 = .ok (.ireturn, 1) := by decide +kernel
theorem dX12_nights_29 : decode cX12_nights 29 = .ok (.aload_n 0, 1) := by decide +kernel
theorem dX12_nights_30 : decode cX12_nights 30 = .ok (.getfield 23, 3) := by decide +kernel
theorem dX12_nights_33 : decode cX12_nights 33 = .ok (.invokestatic 117, 3) := by decide +kernel
theorem dX12_nights_36 : decode cX12_nights 36 = .ok (.istore_n 2, 1) := by decide +kernel
theorem dX12_nights_37 : decode cX12_nights 37 = .ok (.iconst 0, 1) := by decide +kernel
theorem dX12_nights_38 : decode cX12_nights 38 = .ok (.istore_n 3, 1) := by decide +kernel
theorem dX12_nights_39 : decode cX12_nights 39 = .ok (.iload_n 3, 1) := by decide +kernel
theorem dX12_nights_40 : decode cX12_nights 40 = .ok (.iload_n 1, 1) := by decide +kernel
theorem dX12_nights_41 : decode cX12_nights 41 = .ok (.if_icmp .ge 20, 3) := by decide +kernel
theorem dX12_nights_44 : decode cX12_nights 44 = .ok (.aload_n 0, 1) := by decide +kernel
theorem dX12_nights_45 : decode cX12_nights 45 = .ok (.invokevirtual 124, 3) := by decide +kernel
theorem dX12_nights_48 : decode cX12_nights 48 = .ok (.aload_n 0, 1) := by decide +kernel
theorem dX12_nights_49 : decode cX12_nights 49 = .ok (.getfield 23, 3) := by decide +kernel
theorem dX12_nights_52 : decode cX12_nights 52 = .ok (.invokestatic 127, 3) := by decide +kernel
theorem dX12_nights_55 : decode cX12_nights 55 = .ok (.iinc 3 1, 3) := by decide +kernel
theorem dX12_nights_58 : decode cX12_nights 58 = .ok (.goto (-19), 3) := by decide +kernel
theorem dX12_nights_61 : decode cX12_nights 61 = .ok (.aload_n 0, 1) := by decide +kernel
theorem dX12_nights_62 : decode cX12_nights 62 = .ok (.getfield 23, 3) := by decide +kernel
theorem dX12_nights_65 : decode cX12_nights 65 = .ok (.invokestatic 117, 3) := by decide +kernel
theorem dX12_nights_68 : decode cX12_nights 68 = .ok (.iload_n 2, 1) := by decide +kernel
theorem dX12_nights_69 : decode cX12_nights 69 = .ok (.isub, 1) := by decide +kernel
theorem dX12_nights_70 : decode cX12_nights 70 = .ok (.ireturn, 1) := by decide +kernel
theorem dX12_move_0 : decode cX12_move 0 = .ok (.aload_n 0, 1) := by decide +kernel
theorem dX12_move_1 : decode cX12_move 1 = .ok (.iload_n 1, 1) := by decide +kernel
theorem dX12_move_2 : decode cX12_move 2 = .ok (.invokevirtual 73, 3) := by decide +kernel
theorem dX12_move_5 : decode cX12_move 5 = .ok (.ifCond .eq 10, 3) := by decide +kernel
theorem dX12_move_8 : decode cX12_move 8 = .ok (.iload_n 2, 1) := by decide +kernel
theorem dX12_move_9 : decode cX12_move 9 = .ok (.invokestatic 43, 3) := by decide +kernel
theorem dX12_move_12 : decode cX12_move 12 = .ok (.ifCond .ne 5, 3) := by decide +kernel
theorem dX12_move_15 : decode cX12_move 15 = .ok (.iconst (-1), 1) := by decide +kernel
theorem dX12_move_16 : decode cX12_move 16 = .ok (.ireturn, 1) := by decide +kernel
theorem dX12_move_17 : decode cX12_move 17 = .ok (.aload_n 0, 1) := by decide +kernel
theorem dX12_move_18 : decode cX12_move 18 = .ok (.getfield 23, 3) := by decide +kernel
theorem dX12_move_21 : decode cX12_move 21 = .ok (.iconst 2, 1) := by decide +kernel
theorem dX12_move_22 : decode cX12_move 22 = .ok (.iload_n 1, 1) := by decide +kernel
theorem dX12_move_23 : decode cX12_move 23 = .ok (.iadd, 1) := by decide +kernel
theorem dX12_move_24 : decode cX12_move 24 = .ok (.iaload, 1) := by decide +kernel
theorem dX12_move_25 : decode cX12_move 25 = .ok (.iload_n 2, 1) := by decide +kernel
theorem dX12_move_26 : decode cX12_move 26 = .ok (.if_icmp .ne 6, 3) := by decide +kernel
theorem dX12_move_29 : decode cX12_move 29 = .ok (.bipush (-2), 2) := by decide +kernel
theorem dX12_move_31 : decode cX12_move 31 = .ok (.ireturn, 1) := by decide +kernel
theorem dX12_move_32 : decode cX12_move 32 = .ok (.aload_n 0, 1) := by decide +kernel
theorem dX12_move_33 : decode cX12_move 33 = .ok (.invokevirtual 124, 3) := by decide +kernel
theorem dX12_move_36 : decode cX12_move 36 = .ok (.aload_n 0, 1) := by decide +kernel
theorem dX12_move_37 : decode cX12_move 37 = .ok (.getfield 23, 3) := by decide +kernel
theorem dX12_move_40 : decode cX12_move 40 = .ok (.iconst 2, 1) := by decide +kernel
theorem dX12_move_41 : decode cX12_move 41 = .ok (.iload_n 1, 1) := by decide +kernel
theorem dX12_move_42 : decode cX12_move 42 = .ok (.iadd, 1) := by decide +kernel
theorem dX12_move_43 : decode cX12_move 43 = .ok (.iaload, 1) := by decide +kernel
theorem dX12_move_44 : decode cX12_move 44 = .ok (.istore_n 3, 1) := by decide +kernel
theorem dX12_move_45 : decode cX12_move 45 = .ok (.aload_n 0, 1) := by decide +kernel
theorem dX12_move_46 : decode cX12_move 46 = .ok (.getfield 23, 3) := by decide +kernel
theorem dX12_move_49 : decode cX12_move 49 = .ok (.iconst 2, 1) := by decide +kernel
theorem dX12_move_50 : decode cX12_move 50 = .ok (.iload_n 1, 1) := by decide +kernel
theorem dX12_move_51 : decode cX12_move 51 = .ok (.iadd, 1) := by decide +kernel
theorem dX12_move_52 : decode cX12_move 52 = .ok (.iload_n 2, 1) := by decide +kernel
theorem dX12_move_53 : decode cX12_move 53 = .ok (.iastore, 1) := by decide +kernel
theorem dX12_move_54 : decode cX12_move 54 = .ok (.iload_n 3, 1) := by decide +kernel
theorem dX12_move_55 : decode cX12_move 55 = .ok (.ireturn, 1) := by decide +kernel
theorem dX12_pass_0 : decode cX12_pass 0 = .ok (.aload_n 0, 1) := by decide +kernel
theorem dX12_pass_1 : decode cX12_pass 1 = .ok (.iload_n 1, 1) := by decide +kernel
theorem dX12_pass_2 : decode cX12_pass 2 = .ok (.invokevirtual 73, 3) := by decide +kernel
theorem dX12_pass_5 : decode cX12_pass 5 = .ok (.ifCond .eq 13, 3) := by decide +kernel
theorem dX12_pass_8 : decode cX12_pass 8 = .ok (.iload_n 2, 1) := by decide +kernel
theorem dX12_pass_9 : decode cX12_pass 9 = .ok (.iconst 0, 1) := by decide +kernel
theorem dX12_pass_10 : decode cX12_pass 10 = .ok (.bipush 9, 2) := by decide +kernel
theorem dX12_pass_12 : decode cX12_pass 12 = .ok (.invokestatic 35, 3) := by decide +kernel
theorem dX12_pass_15 : decode cX12_pass 15 = .ok (.ifCond .ne 5, 3) := by decide +kernel
theorem dX12_pass_18 : decode cX12_pass 18 = .ok (.iconst (-1), 1) := by decide +kernel
theorem dX12_pass_19 : decode cX12_pass 19 = .ok (.ireturn, 1) := by decide +kernel
theorem dX12_pass_20 : decode cX12_pass 20 = .ok (.aload_n 0, 1) := by decide +kernel
theorem dX12_pass_21 : decode cX12_pass 21 = .ok (.getfield 23, 3) := by decide +kernel
theorem dX12_pass_24 : decode cX12_pass 24 = .ok (.bipush 10, 2) := by decide +kernel
theorem dX12_pass_26 : decode cX12_pass 26 = .ok (.iload_n 1, 1) := by decide +kernel
theorem dX12_pass_27 : decode cX12_pass 27 = .ok (.iadd, 1) := by decide +kernel
theorem dX12_pass_28 : decode cX12_pass 28 = .ok (.iaload, 1) := by decide +kernel
theorem dX12_pass_29 : decode cX12_pass 29 = .ok (.iload_n 2, 1) := by decide +kernel
theorem dX12_pass_30 : decode cX12_pass 30 = .ok (.if_icmp .ne 6, 3) := by decide +kernel
theorem dX12_pass_33 : decode cX12_pass 33 = .ok (.bipush (-2), 2) := by decide +kernel
theorem dX12_pass_35 : decode cX12_pass 35 = .ok (.ireturn, 1) := by decide +kernel
theorem dX12_pass_36 : decode cX12_pass 36 = .ok (.aload_n 0, 1) := by decide +kernel
theorem dX12_pass_37 : decode cX12_pass 37 = .ok (.invokevirtual 124, 3) := by decide +kernel
theorem dX12_pass_40 : decode cX12_pass 40 = .ok (.aload_n 0, 1) := by decide +kernel
theorem dX12_pass_41 : decode cX12_pass 41 = .ok (.getfield 23, 3) := by decide +kernel
theorem dX12_pass_44 : decode cX12_pass 44 = .ok (.bipush 18, 2) := by decide +kernel
theorem dX12_pass_46 : decode cX12_pass 46 = .ok (.iload_n 1, 1) := by decide +kernel
theorem dX12_pass_47 : decode cX12_pass 47 = .ok (.iadd, 1) := by decide +kernel
theorem dX12_pass_48 : decode cX12_pass 48 = .ok (.iaload, 1) := by decide +kernel
theorem dX12_pass_49 : decode cX12_pass 49 = .ok (.istore_n 3, 1) := by decide +kernel
theorem dX12_pass_50 : decode cX12_pass 50 = .ok (.aload_n 0, 1) := by decide +kernel
theorem dX12_pass_51 : decode cX12_pass 51 = .ok (.getfield 23, 3) := by decide +kernel
theorem dX12_pass_54 : decode cX12_pass 54 = .ok (.bipush 10, 2) := by decide +kernel
theorem dX12_pass_56 : decode cX12_pass 56 = .ok (.iload_n 1, 1) := by decide +kernel
theorem dX12_pass_57 : decode cX12_pass 57 = .ok (.iadd, 1) := by decide +kernel
theorem dX12_pass_58 : decode cX12_pass 58 = .ok (.iload_n 2, 1) := by decide +kernel
theorem dX12_pass_59 : decode cX12_pass 59 = .ok (.iastore, 1) := by decide +kernel
theorem dX12_pass_60 : decode cX12_pass 60 = .ok (.aload_n 0, 1) := by decide +kernel
theorem dX12_pass_61 : decode cX12_pass 61 = .ok (.getfield 23, 3) := by decide +kernel
theorem dX12_pass_64 : decode cX12_pass 64 = .ok (.bipush 18, 2) := by decide +kernel
theorem dX12_pass_66 : decode cX12_pass 66 = .ok (.iload_n 1, 1) := by decide +kernel
theorem dX12_pass_67 : decode cX12_pass 67 = .ok (.iadd, 1) := by decide +kernel
theorem dX12_pass_68 : decode cX12_pass 68 = .ok (.aload_n 0, 1) := by decide +kernel
theorem dX12_pass_69 : decode cX12_pass 69 = .ok (.getfield 23, 3) := by decide +kernel
theorem dX12_pass_72 : decode cX12_pass 72 = .ok (.bipush 56, 2) := by decide +kernel
theorem dX12_pass_74 : decode cX12_pass 74 = .ok (.iload_n 1, 1) := by decide +kernel
theorem dX12_pass_75 : decode cX12_pass 75 = .ok (.iadd, 1) := by decide +kernel
theorem dX12_pass_76 : decode cX12_pass 76 = .ok (.iaload, 1) := by decide +kernel
theorem dX12_pass_77 : decode cX12_pass 77 = .ok (.invokestatic 39, 3) := by decide +kernel
theorem dX12_pass_80 : decode cX12_pass 80 = .ok (.iastore, 1) := by decide +kernel
theorem dX12_pass_81 : decode cX12_pass 81 = .ok (.iload_n 3, 1) := by decide +kernel
theorem dX12_pass_82 : decode cX12_pass 82 = .ok (.ireturn, 1) := by decide +kernel
theorem dX12_back_0 : decode cX12_back 0 = .ok (.aload_n 0, 1) := by decide +kernel
theorem dX12_back_1 : decode cX12_back 1 = .ok (.iload_n 1, 1) := by decide +kernel
theorem dX12_back_2 : decode cX12_back 2 = .ok (.invokevirtual 73, 3) := by decide +kernel
theorem dX12_back_5 : decode cX12_back 5 = .ok (.ifCond .ne 5, 3) := by decide +kernel
theorem dX12_back_8 : decode cX12_back 8 = .ok (.iconst (-1), 1) := by decide +kernel
theorem dX12_back_9 : decode cX12_back 9 = .ok (.ireturn, 1) := by decide +kernel
theorem dX12_back_10 : decode cX12_back 10 = .ok (.aload_n 0, 1) := by decide +kernel
theorem dX12_back_11 : decode cX12_back 11 = .ok (.getfield 23, 3) := by decide +kernel
theorem dX12_back_14 : decode cX12_back 14 = .ok (.bipush 18, 2) := by decide +kernel
theorem dX12_back_16 : decode cX12_back 16 = .ok (.iload_n 1, 1) := by decide +kernel
theorem dX12_back_17 : decode cX12_back 17 = .ok (.iadd, 1) := by decide +kernel
theorem dX12_back_18 : decode cX12_back 18 = .ok (.iaload, 1) := by decide +kernel
theorem dX12_back_19 : decode cX12_back 19 = .ok (.ifCond .ne 6, 3) := by decide +kernel
theorem dX12_back_22 : decode cX12_back 22 = .ok (.bipush (-2), 2) := by decide +kernel
theorem dX12_back_24 : decode cX12_back 24 = .ok (.ireturn, 1) := by decide +kernel
theorem dX12_back_25 : decode cX12_back 25 = .ok (.aload_n 0, 1) := by decide +kernel
theorem dX12_back_26 : decode cX12_back 26 = .ok (.invokevirtual 124, 3) := by decide +kernel
theorem dX12_back_29 : decode cX12_back 29 = .ok (.aload_n 0, 1) := by decide +kernel
theorem dX12_back_30 : decode cX12_back 30 = .ok (.getfield 23, 3) := by decide +kernel
theorem dX12_back_33 : decode cX12_back 33 = .ok (.bipush 18, 2) := by decide +kernel
theorem dX12_back_35 : decode cX12_back 35 = .ok (.iload_n 1, 1) := by decide +kernel
theorem dX12_back_36 : decode cX12_back 36 = .ok (.iadd, 1) := by decide +kernel
theorem dX12_back_37 : decode cX12_back 37 = .ok (.iaload, 1) := by decide +kernel
theorem dX12_back_38 : decode cX12_back 38 = .ok (.istore_n 2, 1) := by decide +kernel
theorem dX12_back_39 : decode cX12_back 39 = .ok (.aload_n 0, 1) := by decide +kernel
theorem dX12_back_40 : decode cX12_back 40 = .ok (.getfield 23, 3) := by decide +kernel
theorem dX12_back_43 : decode cX12_back 43 = .ok (.bipush 18, 2) := by decide +kernel
theorem dX12_back_45 : decode cX12_back 45 = .ok (.iload_n 1, 1) := by decide +kernel
theorem dX12_back_46 : decode cX12_back 46 = .ok (.iadd, 1) := by decide +kernel
theorem dX12_back_47 : decode cX12_back 47 = .ok (.iconst 0, 1) := by decide +kernel
theorem dX12_back_48 : decode cX12_back 48 = .ok (.iastore, 1) := by decide +kernel
theorem dX12_back_49 : decode cX12_back 49 = .ok (.iload_n 2, 1) := by decide +kernel
theorem dX12_back_50 : decode cX12_back 50 = .ok (.ireturn, 1) := by decide +kernel
theorem dX12_drift_0 : decode cX12_drift 0 = .ok (.iload_n 1, 1) := by decide +kernel
theorem dX12_drift_1 : decode cX12_drift 1 = .ok (.iconst 1, 1) := by decide +kernel
theorem dX12_drift_2 : decode cX12_drift 2 = .ok (.bipush 40, 2) := by decide +kernel
theorem dX12_drift_4 : decode cX12_drift 4 = .ok (.invokestatic 35, 3) := by decide +kernel
theorem dX12_drift_7 : decode cX12_drift 7 = .ok (.ifCond .ne 5, 3) := by decide +kernel
theorem dX12_drift_10 : decode cX12_drift 10 = .ok (.iconst (-1), 1) := by decide +kernel
theorem dX12_drift_11 : decode cX12_drift 11 = .ok (.ireturn, 1) := by decide +kernel
theorem dX12_drift_12 : decode cX12_drift 12 = .ok (.aload_n 0, 1) := by decide +kernel
theorem dX12_drift_13 : decode cX12_drift 13 = .ok (.getfield 23, 3) := by decide +kernel
theorem dX12_drift_16 : decode cX12_drift 16 = .ok (.iconst 0, 1) := by decide +kernel
theorem dX12_drift_17 : decode cX12_drift 17 = .ok (.iaload, 1) := by decide +kernel
theorem dX12_drift_18 : decode cX12_drift 18 = .ok (.iload_n 1, 1) := by decide +kernel
theorem dX12_drift_19 : decode cX12_drift 19 = .ok (.iadd, 1) := by decide +kernel
theorem dX12_drift_20 : decode cX12_drift 20 = .ok (.sipush 9999, 3) := by decide +kernel
theorem dX12_drift_23 : decode cX12_drift 23 = .ok (.if_icmp .le 6, 3) := by decide +kernel
theorem dX12_drift_26 : decode cX12_drift 26 = .ok (.bipush (-3), 2) := by decide +kernel
theorem dX12_drift_28 : decode cX12_drift 28 = .ok (.ireturn, 1) := by decide +kernel
theorem dX12_drift_29 : decode cX12_drift 29 = .ok (.aload_n 0, 1) := by decide +kernel
theorem dX12_drift_30 : decode cX12_drift 30 = .ok (.getfield 23, 3) := by decide +kernel
theorem dX12_drift_33 : decode cX12_drift 33 = .ok (.invokestatic 117, 3) := by decide +kernel
theorem dX12_drift_36 : decode cX12_drift 36 = .ok (.istore_n 2, 1) := by decide +kernel
theorem dX12_drift_37 : decode cX12_drift 37 = .ok (.iconst 0, 1) := by decide +kernel
theorem dX12_drift_38 : decode cX12_drift 38 = .ok (.istore_n 3, 1) := by decide +kernel
theorem dX12_drift_39 : decode cX12_drift 39 = .ok (.iload_n 3, 1) := by decide +kernel
theorem dX12_drift_40 : decode cX12_drift 40 = .ok (.iload_n 1, 1) := by decide +kernel
theorem dX12_drift_41 : decode cX12_drift 41 = .ok (.if_icmp .ge 103, 3) := by decide +kernel
theorem dX12_drift_44 : decode cX12_drift 44 = .ok (.aload_n 0, 1) := by decide +kernel
theorem dX12_drift_45 : decode cX12_drift 45 = .ok (.invokevirtual 124, 3) := by decide +kernel
theorem dX12_drift_48 : decode cX12_drift 48 = .ok (.aload_n 0, 1) := by decide +kernel
theorem dX12_drift_49 : decode cX12_drift 49 = .ok (.getfield 23, 3) := by decide +kernel
theorem dX12_drift_52 : decode cX12_drift 52 = .ok (.iconst 1, 1) := by decide +kernel
theorem dX12_drift_53 : decode cX12_drift 53 = .ok (.aload_n 0, 1) := by decide +kernel
theorem dX12_drift_54 : decode cX12_drift 54 = .ok (.getfield 23, 3) := by decide +kernel
theorem dX12_drift_57 : decode cX12_drift 57 = .ok (.iconst 1, 1) := by decide +kernel
theorem dX12_drift_58 : decode cX12_drift 58 = .ok (.iaload, 1) := by decide +kernel
theorem dX12_drift_59 : decode cX12_drift 59 = .ok (.i2l, 1) := by decide +kernel
theorem dX12_drift_60 : decode cX12_drift 60 = .ok (.ldc2_w 131, 3) := by decide +kernel
theorem dX12_drift_63 : decode cX12_drift 63 = .ok (.lmul, 1) := by decide +kernel
theorem dX12_drift_64 : decode cX12_drift 64 = .ok (.ldc2_w 133, 3) := by decide +kernel
theorem dX12_drift_67 : decode cX12_drift 67 = .ok (.ladd, 1) := by decide +kernel
theorem dX12_drift_68 : decode cX12_drift 68 = .ok (.ldc2_w 135, 3) := by decide +kernel
theorem dX12_drift_71 : decode cX12_drift 71 = .ok (.lrem, 1) := by decide +kernel
theorem dX12_drift_72 : decode cX12_drift 72 = .ok (.l2i, 1) := by decide +kernel
theorem dX12_drift_73 : decode cX12_drift 73 = .ok (.iastore, 1) := by decide +kernel
theorem dX12_drift_74 : decode cX12_drift 74 = .ok (.aload_n 0, 1) := by decide +kernel
theorem dX12_drift_75 : decode cX12_drift 75 = .ok (.getfield 23, 3) := by decide +kernel
theorem dX12_drift_78 : decode cX12_drift 78 = .ok (.iconst 1, 1) := by decide +kernel
theorem dX12_drift_79 : decode cX12_drift 79 = .ok (.iaload, 1) := by decide +kernel
theorem dX12_drift_80 : decode cX12_drift 80 = .ok (.ldc 137, 2) := by decide +kernel
theorem dX12_drift_82 : decode cX12_drift 82 = .ok (.idiv, 1) := by decide +kernel
theorem dX12_drift_83 : decode cX12_drift 83 = .ok (.istore 4, 2) := by decide +kernel
theorem dX12_drift_85 : decode cX12_drift 85 = .ok (.iload 4, 2) := by decide +kernel
theorem dX12_drift_87 : decode cX12_drift 87 = .ok (.iconst 3, 1) := by decide +kernel
theorem dX12_drift_88 : decode cX12_drift 88 = .ok (.irem, 1) := by decide +kernel
theorem dX12_drift_89 : decode cX12_drift 89 = .ok (.ifCond .ne 42, 3) := by decide +kernel
theorem dX12_drift_92 : decode cX12_drift 92 = .ok (.aload_n 0, 1) := by decide +kernel
theorem dX12_drift_93 : decode cX12_drift 93 = .ok (.getfield 23, 3) := by decide +kernel
theorem dX12_drift_96 : decode cX12_drift 96 = .ok (.bipush 47, 2) := by decide +kernel
theorem dX12_drift_98 : decode cX12_drift 98 = .ok (.iaload, 1) := by decide +kernel
theorem dX12_drift_99 : decode cX12_drift 99 = .ok (.ifCond .le 32, 3) := by decide +kernel
theorem dX12_drift_102 : decode cX12_drift 102 = .ok (.aload_n 0, 1) := by decide +kernel
theorem dX12_drift_103 : decode cX12_drift 103 = .ok (.getfield 23, 3) := by decide +kernel
theorem dX12_drift_106 : decode cX12_drift 106 = .ok (.iconst 2, 1) := by decide +kernel
theorem dX12_drift_107 : decode cX12_drift 107 = .ok (.iload 4, 2) := by decide +kernel
theorem dX12_drift_109 : decode cX12_drift 109 = .ok (.aload_n 0, 1) := by decide +kernel
theorem dX12_drift_110 : decode cX12_drift 110 = .ok (.getfield 23, 3) := by decide +kernel
theorem dX12_drift_113 : decode cX12_drift 113 = .ok (.bipush 47, 2) := by decide +kernel
theorem dX12_drift_115 : decode cX12_drift 115 = .ok (.iaload, 1) := by decide +kernel
theorem dX12_drift_116 : decode cX12_drift 116 = .ok (.irem, 1) := by decide +kernel
theorem dX12_drift_117 : decode cX12_drift 117 = .ok (.iadd, 1) := by decide +kernel
theorem dX12_drift_118 : decode cX12_drift 118 = .ok (.aload_n 0, 1) := by decide +kernel
theorem dX12_drift_119 : decode cX12_drift 119 = .ok (.getfield 23, 3) := by decide +kernel
theorem dX12_drift_122 : decode cX12_drift 122 = .ok (.iconst 1, 1) := by decide +kernel
theorem dX12_drift_123 : decode cX12_drift 123 = .ok (.iaload, 1) := by decide +kernel
theorem dX12_drift_124 : decode cX12_drift 124 = .ok (.sipush 128, 3) := by decide +kernel
theorem dX12_drift_127 : decode cX12_drift 127 = .ok (.idiv, 1) := by decide +kernel
theorem dX12_drift_128 : decode cX12_drift 128 = .ok (.iconst 4, 1) := by decide +kernel
theorem dX12_drift_129 : decode cX12_drift 129 = .ok (.irem, 1) := by decide +kernel
theorem dX12_drift_130 : decode cX12_drift 130 = .ok (.iastore, 1) := by decide +kernel
theorem dX12_drift_131 : decode cX12_drift 131 = .ok (.aload_n 0, 1) := by decide +kernel
theorem dX12_drift_132 : decode cX12_drift 132 = .ok (.getfield 23, 3) := by decide +kernel
theorem dX12_drift_135 : decode cX12_drift 135 = .ok (.invokestatic 127, 3) := by decide +kernel
theorem dX12_drift_138 : decode cX12_drift 138 = .ok (.iinc 3 1, 3) := by decide +kernel
theorem dX12_drift_141 : decode cX12_drift 141 = .ok (.goto (-102), 3) := by decide +kernel
theorem dX12_drift_144 : decode cX12_drift 144 = .ok (.aload_n 0, 1) := by decide +kernel
theorem dX12_drift_145 : decode cX12_drift 145 = .ok (.getfield 23, 3) := by decide +kernel
theorem dX12_drift_148 : decode cX12_drift 148 = .ok (.invokestatic 117, 3) := by decide +kernel
theorem dX12_drift_151 : decode cX12_drift 151 = .ok (.iload_n 2, 1) := by decide +kernel
theorem dX12_drift_152 : decode cX12_drift 152 = .ok (.isub, 1) := by decide +kernel
theorem dX12_drift_153 : decode cX12_drift 153 = .ok (.ireturn, 1) := by decide +kernel
theorem dX12_undo_0 : decode cX12_undo 0 = .ok (.aload_n 0, 1) := by decide +kernel
theorem dX12_undo_1 : decode cX12_undo 1 = .ok (.getfield 23, 3) := by decide +kernel
theorem dX12_undo_4 : decode cX12_undo 4 = .ok (.bipush 64, 2) := by decide +kernel
theorem dX12_undo_6 : decode cX12_undo 6 = .ok (.iaload, 1) := by decide +kernel
theorem dX12_undo_7 : decode cX12_undo 7 = .ok (.ifCond .ne 6, 3) := by decide +kernel
theorem dX12_undo_10 : decode cX12_undo 10 = .ok (.bipush (-4), 2) := by decide +kernel
theorem dX12_undo_12 : decode cX12_undo 12 = .ok (.ireturn, 1) := by decide +kernel
theorem dX12_undo_13 : decode cX12_undo 13 = .ok (.aload_n 0, 1) := by decide +kernel
theorem dX12_undo_14 : decode cX12_undo 14 = .ok (.getfield 23, 3) := by decide +kernel
theorem dX12_undo_17 : decode cX12_undo 17 = .ok (.bipush 64, 2) := by decide +kernel
theorem dX12_undo_19 : decode cX12_undo 19 = .ok (.dup2, 1) := by decide +kernel
theorem dX12_undo_20 : decode cX12_undo 20 = .ok (.iaload, 1) := by decide +kernel
theorem dX12_undo_21 : decode cX12_undo 21 = .ok (.iconst 1, 1) := by decide +kernel
theorem dX12_undo_22 : decode cX12_undo 22 = .ok (.isub, 1) := by decide +kernel
theorem dX12_undo_23 : decode cX12_undo 23 = .ok (.iastore, 1) := by decide +kernel
theorem dX12_undo_24 : decode cX12_undo 24 = .ok (.aload_n 0, 1) := by decide +kernel
theorem dX12_undo_25 : decode cX12_undo 25 = .ok (.getfield 23, 3) := by decide +kernel
theorem dX12_undo_28 : decode cX12_undo 28 = .ok (.bipush 65, 2) := by decide +kernel
theorem dX12_undo_30 : decode cX12_undo 30 = .ok (.bipush 36, 2) := by decide +kernel
theorem dX12_undo_32 : decode cX12_undo 32 = .ok (.aload_n 0, 1) := by decide +kernel
theorem dX12_undo_33 : decode cX12_undo 33 = .ok (.getfield 23, 3) := by decide +kernel
theorem dX12_undo_36 : decode cX12_undo 36 = .ok (.bipush 64, 2) := by decide +kernel
theorem dX12_undo_38 : decode cX12_undo 38 = .ok (.iaload, 1) := by decide +kernel
theorem dX12_undo_39 : decode cX12_undo 39 = .ok (.imul, 1) := by decide +kernel
theorem dX12_undo_40 : decode cX12_undo 40 = .ok (.iadd, 1) := by decide +kernel
theorem dX12_undo_41 : decode cX12_undo 41 = .ok (.aload_n 0, 1) := by decide +kernel
theorem dX12_undo_42 : decode cX12_undo 42 = .ok (.getfield 23, 3) := by decide +kernel
theorem dX12_undo_45 : decode cX12_undo 45 = .ok (.iconst 0, 1) := by decide +kernel
theorem dX12_undo_46 : decode cX12_undo 46 = .ok (.bipush 36, 2) := by decide +kernel
theorem dX12_undo_48 : decode cX12_undo 48 = .ok (.invokestatic 113, 3) := by decide +kernel
theorem dX12_undo_51 : decode cX12_undo 51 = .ok (.aload_n 0, 1) := by decide +kernel
theorem dX12_undo_52 : decode cX12_undo 52 = .ok (.getfield 23, 3) := by decide +kernel
theorem dX12_undo_55 : decode cX12_undo 55 = .ok (.bipush 64, 2) := by decide +kernel
theorem dX12_undo_57 : decode cX12_undo 57 = .ok (.iaload, 1) := by decide +kernel
theorem dX12_undo_58 : decode cX12_undo 58 = .ok (.ireturn, 1) := by decide +kernel
theorem dX12_seed_0 : decode cX12_seed 0 = .ok (.iload_n 1, 1) := by decide +kernel
theorem dX12_seed_1 : decode cX12_seed 1 = .ok (.ifCond .ge 5, 3) := by decide +kernel
theorem dX12_seed_4 : decode cX12_seed 4 = .ok (.iconst (-1), 1) := by decide +kernel
theorem dX12_seed_5 : decode cX12_seed 5 = .ok (.ireturn, 1) := by decide +kernel
theorem dX12_seed_6 : decode cX12_seed 6 = .ok (.aload_n 0, 1) := by decide +kernel
theorem dX12_seed_7 : decode cX12_seed 7 = .ok (.getfield 23, 3) := by decide +kernel
theorem dX12_seed_10 : decode cX12_seed 10 = .ok (.iconst 1, 1) := by decide +kernel
theorem dX12_seed_11 : decode cX12_seed 11 = .ok (.iaload, 1) := by decide +kernel
theorem dX12_seed_12 : decode cX12_seed 12 = .ok (.istore_n 2, 1) := by decide +kernel
theorem dX12_seed_13 : decode cX12_seed 13 = .ok (.aload_n 0, 1) := by decide +kernel
theorem dX12_seed_14 : decode cX12_seed 14 = .ok (.getfield 23, 3) := by decide +kernel
theorem dX12_seed_17 : decode cX12_seed 17 = .ok (.iconst 1, 1) := by decide +kernel
theorem dX12_seed_18 : decode cX12_seed 18 = .ok (.iload_n 1, 1) := by decide +kernel
theorem dX12_seed_19 : decode cX12_seed 19 = .ok (.iastore, 1) := by decide +kernel
theorem dX12_seed_20 : decode cX12_seed 20 = .ok (.iload_n 2, 1) := by decide +kernel
theorem dX12_seed_21 : decode cX12_seed 21 = .ok (.ireturn, 1) := by decide +kernel
theorem dX12_begin_0 : decode cX12_begin 0 = .ok (.aload_n 0, 1) := by decide +kernel
theorem dX12_begin_1 : decode cX12_begin 1 = .ok (.getfield 23, 3) := by decide +kernel
theorem dX12_begin_4 : decode cX12_begin 4 = .ok (.iconst 0, 1) := by decide +kernel
theorem dX12_begin_5 : decode cX12_begin 5 = .ok (.aload_n 0, 1) := by decide +kernel
theorem dX12_begin_6 : decode cX12_begin 6 = .ok (.getfield 26, 3) := by decide +kernel
theorem dX12_begin_9 : decode cX12_begin 9 = .ok (.iconst 0, 1) := by decide +kernel
theorem dX12_begin_10 : decode cX12_begin 10 = .ok (.bipush 64, 2) := by decide +kernel
theorem dX12_begin_12 : decode cX12_begin 12 = .ok (.invokestatic 113, 3) := by decide +kernel
theorem dX12_begin_15 : decode cX12_begin 15 = .ok (.return_, 1) := by decide +kernel
theorem dX12_goOn_0 : decode cX12_goOn 0 = .ok (.aload_n 0, 1) := by decide +kernel
theorem dX12_goOn_1 : decode cX12_goOn 1 = .ok (.invokevirtual 138, 3) := by decide +kernel
theorem dX12_goOn_4 : decode cX12_goOn 4 = .ok (.iconst 0, 1) := by decide +kernel
theorem dX12_goOn_5 : decode cX12_goOn 5 = .ok (.istore_n 2, 1) := by decide +kernel
theorem dX12_goOn_6 : decode cX12_goOn 6 = .ok (.iload_n 2, 1) := by decide +kernel
theorem dX12_goOn_7 : decode cX12_goOn 7 = .ok (.iload_n 1, 1) := by decide +kernel
theorem dX12_goOn_8 : decode cX12_goOn 8 = .ok (.if_icmp .ge 16, 3) := by decide +kernel
theorem dX12_goOn_11 : decode cX12_goOn 11 = .ok (.aload_n 0, 1) := by decide +kernel
theorem dX12_goOn_12 : decode cX12_goOn 12 = .ok (.getfield 26, 3) := by decide +kernel
theorem dX12_goOn_15 : decode cX12_goOn 15 = .ok (.invokestatic 127, 3) := by decide +kernel
theorem dX12_goOn_18 : decode cX12_goOn 18 = .ok (.iinc 2 1, 3) := by decide +kernel
theorem dX12_goOn_21 : decode cX12_goOn 21 = .ok (.goto (-15), 3) := by decide +kernel
theorem dX12_goOn_24 : decode cX12_goOn 24 = .ok (.return_, 1) := by decide +kernel
theorem dX12_ahead_0 : decode cX12_ahead 0 = .ok (.aload_n 0, 1) := by decide +kernel
theorem dX12_ahead_1 : decode cX12_ahead 1 = .ok (.iload_n 1, 1) := by decide +kernel
theorem dX12_ahead_2 : decode cX12_ahead 2 = .ok (.invokevirtual 73, 3) := by decide +kernel
theorem dX12_ahead_5 : decode cX12_ahead 5 = .ok (.ifCond .eq 13, 3) := by decide +kernel
theorem dX12_ahead_8 : decode cX12_ahead 8 = .ok (.iload_n 2, 1) := by decide +kernel
theorem dX12_ahead_9 : decode cX12_ahead 9 = .ok (.iconst 0, 1) := by decide +kernel
theorem dX12_ahead_10 : decode cX12_ahead 10 = .ok (.bipush 60, 2) := by decide +kernel
theorem dX12_ahead_12 : decode cX12_ahead 12 = .ok (.invokestatic 35, 3) := by decide +kernel
theorem dX12_ahead_15 : decode cX12_ahead 15 = .ok (.ifCond .ne 5, 3) := by decide +kernel
theorem dX12_ahead_18 : decode cX12_ahead 18 = .ok (.iconst (-1), 1) := by decide +kernel
theorem dX12_ahead_19 : decode cX12_ahead 19 = .ok (.ireturn, 1) := by decide +kernel
theorem dX12_ahead_20 : decode cX12_ahead 20 = .ok (.aload_n 0, 1) := by decide +kernel
theorem dX12_ahead_21 : decode cX12_ahead 21 = .ok (.iload_n 2, 1) := by decide +kernel
theorem dX12_ahead_22 : decode cX12_ahead 22 = .ok (.invokevirtual 141, 3) := by decide +kernel
theorem dX12_ahead_25 : decode cX12_ahead 25 = .ok (.aload_n 0, 1) := by decide +kernel
theorem dX12_ahead_26 : decode cX12_ahead 26 = .ok (.getfield 26, 3) := by decide +kernel
theorem dX12_ahead_29 : decode cX12_ahead 29 = .ok (.bipush 18, 2) := by decide +kernel
theorem dX12_ahead_31 : decode cX12_ahead 31 = .ok (.iload_n 1, 1) := by decide +kernel
theorem dX12_ahead_32 : decode cX12_ahead 32 = .ok (.iadd, 1) := by decide +kernel
theorem dX12_ahead_33 : decode cX12_ahead 33 = .ok (.iaload, 1) := by decide +kernel
theorem dX12_ahead_34 : decode cX12_ahead 34 = .ok (.ireturn, 1) := by decide +kernel
theorem dX12_loudAhead_0 : decode cX12_loudAhead 0 = .ok (.iload_n 1, 1) := by decide +kernel
theorem dX12_loudAhead_1 : decode cX12_loudAhead 1 = .ok (.invokestatic 43, 3) := by decide +kernel
theorem dX12_loudAhead_4 : decode cX12_loudAhead 4 = .ok (.ifCond .eq 13, 3) := by decide +kernel
theorem dX12_loudAhead_7 : decode cX12_loudAhead 7 = .ok (.iload_n 2, 1) := by decide +kernel
theorem dX12_loudAhead_8 : decode cX12_loudAhead 8 = .ok (.iconst 0, 1) := by decide +kernel
theorem dX12_loudAhead_9 : decode cX12_loudAhead 9 = .ok (.bipush 60, 2) := by decide +kernel
theorem dX12_loudAhead_11 : decode cX12_loudAhead 11 = .ok (.invokestatic 35, 3) := by decide +kernel
theorem dX12_loudAhead_14 : decode cX12_loudAhead 14 = .ok (.ifCond .ne 5, 3) := by decide +kernel
theorem dX12_loudAhead_17 : decode cX12_loudAhead 17 = .ok (.iconst (-1), 1) := by decide +kernel
theorem dX12_loudAhead_18 : decode cX12_loudAhead 18 = .ok (.ireturn, 1) := by decide +kernel
theorem dX12_loudAhead_19 : decode cX12_loudAhead 19 = .ok (.aload_n 0, 1) := by decide +kernel
theorem dX12_loudAhead_20 : decode cX12_loudAhead 20 = .ok (.iload_n 2, 1) := by decide +kernel
theorem dX12_loudAhead_21 : decode cX12_loudAhead 21 = .ok (.invokevirtual 141, 3) := by decide +kernel
theorem dX12_loudAhead_24 : decode cX12_loudAhead 24 = .ok (.aload_n 0, 1) := by decide +kernel
theorem dX12_loudAhead_25 : decode cX12_loudAhead 25 = .ok (.getfield 26, 3) := by decide +kernel
theorem dX12_loudAhead_28 : decode cX12_loudAhead 28 = .ok (.iload_n 1, 1) := by decide +kernel
theorem dX12_loudAhead_29 : decode cX12_loudAhead 29 = .ok (.invokestatic 63, 3) := by decide +kernel
theorem dX12_loudAhead_32 : decode cX12_loudAhead 32 = .ok (.ireturn, 1) := by decide +kernel
theorem dX12_sleeps_0 : decode cX12_sleeps 0 = .ok (.aload_n 0, 1) := by decide +kernel
theorem dX12_sleeps_1 : decode cX12_sleeps 1 = .ok (.iload_n 1, 1) := by decide +kernel
theorem dX12_sleeps_2 : decode cX12_sleeps 2 = .ok (.invokevirtual 66, 3) := by decide +kernel
theorem dX12_sleeps_5 : decode cX12_sleeps 5 = .ok (.ifCond .eq 13, 3) := by decide +kernel
theorem dX12_sleeps_8 : decode cX12_sleeps 8 = .ok (.iload_n 2, 1) := by decide +kernel
theorem dX12_sleeps_9 : decode cX12_sleeps 9 = .ok (.iconst 0, 1) := by decide +kernel
theorem dX12_sleeps_10 : decode cX12_sleeps 10 = .ok (.bipush 60, 2) := by decide +kernel
theorem dX12_sleeps_12 : decode cX12_sleeps 12 = .ok (.invokestatic 35, 3) := by decide +kernel
theorem dX12_sleeps_15 : decode cX12_sleeps 15 = .ok (.ifCond .ne 5, 3) := by decide +kernel
theorem dX12_sleeps_18 : decode cX12_sleeps 18 = .ok (.iconst (-1), 1) := by decide +kernel
theorem dX12_sleeps_19 : decode cX12_sleeps 19 = .ok (.ireturn, 1) := by decide +kernel
theorem dX12_sleeps_20 : decode cX12_sleeps 20 = .ok (.aload_n 0, 1) := by decide +kernel
theorem dX12_sleeps_21 : decode cX12_sleeps 21 = .ok (.iload_n 2, 1) := by decide +kernel
theorem dX12_sleeps_22 : decode cX12_sleeps 22 = .ok (.invokevirtual 141, 3) := by decide +kernel
theorem dX12_sleeps_25 : decode cX12_sleeps 25 = .ok (.aload_n 0, 1) := by decide +kernel
theorem dX12_sleeps_26 : decode cX12_sleeps 26 = .ok (.getfield 26, 3) := by decide +kernel
theorem dX12_sleeps_29 : decode cX12_sleeps 29 = .ok (.bipush 26, 2) := by decide +kernel
theorem dX12_sleeps_31 : decode cX12_sleeps 31 = .ok (.iload_n 1, 1) := by decide +kernel
theorem dX12_sleeps_32 : decode cX12_sleeps 32 = .ok (.iadd, 1) := by decide +kernel
theorem dX12_sleeps_33 : decode cX12_sleeps 33 = .ok (.iaload, 1) := by decide +kernel
theorem dX12_sleeps_34 : decode cX12_sleeps 34 = .ok (.aload_n 0, 1) := by decide +kernel
theorem dX12_sleeps_35 : decode cX12_sleeps 35 = .ok (.getfield 23, 3) := by decide +kernel
theorem dX12_sleeps_38 : decode cX12_sleeps 38 = .ok (.bipush 26, 2) := by decide +kernel
theorem dX12_sleeps_40 : decode cX12_sleeps 40 = .ok (.iload_n 1, 1) := by decide +kernel
theorem dX12_sleeps_41 : decode cX12_sleeps 41 = .ok (.iadd, 1) := by decide +kernel
theorem dX12_sleeps_42 : decode cX12_sleeps 42 = .ok (.iaload, 1) := by decide +kernel
theorem dX12_sleeps_43 : decode cX12_sleeps 43 = .ok (.isub, 1) := by decide +kernel
theorem dX12_sleeps_44 : decode cX12_sleeps 44 = .ok (.ireturn, 1) := by decide +kernel
theorem dX12_peace_0 : decode cX12_peace 0 = .ok (.aload_n 0, 1) := by decide +kernel
theorem dX12_peace_1 : decode cX12_peace 1 = .ok (.invokevirtual 138, 3) := by decide +kernel
theorem dX12_peace_4 : decode cX12_peace 4 = .ok (.iconst 0, 1) := by decide +kernel
theorem dX12_peace_5 : decode cX12_peace 5 = .ok (.istore_n 1, 1) := by decide +kernel
theorem dX12_peace_6 : decode cX12_peace 6 = .ok (.iload_n 1, 1) := by decide +kernel
theorem dX12_peace_7 : decode cX12_peace 7 = .ok (.bipush 61, 2) := by decide +kernel
theorem dX12_peace_9 : decode cX12_peace 9 = .ok (.if_icmp .ge 37, 3) := by decide +kernel
theorem dX12_peace_12 : decode cX12_peace 12 = .ok (.aload_n 0, 1) := by decide +kernel
theorem dX12_peace_13 : decode cX12_peace 13 = .ok (.getfield 26, 3) := by decide +kernel
theorem dX12_peace_16 : decode cX12_peace 16 = .ok (.invokestatic 117, 3) := by decide +kernel
theorem dX12_peace_19 : decode cX12_peace 19 = .ok (.istore_n 2, 1) := by decide +kernel
theorem dX12_peace_20 : decode cX12_peace 20 = .ok (.aload_n 0, 1) := by decide +kernel
theorem dX12_peace_21 : decode cX12_peace 21 = .ok (.getfield 26, 3) := by decide +kernel
theorem dX12_peace_24 : decode cX12_peace 24 = .ok (.invokestatic 127, 3) := by decide +kernel
theorem dX12_peace_27 : decode cX12_peace 27 = .ok (.aload_n 0, 1) := by decide +kernel
theorem dX12_peace_28 : decode cX12_peace 28 = .ok (.getfield 26, 3) := by decide +kernel
theorem dX12_peace_31 : decode cX12_peace 31 = .ok (.invokestatic 117, 3) := by decide +kernel
theorem dX12_peace_34 : decode cX12_peace 34 = .ok (.iload_n 2, 1) := by decide +kernel
theorem dX12_peace_35 : decode cX12_peace 35 = .ok (.if_icmp .ne 5, 3) := by decide +kernel
theorem dX12_peace_38 : decode cX12_peace 38 = .ok (.iload_n 1, 1) := by decide +kernel
theorem dX12_peace_39 : decode cX12_peace 39 = .ok (.ireturn, 1) := by decide +kernel
theorem dX12_peace_40 : decode cX12_peace 40 = .ok (.iinc 1 1, 3) := by decide +kernel
theorem dX12_peace_43 : decode cX12_peace 43 = .ok (.goto (-37), 3) := by decide +kernel
theorem dX12_peace_46 : decode cX12_peace 46 = .ok (.bipush (-4), 2) := by decide +kernel
theorem dX12_peace_48 : decode cX12_peace 48 = .ok (.ireturn, 1) := by decide +kernel
theorem dX12_wokenOn_0 : decode cX12_wokenOn 0 = .ok (.aload_n 0, 1) := by decide +kernel
theorem dX12_wokenOn_1 : decode cX12_wokenOn 1 = .ok (.getfield 26, 3) := by decide +kernel
theorem dX12_wokenOn_4 : decode cX12_wokenOn 4 = .ok (.invokestatic 117, 3) := by decide +kernel
theorem dX12_wokenOn_7 : decode cX12_wokenOn 7 = .ok (.istore_n 2, 1) := by decide +kernel
theorem dX12_wokenOn_8 : decode cX12_wokenOn 8 = .ok (.iconst 0, 1) := by decide +kernel
theorem dX12_wokenOn_9 : decode cX12_wokenOn 9 = .ok (.istore_n 3, 1) := by decide +kernel
theorem dX12_wokenOn_10 : decode cX12_wokenOn 10 = .ok (.iload_n 3, 1) := by decide +kernel
theorem dX12_wokenOn_11 : decode cX12_wokenOn 11 = .ok (.iload_n 1, 1) := by decide +kernel
theorem dX12_wokenOn_12 : decode cX12_wokenOn 12 = .ok (.if_icmp .ge 16, 3) := by decide +kernel
theorem dX12_wokenOn_15 : decode cX12_wokenOn 15 = .ok (.aload_n 0, 1) := by decide +kernel
theorem dX12_wokenOn_16 : decode cX12_wokenOn 16 = .ok (.getfield 26, 3) := by decide +kernel
theorem dX12_wokenOn_19 : decode cX12_wokenOn 19 = .ok (.invokestatic 127, 3) := by decide +kernel
theorem dX12_wokenOn_22 : decode cX12_wokenOn 22 = .ok (.iinc 3 1, 3) := by decide +kernel
theorem dX12_wokenOn_25 : decode cX12_wokenOn 25 = .ok (.goto (-15), 3) := by decide +kernel
theorem dX12_wokenOn_28 : decode cX12_wokenOn 28 = .ok (.aload_n 0, 1) := by decide +kernel
theorem dX12_wokenOn_29 : decode cX12_wokenOn 29 = .ok (.getfield 26, 3) := by decide +kernel
theorem dX12_wokenOn_32 : decode cX12_wokenOn 32 = .ok (.invokestatic 117, 3) := by decide +kernel
theorem dX12_wokenOn_35 : decode cX12_wokenOn 35 = .ok (.iload_n 2, 1) := by decide +kernel
theorem dX12_wokenOn_36 : decode cX12_wokenOn 36 = .ok (.isub, 1) := by decide +kernel
theorem dX12_wokenOn_37 : decode cX12_wokenOn 37 = .ok (.ireturn, 1) := by decide +kernel
theorem dX12_best_0 : decode cX12_best 0 = .ok (.aload_n 0, 1) := by decide +kernel
theorem dX12_best_1 : decode cX12_best 1 = .ok (.iload_n 1, 1) := by decide +kernel
theorem dX12_best_2 : decode cX12_best 2 = .ok (.invokevirtual 73, 3) := by decide +kernel
theorem dX12_best_5 : decode cX12_best 5 = .ok (.ifCond .eq 22, 3) := by decide +kernel
theorem dX12_best_8 : decode cX12_best 8 = .ok (.iload_n 2, 1) := by decide +kernel
theorem dX12_best_9 : decode cX12_best 9 = .ok (.iconst 1, 1) := by decide +kernel
theorem dX12_best_10 : decode cX12_best 10 = .ok (.bipush 40, 2) := by decide +kernel
theorem dX12_best_12 : decode cX12_best 12 = .ok (.invokestatic 35, 3) := by decide +kernel
theorem dX12_best_15 : decode cX12_best 15 = .ok (.ifCond .eq 12, 3) := by decide +kernel
theorem dX12_best_18 : decode cX12_best 18 = .ok (.iload_n 3, 1) := by decide +kernel
theorem dX12_best_19 : decode cX12_best 19 = .ok (.iconst 0, 1) := by decide +kernel
theorem dX12_best_20 : decode cX12_best 20 = .ok (.iconst 1, 1) := by decide +kernel
theorem dX12_best_21 : decode cX12_best 21 = .ok (.invokestatic 35, 3) := by decide +kernel
theorem dX12_best_24 : decode cX12_best 24 = .ok (.ifCond .ne 5, 3) := by decide +kernel
theorem dX12_best_27 : decode cX12_best 27 = .ok (.iconst (-1), 1) := by decide +kernel
theorem dX12_best_28 : decode cX12_best 28 = .ok (.ireturn, 1) := by decide +kernel
theorem dX12_best_29 : decode cX12_best 29 = .ok (.iconst 0, 1) := by decide +kernel
theorem dX12_best_30 : decode cX12_best 30 = .ok (.istore 4, 2) := by decide +kernel
theorem dX12_best_32 : decode cX12_best 32 = .ok (.sipush 9999, 3) := by decide +kernel
theorem dX12_best_35 : decode cX12_best 35 = .ok (.istore 5, 2) := by decide +kernel
theorem dX12_best_37 : decode cX12_best 37 = .ok (.iconst 0, 1) := by decide +kernel
theorem dX12_best_38 : decode cX12_best 38 = .ok (.istore 6, 2) := by decide +kernel
theorem dX12_best_40 : decode cX12_best 40 = .ok (.iload 6, 2) := by decide +kernel
theorem dX12_best_42 : decode cX12_best 42 = .ok (.iconst 4, 1) := by decide +kernel
theorem dX12_best_43 : decode cX12_best 43 = .ok (.if_icmp .ge 62, 3) := by decide +kernel
theorem dX12_best_46 : decode cX12_best 46 = .ok (.aload_n 0, 1) := by decide +kernel
theorem dX12_best_47 : decode cX12_best 47 = .ok (.invokevirtual 138, 3) := by decide +kernel
theorem dX12_best_50 : decode cX12_best 50 = .ok (.aload_n 0, 1) := by decide +kernel
theorem dX12_best_51 : decode cX12_best 51 = .ok (.getfield 26, 3) := by decide +kernel
theorem dX12_best_54 : decode cX12_best 54 = .ok (.iconst 2, 1) := by decide +kernel
theorem dX12_best_55 : decode cX12_best 55 = .ok (.iload_n 1, 1) := by decide +kernel
theorem dX12_best_56 : decode cX12_best 56 = .ok (.iadd, 1) := by decide +kernel
theorem dX12_best_57 : decode cX12_best 57 = .ok (.iload 6, 2) := by decide +kernel
theorem dX12_best_59 : decode cX12_best 59 = .ok (.iastore, 1) := by decide +kernel
theorem dX12_best_60 : decode cX12_best 60 = .ok (.aload_n 0, 1) := by decide +kernel
theorem dX12_best_61 : decode cX12_best 61 = .ok (.iload_n 2, 1) := by decide +kernel
theorem dX12_best_62 : decode cX12_best 62 = .ok (.invokevirtual 145, 3) := by decide +kernel
theorem dX12_best_65 : decode cX12_best 65 = .ok (.istore 7, 2) := by decide +kernel
theorem dX12_best_67 : decode cX12_best 67 = .ok (.iload 7, 2) := by decide +kernel
theorem dX12_best_69 : decode cX12_best 69 = .ok (.iload 5, 2) := by decide +kernel
theorem dX12_best_71 : decode cX12_best 71 = .ok (.if_icmp .ge 8, 3) := by decide +kernel
theorem dX12_best_74 : decode cX12_best 74 = .ok (.iload 6, 2) := by decide +kernel
theorem dX12_best_76 : decode cX12_best 76 = .ok (.goto 5, 3) := by decide +kernel
theorem dX12_best_79 : decode cX12_best 79 = .ok (.iload 4, 2) := by decide +kernel
theorem dX12_best_81 : decode cX12_best 81 = .ok (.istore 4, 2) := by decide +kernel
theorem dX12_best_83 : decode cX12_best 83 = .ok (.iload 7, 2) := by decide +kernel
theorem dX12_best_85 : decode cX12_best 85 = .ok (.iload 5, 2) := by decide +kernel
theorem dX12_best_87 : decode cX12_best 87 = .ok (.if_icmp .ge 8, 3) := by decide +kernel
theorem dX12_best_90 : decode cX12_best 90 = .ok (.iload 7, 2) := by decide +kernel
theorem dX12_best_92 : decode cX12_best 92 = .ok (.goto 5, 3) := by decide +kernel
theorem dX12_best_95 : decode cX12_best 95 = .ok (.iload 5, 2) := by decide +kernel
theorem dX12_best_97 : decode cX12_best 97 = .ok (.istore 5, 2) := by decide +kernel
theorem dX12_best_99 : decode cX12_best 99 = .ok (.iinc 6 1, 3) := by decide +kernel
theorem dX12_best_102 : decode cX12_best 102 = .ok (.goto (-62), 3) := by decide +kernel
theorem dX12_best_105 : decode cX12_best 105 = .ok (.iload_n 3, 1) := by decide +kernel
theorem dX12_best_106 : decode cX12_best 106 = .ok (.ifCond .ne 8, 3) := by decide +kernel
theorem dX12_best_109 : decode cX12_best 109 = .ok (.iload 4, 2) := by decide +kernel
theorem dX12_best_111 : decode cX12_best 111 = .ok (.goto 5, 3) := by decide +kernel
theorem dX12_best_114 : decode cX12_best 114 = .ok (.iload 5, 2) := by decide +kernel
theorem dX12_best_116 : decode cX12_best 116 = .ok (.ireturn, 1) := by decide +kernel
theorem dX12_bestBed_0 : decode cX12_bestBed 0 = .ok (.aload_n 0, 1) := by decide +kernel
theorem dX12_bestBed_1 : decode cX12_bestBed 1 = .ok (.iload_n 1, 1) := by decide +kernel
theorem dX12_bestBed_2 : decode cX12_bestBed 2 = .ok (.invokevirtual 66, 3) := by decide +kernel
theorem dX12_bestBed_5 : decode cX12_bestBed 5 = .ok (.ifCond .eq 22, 3) := by decide +kernel
theorem dX12_bestBed_8 : decode cX12_bestBed 8 = .ok (.iload_n 2, 1) := by decide +kernel
theorem dX12_bestBed_9 : decode cX12_bestBed 9 = .ok (.iconst 1, 1) := by decide +kernel
theorem dX12_bestBed_10 : decode cX12_bestBed 10 = .ok (.bipush 40, 2) := by decide +kernel
theorem dX12_bestBed_12 : decode cX12_bestBed 12 = .ok (.invokestatic 35, 3) := by decide +kernel
theorem dX12_bestBed_15 : decode cX12_bestBed 15 = .ok (.ifCond .eq 12, 3) := by decide +kernel
theorem dX12_bestBed_18 : decode cX12_bestBed 18 = .ok (.iload_n 3, 1) := by decide +kernel
theorem dX12_bestBed_19 : decode cX12_bestBed 19 = .ok (.iconst 0, 1) := by decide +kernel
theorem dX12_bestBed_20 : decode cX12_bestBed 20 = .ok (.iconst 1, 1) := by decide +kernel
theorem dX12_bestBed_21 : decode cX12_bestBed 21 = .ok (.invokestatic 35, 3) := by decide +kernel
theorem dX12_bestBed_24 : decode cX12_bestBed 24 = .ok (.ifCond .ne 5, 3) := by decide +kernel
theorem dX12_bestBed_27 : decode cX12_bestBed 27 = .ok (.iconst (-1), 1) := by decide +kernel
theorem dX12_bestBed_28 : decode cX12_bestBed 28 = .ok (.ireturn, 1) := by decide +kernel
theorem dX12_bestBed_29 : decode cX12_bestBed 29 = .ok (.iconst 0, 1) := by decide +kernel
theorem dX12_bestBed_30 : decode cX12_bestBed 30 = .ok (.istore 4, 2) := by decide +kernel
theorem dX12_bestBed_32 : decode cX12_bestBed 32 = .ok (.sipush 9999, 3) := by decide +kernel
theorem dX12_bestBed_35 : decode cX12_bestBed 35 = .ok (.istore 5, 2) := by decide +kernel
theorem dX12_bestBed_37 : decode cX12_bestBed 37 = .ok (.iconst 0, 1) := by decide +kernel
theorem dX12_bestBed_38 : decode cX12_bestBed 38 = .ok (.istore 6, 2) := by decide +kernel
theorem dX12_bestBed_40 : decode cX12_bestBed 40 = .ok (.iload 6, 2) := by decide +kernel
theorem dX12_bestBed_42 : decode cX12_bestBed 42 = .ok (.iconst 4, 1) := by decide +kernel
theorem dX12_bestBed_43 : decode cX12_bestBed 43 = .ok (.if_icmp .ge 83, 3) := by decide +kernel
theorem dX12_bestBed_46 : decode cX12_bestBed 46 = .ok (.aload_n 0, 1) := by decide +kernel
theorem dX12_bestBed_47 : decode cX12_bestBed 47 = .ok (.invokevirtual 138, 3) := by decide +kernel
theorem dX12_bestBed_50 : decode cX12_bestBed 50 = .ok (.aload_n 0, 1) := by decide +kernel
theorem dX12_bestBed_51 : decode cX12_bestBed 51 = .ok (.getfield 26, 3) := by decide +kernel
theorem dX12_bestBed_54 : decode cX12_bestBed 54 = .ok (.bipush 37, 2) := by decide +kernel
theorem dX12_bestBed_56 : decode cX12_bestBed 56 = .ok (.iload_n 1, 1) := by decide +kernel
theorem dX12_bestBed_57 : decode cX12_bestBed 57 = .ok (.iadd, 1) := by decide +kernel
theorem dX12_bestBed_58 : decode cX12_bestBed 58 = .ok (.iload 6, 2) := by decide +kernel
theorem dX12_bestBed_60 : decode cX12_bestBed 60 = .ok (.iastore, 1) := by decide +kernel
theorem dX12_bestBed_61 : decode cX12_bestBed 61 = .ok (.aload_n 0, 1) := by decide +kernel
theorem dX12_bestBed_62 : decode cX12_bestBed 62 = .ok (.iload_n 2, 1) := by decide +kernel
theorem dX12_bestBed_63 : decode cX12_bestBed 63 = .ok (.invokevirtual 145, 3) := by decide +kernel
theorem dX12_bestBed_66 : decode cX12_bestBed 66 = .ok (.pop, 1) := by decide +kernel
theorem dX12_bestBed_67 : decode cX12_bestBed 67 = .ok (.aload_n 0, 1) := by decide +kernel
theorem dX12_bestBed_68 : decode cX12_bestBed 68 = .ok (.getfield 26, 3) := by decide +kernel
theorem dX12_bestBed_71 : decode cX12_bestBed 71 = .ok (.bipush 31, 2) := by decide +kernel
theorem dX12_bestBed_73 : decode cX12_bestBed 73 = .ok (.iload_n 1, 1) := by decide +kernel
theorem dX12_bestBed_74 : decode cX12_bestBed 74 = .ok (.iadd, 1) := by decide +kernel
theorem dX12_bestBed_75 : decode cX12_bestBed 75 = .ok (.iaload, 1) := by decide +kernel
theorem dX12_bestBed_76 : decode cX12_bestBed 76 = .ok (.aload_n 0, 1) := by decide +kernel
theorem dX12_bestBed_77 : decode cX12_bestBed 77 = .ok (.getfield 23, 3) := by decide +kernel
theorem dX12_bestBed_80 : decode cX12_bestBed 80 = .ok (.bipush 31, 2) := by decide +kernel
theorem dX12_bestBed_82 : decode cX12_bestBed 82 = .ok (.iload_n 1, 1) := by decide +kernel
theorem dX12_bestBed_83 : decode cX12_bestBed 83 = .ok (.iadd, 1) := by decide +kernel
theorem dX12_bestBed_84 : decode cX12_bestBed 84 = .ok (.iaload, 1) := by decide +kernel
theorem dX12_bestBed_85 : decode cX12_bestBed 85 = .ok (.isub, 1) := by decide +kernel
theorem dX12_bestBed_86 : decode cX12_bestBed 86 = .ok (.istore 7, 2) := by decide +kernel
theorem dX12_bestBed_88 : decode cX12_bestBed 88 = .ok (.iload 7, 2) := by decide +kernel
theorem dX12_bestBed_90 : decode cX12_bestBed 90 = .ok (.iload 5, 2) := by decide +kernel
theorem dX12_bestBed_92 : decode cX12_bestBed 92 = .ok (.if_icmp .ge 8, 3) := by decide +kernel
theorem dX12_bestBed_95 : decode cX12_bestBed 95 = .ok (.iload 6, 2) := by decide +kernel
theorem dX12_bestBed_97 : decode cX12_bestBed 97 = .ok (.goto 5, 3) := by decide +kernel
theorem dX12_bestBed_100 : decode cX12_bestBed 100 = .ok (.iload 4, 2) := by decide +kernel
theorem dX12_bestBed_102 : decode cX12_bestBed 102 = .ok (.istore 4, 2) := by decide +kernel
theorem dX12_bestBed_104 : decode cX12_bestBed 104 = .ok (.iload 7, 2) := by decide +kernel
theorem dX12_bestBed_106 : decode cX12_bestBed 106 = .ok (.iload 5, 2) := by decide +kernel
theorem dX12_bestBed_108 : decode cX12_bestBed 108 = .ok (.if_icmp .ge 8, 3) := by decide +kernel
theorem dX12_bestBed_111 : decode cX12_bestBed 111 = .ok (.iload 7, 2) := by decide +kernel
theorem dX12_bestBed_113 : decode cX12_bestBed 113 = .ok (.goto 5, 3) := by decide +kernel
theorem dX12_bestBed_116 : decode cX12_bestBed 116 = .ok (.iload 5, 2) := by decide +kernel
theorem dX12_bestBed_118 : decode cX12_bestBed 118 = .ok (.istore 5, 2) := by decide +kernel
theorem dX12_bestBed_120 : decode cX12_bestBed 120 = .ok (.iinc 6 1, 3) := by decide +kernel
theorem dX12_bestBed_123 : decode cX12_bestBed 123 = .ok (.goto (-83), 3) := by decide +kernel
theorem dX12_bestBed_126 : decode cX12_bestBed 126 = .ok (.iload_n 3, 1) := by decide +kernel
theorem dX12_bestBed_127 : decode cX12_bestBed 127 = .ok (.ifCond .ne 8, 3) := by decide +kernel
theorem dX12_bestBed_130 : decode cX12_bestBed 130 = .ok (.iload 4, 2) := by decide +kernel
theorem dX12_bestBed_132 : decode cX12_bestBed 132 = .ok (.goto 5, 3) := by decide +kernel
theorem dX12_bestBed_135 : decode cX12_bestBed 135 = .ok (.iload 5, 2) := by decide +kernel
theorem dX12_bestBed_137 : decode cX12_bestBed 137 = .ok (.ireturn, 1) := by decide +kernel
theorem dX12_change_0 : decode cX12_change 0 = .ok (.iload_n 1, 1) := by decide +kernel
theorem dX12_change_1 : decode cX12_change 1 = .ok (.iconst 1, 1) := by decide +kernel
theorem dX12_change_2 : decode cX12_change 2 = .ok (.bipush 40, 2) := by decide +kernel
theorem dX12_change_4 : decode cX12_change 4 = .ok (.invokestatic 35, 3) := by decide +kernel
theorem dX12_change_7 : decode cX12_change 7 = .ok (.ifCond .eq 12, 3) := by decide +kernel
theorem dX12_change_10 : decode cX12_change 10 = .ok (.iload_n 2, 1) := by decide +kernel
theorem dX12_change_11 : decode cX12_change 11 = .ok (.iconst 0, 1) := by decide +kernel
theorem dX12_change_12 : decode cX12_change 12 = .ok (.iconst 1, 1) := by decide +kernel
theorem dX12_change_13 : decode cX12_change 13 = .ok (.invokestatic 35, 3) := by decide +kernel
theorem dX12_change_16 : decode cX12_change 16 = .ok (.ifCond .ne 5, 3) := by decide +kernel
theorem dX12_change_19 : decode cX12_change 19 = .ok (.iconst (-1), 1) := by decide +kernel
theorem dX12_change_20 : decode cX12_change 20 = .ok (.ireturn, 1) := by decide +kernel
theorem dX12_change_21 : decode cX12_change 21 = .ok (.aload_n 0, 1) := by decide +kernel
theorem dX12_change_22 : decode cX12_change 22 = .ok (.invokevirtual 138, 3) := by decide +kernel
theorem dX12_change_25 : decode cX12_change 25 = .ok (.aload_n 0, 1) := by decide +kernel
theorem dX12_change_26 : decode cX12_change 26 = .ok (.iload_n 1, 1) := by decide +kernel
theorem dX12_change_27 : decode cX12_change 27 = .ok (.invokevirtual 145, 3) := by decide +kernel
theorem dX12_change_30 : decode cX12_change 30 = .ok (.istore_n 3, 1) := by decide +kernel
theorem dX12_change_31 : decode cX12_change 31 = .ok (.bipush (-4), 2) := by decide +kernel
theorem dX12_change_33 : decode cX12_change 33 = .ok (.istore 4, 2) := by decide +kernel
theorem dX12_change_35 : decode cX12_change 35 = .ok (.iconst 0, 1) := by decide +kernel
theorem dX12_change_36 : decode cX12_change 36 = .ok (.istore 5, 2) := by decide +kernel
theorem dX12_change_38 : decode cX12_change 38 = .ok (.iload 5, 2) := by decide +kernel
theorem dX12_change_40 : decode cX12_change 40 = .ok (.iconst 4, 1) := by decide +kernel
theorem dX12_change_41 : decode cX12_change 41 = .ok (.if_icmp .ge 139, 3) := by decide +kernel
theorem dX12_change_44 : decode cX12_change 44 = .ok (.iload 5, 2) := by decide +kernel
theorem dX12_change_46 : decode cX12_change 46 = .ok (.iconst 1, 1) := by decide +kernel
theorem dX12_change_47 : decode cX12_change 47 = .ok (.iadd, 1) := by decide +kernel
theorem dX12_change_48 : decode cX12_change 48 = .ok (.istore 6, 2) := by decide +kernel
theorem dX12_change_50 : decode cX12_change 50 = .ok (.iload 6, 2) := by decide +kernel
theorem dX12_change_52 : decode cX12_change 52 = .ok (.iconst 4, 1) := by decide +kernel
theorem dX12_change_53 : decode cX12_change 53 = .ok (.if_icmp .ge 121, 3) := by decide +kernel
theorem dX12_change_56 : decode cX12_change 56 = .ok (.aload_n 0, 1) := by decide +kernel
theorem dX12_change_57 : decode cX12_change 57 = .ok (.invokevirtual 138, 3) := by decide +kernel
theorem dX12_change_60 : decode cX12_change 60 = .ok (.iconst 0, 1) := by decide +kernel
theorem dX12_change_61 : decode cX12_change 61 = .ok (.istore 7, 2) := by decide +kernel
theorem dX12_change_63 : decode cX12_change 63 = .ok (.iload 7, 2) := by decide +kernel
theorem dX12_change_65 : decode cX12_change 65 = .ok (.aload_n 0, 1) := by decide +kernel
theorem dX12_change_66 : decode cX12_change 66 = .ok (.getfield 23, 3) := by decide +kernel
theorem dX12_change_69 : decode cX12_change 69 = .ok (.bipush 47, 2) := by decide +kernel
theorem dX12_change_71 : decode cX12_change 71 = .ok (.iaload, 1) := by decide +kernel
theorem dX12_change_72 : decode cX12_change 72 = .ok (.if_icmp .ge 55, 3) := by decide +kernel
theorem dX12_change_75 : decode cX12_change 75 = .ok (.aload_n 0, 1) := by decide +kernel
theorem dX12_change_76 : decode cX12_change 76 = .ok (.getfield 23, 3) := by decide +kernel
theorem dX12_change_79 : decode cX12_change 79 = .ok (.iconst 2, 1) := by decide +kernel
theorem dX12_change_80 : decode cX12_change 80 = .ok (.iload 7, 2) := by decide +kernel
theorem dX12_change_82 : decode cX12_change 82 = .ok (.iadd, 1) := by decide +kernel
theorem dX12_change_83 : decode cX12_change 83 = .ok (.iaload, 1) := by decide +kernel
theorem dX12_change_84 : decode cX12_change 84 = .ok (.istore 8, 2) := by decide +kernel
theorem dX12_change_86 : decode cX12_change 86 = .ok (.aload_n 0, 1) := by decide +kernel
theorem dX12_change_87 : decode cX12_change 87 = .ok (.getfield 26, 3) := by decide +kernel
theorem dX12_change_90 : decode cX12_change 90 = .ok (.iconst 2, 1) := by decide +kernel
theorem dX12_change_91 : decode cX12_change 91 = .ok (.iload 7, 2) := by decide +kernel
theorem dX12_change_93 : decode cX12_change 93 = .ok (.iadd, 1) := by decide +kernel
theorem dX12_change_94 : decode cX12_change 94 = .ok (.iload 8, 2) := by decide +kernel
theorem dX12_change_96 : decode cX12_change 96 = .ok (.iload 5, 2) := by decide +kernel
theorem dX12_change_98 : decode cX12_change 98 = .ok (.if_icmp .ne 8, 3) := by decide +kernel
theorem dX12_change_101 : decode cX12_change 101 = .ok (.iload 6, 2) := by decide +kernel
theorem dX12_change_103 : decode cX12_change 103 = .ok (.goto 17, 3) := by decide +kernel
theorem dX12_change_106 : decode cX12_change 106 = .ok (.iload 8, 2) := by decide +kernel
theorem dX12_change_108 : decode cX12_change 108 = .ok (.iload 6, 2) := by decide +kernel
theorem dX12_change_110 : decode cX12_change 110 = .ok (.if_icmp .ne 8, 3) := by decide +kernel
theorem dX12_change_113 : decode cX12_change 113 = .ok (.iload 5, 2) := by decide +kernel
theorem dX12_change_115 : decode cX12_change 115 = .ok (.goto 5, 3) := by decide +kernel
theorem dX12_change_118 : decode cX12_change 118 = .ok (.iload 8, 2) := by decide +kernel
theorem dX12_change_120 : decode cX12_change 120 = .ok (.iastore, 1) := by decide +kernel
theorem dX12_change_121 : decode cX12_change 121 = .ok (.iinc 7 1, 3) := by decide +kernel
theorem dX12_change_124 : decode cX12_change 124 = .ok (.goto (-61), 3) := by decide +kernel
theorem dX12_change_127 : decode cX12_change 127 = .ok (.aload_n 0, 1) := by decide +kernel
theorem dX12_change_128 : decode cX12_change 128 = .ok (.iload_n 1, 1) := by decide +kernel
theorem dX12_change_129 : decode cX12_change 129 = .ok (.invokevirtual 145, 3) := by decide +kernel
theorem dX12_change_132 : decode cX12_change 132 = .ok (.istore 7, 2) := by decide +kernel
theorem dX12_change_134 : decode cX12_change 134 = .ok (.iload 7, 2) := by decide +kernel
theorem dX12_change_136 : decode cX12_change 136 = .ok (.iload_n 3, 1) := by decide +kernel
theorem dX12_change_137 : decode cX12_change 137 = .ok (.if_icmp .ge 14, 3) := by decide +kernel
theorem dX12_change_140 : decode cX12_change 140 = .ok (.bipush 10, 2) := by decide +kernel
theorem dX12_change_142 : decode cX12_change 142 = .ok (.iload 5, 2) := by decide +kernel
theorem dX12_change_144 : decode cX12_change 144 = .ok (.imul, 1) := by decide +kernel
theorem dX12_change_145 : decode cX12_change 145 = .ok (.iload 6, 2) := by decide +kernel
theorem dX12_change_147 : decode cX12_change 147 = .ok (.iadd, 1) := by decide +kernel
theorem dX12_change_148 : decode cX12_change 148 = .ok (.goto 5, 3) := by decide +kernel
theorem dX12_change_151 : decode cX12_change 151 = .ok (.iload 4, 2) := by decide +kernel
theorem dX12_change_153 : decode cX12_change 153 = .ok (.istore 4, 2) := by decide +kernel
theorem dX12_change_155 : decode cX12_change 155 = .ok (.iload 7, 2) := by decide +kernel
theorem dX12_change_157 : decode cX12_change 157 = .ok (.iload_n 3, 1) := by decide +kernel
theorem dX12_change_158 : decode cX12_change 158 = .ok (.if_icmp .ge 8, 3) := by decide +kernel
theorem dX12_change_161 : decode cX12_change 161 = .ok (.iload 7, 2) := by decide +kernel
theorem dX12_change_163 : decode cX12_change 163 = .ok (.goto 4, 3) := by decide +kernel
theorem dX12_change_166 : decode cX12_change 166 = .ok (.iload_n 3, 1) := by decide +kernel
theorem dX12_change_167 : decode cX12_change 167 = .ok (.istore_n 3, 1) := by decide +kernel
theorem dX12_change_168 : decode cX12_change 168 = .ok (.iinc 6 1, 3) := by decide +kernel
theorem dX12_change_171 : decode cX12_change 171 = .ok (.goto (-121), 3) := by decide +kernel
theorem dX12_change_174 : decode cX12_change 174 = .ok (.iinc 5 1, 3) := by decide +kernel
theorem dX12_change_177 : decode cX12_change 177 = .ok (.goto (-139), 3) := by decide +kernel
theorem dX12_change_180 : decode cX12_change 180 = .ok (.iload 4, 2) := by decide +kernel
theorem dX12_change_182 : decode cX12_change 182 = .ok (.bipush (-4), 2) := by decide +kernel
theorem dX12_change_184 : decode cX12_change 184 = .ok (.if_icmp .eq 7, 3) := by decide +kernel
theorem dX12_change_187 : decode cX12_change 187 = .ok (.iload_n 2, 1) := by decide +kernel
theorem dX12_change_188 : decode cX12_change 188 = .ok (.ifCond .ne 8, 3) := by decide +kernel
theorem dX12_change_191 : decode cX12_change 191 = .ok (.iload 4, 2) := by decide +kernel
theorem dX12_change_193 : decode cX12_change 193 = .ok (.goto 4, 3) := by decide +kernel
theorem dX12_change_196 : decode cX12_change 196 = .ok (.iload_n 3, 1) := by decide +kernel
theorem dX12_change_197 : decode cX12_change 197 = .ok (.ireturn, 1) := by decide +kernel
theorem dX12_backs_0 : decode cX12_backs 0 = .ok (.iload_n 1, 1) := by decide +kernel
theorem dX12_backs_1 : decode cX12_backs 1 = .ok (.iconst 1, 1) := by decide +kernel
theorem dX12_backs_2 : decode cX12_backs 2 = .ok (.bipush 40, 2) := by decide +kernel
theorem dX12_backs_4 : decode cX12_backs 4 = .ok (.invokestatic 35, 3) := by decide +kernel
theorem dX12_backs_7 : decode cX12_backs 7 = .ok (.ifCond .eq 12, 3) := by decide +kernel
theorem dX12_backs_10 : decode cX12_backs 10 = .ok (.iload_n 2, 1) := by decide +kernel
theorem dX12_backs_11 : decode cX12_backs 11 = .ok (.iconst 0, 1) := by decide +kernel
theorem dX12_backs_12 : decode cX12_backs 12 = .ok (.iconst 1, 1) := by decide +kernel
theorem dX12_backs_13 : decode cX12_backs 13 = .ok (.invokestatic 35, 3) := by decide +kernel
theorem dX12_backs_16 : decode cX12_backs 16 = .ok (.ifCond .ne 5, 3) := by decide +kernel
theorem dX12_backs_19 : decode cX12_backs 19 = .ok (.iconst (-1), 1) := by decide +kernel
theorem dX12_backs_20 : decode cX12_backs 20 = .ok (.ireturn, 1) := by decide +kernel
theorem dX12_backs_21 : decode cX12_backs 21 = .ok (.bipush (-4), 2) := by decide +kernel
theorem dX12_backs_23 : decode cX12_backs 23 = .ok (.istore_n 3, 1) := by decide +kernel
theorem dX12_backs_24 : decode cX12_backs 24 = .ok (.iconst 0, 1) := by decide +kernel
theorem dX12_backs_25 : decode cX12_backs 25 = .ok (.istore 4, 2) := by decide +kernel
theorem dX12_backs_27 : decode cX12_backs 27 = .ok (.iload 4, 2) := by decide +kernel
theorem dX12_backs_29 : decode cX12_backs 29 = .ok (.iconst 1, 1) := by decide +kernel
theorem dX12_backs_30 : decode cX12_backs 30 = .ok (.aload_n 0, 1) := by decide +kernel
theorem dX12_backs_31 : decode cX12_backs 31 = .ok (.getfield 23, 3) := by decide +kernel
theorem dX12_backs_34 : decode cX12_backs 34 = .ok (.bipush 47, 2) := by decide +kernel
theorem dX12_backs_36 : decode cX12_backs 36 = .ok (.iaload, 1) := by decide +kernel
theorem dX12_backs_37 : decode cX12_backs 37 = .ok (.ishl, 1) := by decide +kernel
theorem dX12_backs_38 : decode cX12_backs 38 = .ok (.if_icmp .ge 101, 3) := by decide +kernel
theorem dX12_backs_41 : decode cX12_backs 41 = .ok (.iload_n 3, 1) := by decide +kernel
theorem dX12_backs_42 : decode cX12_backs 42 = .ok (.bipush (-4), 2) := by decide +kernel
theorem dX12_backs_44 : decode cX12_backs 44 = .ok (.if_icmp .eq 15, 3) := by decide +kernel
theorem dX12_backs_47 : decode cX12_backs 47 = .ok (.iload 4, 2) := by decide +kernel
theorem dX12_backs_49 : decode cX12_backs 49 = .ok (.invokestatic 148, 3) := by decide +kernel
theorem dX12_backs_52 : decode cX12_backs 52 = .ok (.iload_n 3, 1) := by decide +kernel
theorem dX12_backs_53 : decode cX12_backs 53 = .ok (.invokestatic 148, 3) := by decide +kernel
theorem dX12_backs_56 : decode cX12_backs 56 = .ok (.if_icmp .ge 77, 3) := by decide +kernel
theorem dX12_backs_59 : decode cX12_backs 59 = .ok (.aload_n 0, 1) := by decide +kernel
theorem dX12_backs_60 : decode cX12_backs 60 = .ok (.invokevirtual 138, 3) := by decide +kernel
theorem dX12_backs_63 : decode cX12_backs 63 = .ok (.iconst 0, 1) := by decide +kernel
theorem dX12_backs_64 : decode cX12_backs 64 = .ok (.istore 5, 2) := by decide +kernel
theorem dX12_backs_66 : decode cX12_backs 66 = .ok (.iload 5, 2) := by decide +kernel
theorem dX12_backs_68 : decode cX12_backs 68 = .ok (.aload_n 0, 1) := by decide +kernel
theorem dX12_backs_69 : decode cX12_backs 69 = .ok (.getfield 23, 3) := by decide +kernel
theorem dX12_backs_72 : decode cX12_backs 72 = .ok (.bipush 47, 2) := by decide +kernel
theorem dX12_backs_74 : decode cX12_backs 74 = .ok (.iaload, 1) := by decide +kernel
theorem dX12_backs_75 : decode cX12_backs 75 = .ok (.if_icmp .ge 43, 3) := by decide +kernel
theorem dX12_backs_78 : decode cX12_backs 78 = .ok (.aload_n 0, 1) := by decide +kernel
theorem dX12_backs_79 : decode cX12_backs 79 = .ok (.getfield 26, 3) := by decide +kernel
theorem dX12_backs_82 : decode cX12_backs 82 = .ok (.bipush 18, 2) := by decide +kernel
theorem dX12_backs_84 : decode cX12_backs 84 = .ok (.iload 5, 2) := by decide +kernel
theorem dX12_backs_86 : decode cX12_backs 86 = .ok (.iadd, 1) := by decide +kernel
theorem dX12_backs_87 : decode cX12_backs 87 = .ok (.iload 4, 2) := by decide +kernel
theorem dX12_backs_89 : decode cX12_backs 89 = .ok (.iload 5, 2) := by decide +kernel
theorem dX12_backs_91 : decode cX12_backs 91 = .ok (.invokestatic 151, 3) := by decide +kernel
theorem dX12_backs_94 : decode cX12_backs 94 = .ok (.ifCond .eq 7, 3) := by decide +kernel
theorem dX12_backs_97 : decode cX12_backs 97 = .ok (.iconst 0, 1) := by decide +kernel
theorem dX12_backs_98 : decode cX12_backs 98 = .ok (.goto 13, 3) := by decide +kernel
theorem dX12_backs_101 : decode cX12_backs 101 = .ok (.aload_n 0, 1) := by decide +kernel
theorem dX12_backs_102 : decode cX12_backs 102 = .ok (.getfield 26, 3) := by decide +kernel
theorem dX12_backs_105 : decode cX12_backs 105 = .ok (.bipush 18, 2) := by decide +kernel
theorem dX12_backs_107 : decode cX12_backs 107 = .ok (.iload 5, 2) := by decide +kernel
theorem dX12_backs_109 : decode cX12_backs 109 = .ok (.iadd, 1) := by decide +kernel
theorem dX12_backs_110 : decode cX12_backs 110 = .ok (.iaload, 1) := by decide +kernel
theorem dX12_backs_111 : decode cX12_backs 111 = .ok (.iastore, 1) := by decide +kernel
theorem dX12_backs_112 : decode cX12_backs 112 = .ok (.iinc 5 1, 3) := by decide +kernel
theorem dX12_backs_115 : decode cX12_backs 115 = .ok (.goto (-49), 3) := by decide +kernel
theorem dX12_backs_118 : decode cX12_backs 118 = .ok (.aload_n 0, 1) := by decide +kernel
theorem dX12_backs_119 : decode cX12_backs 119 = .ok (.iload_n 1, 1) := by decide +kernel
theorem dX12_backs_120 : decode cX12_backs 120 = .ok (.invokevirtual 145, 3) := by decide +kernel
theorem dX12_backs_123 : decode cX12_backs 123 = .ok (.ifCond .ne 8, 3) := by decide +kernel
theorem dX12_backs_126 : decode cX12_backs 126 = .ok (.iload 4, 2) := by decide +kernel
theorem dX12_backs_128 : decode cX12_backs 128 = .ok (.goto 4, 3) := by decide +kernel
theorem dX12_backs_131 : decode cX12_backs 131 = .ok (.iload_n 3, 1) := by decide +kernel
theorem dX12_backs_132 : decode cX12_backs 132 = .ok (.istore_n 3, 1) := by decide +kernel
theorem dX12_backs_133 : decode cX12_backs 133 = .ok (.iinc 4 1, 3) := by decide +kernel
theorem dX12_backs_136 : decode cX12_backs 136 = .ok (.goto (-109), 3) := by decide +kernel
theorem dX12_backs_139 : decode cX12_backs 139 = .ok (.iload_n 3, 1) := by decide +kernel
theorem dX12_backs_140 : decode cX12_backs 140 = .ok (.bipush (-4), 2) := by decide +kernel
theorem dX12_backs_142 : decode cX12_backs 142 = .ok (.if_icmp .eq 8, 3) := by decide +kernel
theorem dX12_backs_145 : decode cX12_backs 145 = .ok (.iload_n 2, 1) := by decide +kernel
theorem dX12_backs_146 : decode cX12_backs 146 = .ok (.iconst 1, 1) := by decide +kernel
theorem dX12_backs_147 : decode cX12_backs 147 = .ok (.if_icmp .ne 7, 3) := by decide +kernel
theorem dX12_backs_150 : decode cX12_backs 150 = .ok (.iload_n 3, 1) := by decide +kernel
theorem dX12_backs_151 : decode cX12_backs 151 = .ok (.goto 7, 3) := by decide +kernel
theorem dX12_backs_154 : decode cX12_backs 154 = .ok (.iload_n 3, 1) := by decide +kernel
theorem dX12_backs_155 : decode cX12_backs 155 = .ok (.invokestatic 148, 3) := by decide +kernel
theorem dX12_backs_158 : decode cX12_backs 158 = .ok (.ireturn, 1) := by decide +kernel
theorem dX12_luck_0 : decode cX12_luck 0 = .ok (.aload_n 0, 1) := by decide +kernel
theorem dX12_luck_1 : decode cX12_luck 1 = .ok (.iload_n 1, 1) := by decide +kernel
theorem dX12_luck_2 : decode cX12_luck 2 = .ok (.invokevirtual 66, 3) := by decide +kernel
theorem dX12_luck_5 : decode cX12_luck 5 = .ok (.ifCond .eq 22, 3) := by decide +kernel
theorem dX12_luck_8 : decode cX12_luck 8 = .ok (.iload_n 2, 1) := by decide +kernel
theorem dX12_luck_9 : decode cX12_luck 9 = .ok (.iconst 0, 1) := by decide +kernel
theorem dX12_luck_10 : decode cX12_luck 10 = .ok (.bipush 10, 2) := by decide +kernel
theorem dX12_luck_12 : decode cX12_luck 12 = .ok (.invokestatic 35, 3) := by decide +kernel
theorem dX12_luck_15 : decode cX12_luck 15 = .ok (.ifCond .eq 12, 3) := by decide +kernel
theorem dX12_luck_18 : decode cX12_luck 18 = .ok (.iload_n 3, 1) := by decide +kernel
theorem dX12_luck_19 : decode cX12_luck 19 = .ok (.iconst 0, 1) := by decide +kernel
theorem dX12_luck_20 : decode cX12_luck 20 = .ok (.iconst 1, 1) := by decide +kernel
theorem dX12_luck_21 : decode cX12_luck 21 = .ok (.invokestatic 35, 3) := by decide +kernel
theorem dX12_luck_24 : decode cX12_luck 24 = .ok (.ifCond .ne 5, 3) := by decide +kernel
theorem dX12_luck_27 : decode cX12_luck 27 = .ok (.iconst (-1), 1) := by decide +kernel
theorem dX12_luck_28 : decode cX12_luck 28 = .ok (.ireturn, 1) := by decide +kernel
theorem dX12_luck_29 : decode cX12_luck 29 = .ok (.iconst 0, 1) := by decide +kernel
theorem dX12_luck_30 : decode cX12_luck 30 = .ok (.istore 4, 2) := by decide +kernel
theorem dX12_luck_32 : decode cX12_luck 32 = .ok (.iconst 1, 1) := by decide +kernel
theorem dX12_luck_33 : decode cX12_luck 33 = .ok (.istore 5, 2) := by decide +kernel
theorem dX12_luck_35 : decode cX12_luck 35 = .ok (.iconst 0, 1) := by decide +kernel
theorem dX12_luck_36 : decode cX12_luck 36 = .ok (.istore 6, 2) := by decide +kernel
theorem dX12_luck_38 : decode cX12_luck 38 = .ok (.iload 6, 2) := by decide +kernel
theorem dX12_luck_40 : decode cX12_luck 40 = .ok (.aload_n 0, 1) := by decide +kernel
theorem dX12_luck_41 : decode cX12_luck 41 = .ok (.getfield 23, 3) := by decide +kernel
theorem dX12_luck_44 : decode cX12_luck 44 = .ok (.bipush 47, 2) := by decide +kernel
theorem dX12_luck_46 : decode cX12_luck 46 = .ok (.iaload, 1) := by decide +kernel
theorem dX12_luck_47 : decode cX12_luck 47 = .ok (.if_icmp .ge 16, 3) := by decide +kernel
theorem dX12_luck_50 : decode cX12_luck 50 = .ok (.iload 5, 2) := by decide +kernel
theorem dX12_luck_52 : decode cX12_luck 52 = .ok (.bipush 10, 2) := by decide +kernel
theorem dX12_luck_54 : decode cX12_luck 54 = .ok (.imul, 1) := by decide +kernel
theorem dX12_luck_55 : decode cX12_luck 55 = .ok (.istore 5, 2) := by decide +kernel
theorem dX12_luck_57 : decode cX12_luck 57 = .ok (.iinc 6 1, 3) := by decide +kernel
theorem dX12_luck_60 : decode cX12_luck 60 = .ok (.goto (-22), 3) := by decide +kernel
theorem dX12_luck_63 : decode cX12_luck 63 = .ok (.iconst 0, 1) := by decide +kernel
theorem dX12_luck_64 : decode cX12_luck 64 = .ok (.istore 6, 2) := by decide +kernel
theorem dX12_luck_66 : decode cX12_luck 66 = .ok (.iload 6, 2) := by decide +kernel
theorem dX12_luck_68 : decode cX12_luck 68 = .ok (.iconst 1, 1) := by decide +kernel
theorem dX12_luck_69 : decode cX12_luck 69 = .ok (.aload_n 0, 1) := by decide +kernel
theorem dX12_luck_70 : decode cX12_luck 70 = .ok (.getfield 23, 3) := by decide +kernel
theorem dX12_luck_73 : decode cX12_luck 73 = .ok (.bipush 47, 2) := by decide +kernel
theorem dX12_luck_75 : decode cX12_luck 75 = .ok (.iaload, 1) := by decide +kernel
theorem dX12_luck_76 : decode cX12_luck 76 = .ok (.ishl, 1) := by decide +kernel
theorem dX12_luck_77 : decode cX12_luck 77 = .ok (.if_icmp .ge 133, 3) := by decide +kernel
theorem dX12_luck_80 : decode cX12_luck 80 = .ok (.iconst 1, 1) := by decide +kernel
theorem dX12_luck_81 : decode cX12_luck 81 = .ok (.istore 7, 2) := by decide +kernel
theorem dX12_luck_83 : decode cX12_luck 83 = .ok (.iconst 0, 1) := by decide +kernel
theorem dX12_luck_84 : decode cX12_luck 84 = .ok (.istore 8, 2) := by decide +kernel
theorem dX12_luck_86 : decode cX12_luck 86 = .ok (.iconst 0, 1) := by decide +kernel
theorem dX12_luck_87 : decode cX12_luck 87 = .ok (.istore 9, 2) := by decide +kernel
theorem dX12_luck_89 : decode cX12_luck 89 = .ok (.iload 9, 2) := by decide +kernel
theorem dX12_luck_91 : decode cX12_luck 91 = .ok (.aload_n 0, 1) := by decide +kernel
theorem dX12_luck_92 : decode cX12_luck 92 = .ok (.getfield 23, 3) := by decide +kernel
theorem dX12_luck_95 : decode cX12_luck 95 = .ok (.bipush 47, 2) := by decide +kernel
theorem dX12_luck_97 : decode cX12_luck 97 = .ok (.iaload, 1) := by decide +kernel
theorem dX12_luck_98 : decode cX12_luck 98 = .ok (.if_icmp .ge 81, 3) := by decide +kernel
theorem dX12_luck_101 : decode cX12_luck 101 = .ok (.iload 7, 2) := by decide +kernel
theorem dX12_luck_103 : decode cX12_luck 103 = .ok (.iload 6, 2) := by decide +kernel
theorem dX12_luck_105 : decode cX12_luck 105 = .ok (.iload 9, 2) := by decide +kernel
theorem dX12_luck_107 : decode cX12_luck 107 = .ok (.invokestatic 151, 3) := by decide +kernel
theorem dX12_luck_110 : decode cX12_luck 110 = .ok (.ifCond .eq 7, 3) := by decide +kernel
theorem dX12_luck_113 : decode cX12_luck 113 = .ok (.iload_n 2, 1) := by decide +kernel
theorem dX12_luck_114 : decode cX12_luck 114 = .ok (.goto 7, 3) := by decide +kernel
theorem dX12_luck_117 : decode cX12_luck 117 = .ok (.bipush 10, 2) := by decide +kernel
theorem dX12_luck_119 : decode cX12_luck 119 = .ok (.iload_n 2, 1) := by decide +kernel
theorem dX12_luck_120 : decode cX12_luck 120 = .ok (.isub, 1) := by decide +kernel
theorem dX12_luck_121 : decode cX12_luck 121 = .ok (.imul, 1) := by decide +kernel
theorem dX12_luck_122 : decode cX12_luck 122 = .ok (.istore 7, 2) := by decide +kernel
theorem dX12_luck_124 : decode cX12_luck 124 = .ok (.iload 8, 2) := by decide +kernel
theorem dX12_luck_126 : decode cX12_luck 126 = .ok (.iload 6, 2) := by decide +kernel
theorem dX12_luck_128 : decode cX12_luck 128 = .ok (.iload 9, 2) := by decide +kernel
theorem dX12_luck_130 : decode cX12_luck 130 = .ok (.invokestatic 151, 3) := by decide +kernel
theorem dX12_luck_133 : decode cX12_luck 133 = .ok (.ifCond .ne 36, 3) := by decide +kernel
theorem dX12_luck_136 : decode cX12_luck 136 = .ok (.aload_n 0, 1) := by decide +kernel
theorem dX12_luck_137 : decode cX12_luck 137 = .ok (.getfield 23, 3) := by decide +kernel
theorem dX12_luck_140 : decode cX12_luck 140 = .ok (.iconst 2, 1) := by decide +kernel
theorem dX12_luck_141 : decode cX12_luck 141 = .ok (.iload 9, 2) := by decide +kernel
theorem dX12_luck_143 : decode cX12_luck 143 = .ok (.iadd, 1) := by decide +kernel
theorem dX12_luck_144 : decode cX12_luck 144 = .ok (.iaload, 1) := by decide +kernel
theorem dX12_luck_145 : decode cX12_luck 145 = .ok (.aload_n 0, 1) := by decide +kernel
theorem dX12_luck_146 : decode cX12_luck 146 = .ok (.getfield 23, 3) := by decide +kernel
theorem dX12_luck_149 : decode cX12_luck 149 = .ok (.bipush 37, 2) := by decide +kernel
theorem dX12_luck_151 : decode cX12_luck 151 = .ok (.iload_n 1, 1) := by decide +kernel
theorem dX12_luck_152 : decode cX12_luck 152 = .ok (.iadd, 1) := by decide +kernel
theorem dX12_luck_153 : decode cX12_luck 153 = .ok (.iaload, 1) := by decide +kernel
theorem dX12_luck_154 : decode cX12_luck 154 = .ok (.if_icmp .ne 15, 3) := by decide +kernel
theorem dX12_luck_157 : decode cX12_luck 157 = .ok (.aload_n 0, 1) := by decide +kernel
theorem dX12_luck_158 : decode cX12_luck 158 = .ok (.getfield 23, 3) := by decide +kernel
theorem dX12_luck_161 : decode cX12_luck 161 = .ok (.iload 9, 2) := by decide +kernel
theorem dX12_luck_163 : decode cX12_luck 163 = .ok (.invokestatic 59, 3) := by decide +kernel
theorem dX12_luck_166 : decode cX12_luck 166 = .ok (.goto 4, 3) := by decide +kernel
theorem dX12_luck_169 : decode cX12_luck 169 = .ok (.iconst 0, 1) := by decide +kernel
theorem dX12_luck_170 : decode cX12_luck 170 = .ok (.iadd, 1) := by decide +kernel
theorem dX12_luck_171 : decode cX12_luck 171 = .ok (.istore 8, 2) := by decide +kernel
theorem dX12_luck_173 : decode cX12_luck 173 = .ok (.iinc 9 1, 3) := by decide +kernel
theorem dX12_luck_176 : decode cX12_luck 176 = .ok (.goto (-87), 3) := by decide +kernel
theorem dX12_luck_179 : decode cX12_luck 179 = .ok (.iload 4, 2) := by decide +kernel
theorem dX12_luck_181 : decode cX12_luck 181 = .ok (.iload 8, 2) := by decide +kernel
theorem dX12_luck_183 : decode cX12_luck 183 = .ok (.aload_n 0, 1) := by decide +kernel
theorem dX12_luck_184 : decode cX12_luck 184 = .ok (.getfield 23, 3) := by decide +kernel
theorem dX12_luck_187 : decode cX12_luck 187 = .ok (.bipush 42, 2) := by decide +kernel
theorem dX12_luck_189 : decode cX12_luck 189 = .ok (.iload_n 1, 1) := by decide +kernel
theorem dX12_luck_190 : decode cX12_luck 190 = .ok (.iadd, 1) := by decide +kernel
theorem dX12_luck_191 : decode cX12_luck 191 = .ok (.iaload, 1) := by decide +kernel
theorem dX12_luck_192 : decode cX12_luck 192 = .ok (.if_icmp .gt 8, 3) := by decide +kernel
theorem dX12_luck_195 : decode cX12_luck 195 = .ok (.iload 7, 2) := by decide +kernel
theorem dX12_luck_197 : decode cX12_luck 197 = .ok (.goto 4, 3) := by decide +kernel
theorem dX12_luck_200 : decode cX12_luck 200 = .ok (.iconst 0, 1) := by decide +kernel
theorem dX12_luck_201 : decode cX12_luck 201 = .ok (.iadd, 1) := by decide +kernel
theorem dX12_luck_202 : decode cX12_luck 202 = .ok (.istore 4, 2) := by decide +kernel
theorem dX12_luck_204 : decode cX12_luck 204 = .ok (.iinc 6 1, 3) := by decide +kernel
theorem dX12_luck_207 : decode cX12_luck 207 = .ok (.goto (-141), 3) := by decide +kernel
theorem dX12_luck_210 : decode cX12_luck 210 = .ok (.iload 4, 2) := by decide +kernel
theorem dX12_luck_212 : decode cX12_luck 212 = .ok (.istore 6, 2) := by decide +kernel
theorem dX12_luck_214 : decode cX12_luck 214 = .ok (.iload 5, 2) := by decide +kernel
theorem dX12_luck_216 : decode cX12_luck 216 = .ok (.istore 7, 2) := by decide +kernel
theorem dX12_luck_218 : decode cX12_luck 218 = .ok (.iload 7, 2) := by decide +kernel
theorem dX12_luck_220 : decode cX12_luck 220 = .ok (.ifCond .le 21, 3) := by decide +kernel
theorem dX12_luck_223 : decode cX12_luck 223 = .ok (.iload 6, 2) := by decide +kernel
theorem dX12_luck_225 : decode cX12_luck 225 = .ok (.iload 7, 2) := by decide +kernel
theorem dX12_luck_227 : decode cX12_luck 227 = .ok (.irem, 1) := by decide +kernel
theorem dX12_luck_228 : decode cX12_luck 228 = .ok (.istore 8, 2) := by decide +kernel
theorem dX12_luck_230 : decode cX12_luck 230 = .ok (.iload 7, 2) := by decide +kernel
theorem dX12_luck_232 : decode cX12_luck 232 = .ok (.istore 6, 2) := by decide +kernel
theorem dX12_luck_234 : decode cX12_luck 234 = .ok (.iload 8, 2) := by decide +kernel
theorem dX12_luck_236 : decode cX12_luck 236 = .ok (.istore 7, 2) := by decide +kernel
theorem dX12_luck_238 : decode cX12_luck 238 = .ok (.goto (-20), 3) := by decide +kernel
theorem dX12_luck_241 : decode cX12_luck 241 = .ok (.iload_n 3, 1) := by decide +kernel
theorem dX12_luck_242 : decode cX12_luck 242 = .ok (.ifCond .ne 8, 3) := by decide +kernel
theorem dX12_luck_245 : decode cX12_luck 245 = .ok (.iload 4, 2) := by decide +kernel
theorem dX12_luck_247 : decode cX12_luck 247 = .ok (.goto 5, 3) := by decide +kernel
theorem dX12_luck_250 : decode cX12_luck 250 = .ok (.iload 5, 2) := by decide +kernel
theorem dX12_luck_252 : decode cX12_luck 252 = .ok (.iload 6, 2) := by decide +kernel
theorem dX12_luck_254 : decode cX12_luck 254 = .ok (.idiv, 1) := by decide +kernel
theorem dX12_luck_255 : decode cX12_luck 255 = .ok (.ireturn, 1) := by decide +kernel
theorem dX12_thanked_0 : decode cX12_thanked 0 = .ok (.iload_n 1, 1) := by decide +kernel
theorem dX12_thanked_1 : decode cX12_thanked 1 = .ok (.iconst 0, 1) := by decide +kernel
theorem dX12_thanked_2 : decode cX12_thanked 2 = .ok (.bipush 9, 2) := by decide +kernel
theorem dX12_thanked_4 : decode cX12_thanked 4 = .ok (.invokestatic 35, 3) := by decide +kernel
theorem dX12_thanked_7 : decode cX12_thanked 7 = .ok (.ifCond .ne 5, 3) := by decide +kernel
theorem dX12_thanked_10 : decode cX12_thanked 10 = .ok (.iconst (-1), 1) := by decide +kernel
theorem dX12_thanked_11 : decode cX12_thanked 11 = .ok (.ireturn, 1) := by decide +kernel
theorem dX12_thanked_12 : decode cX12_thanked 12 = .ok (.iconst 0, 1) := by decide +kernel
theorem dX12_thanked_13 : decode cX12_thanked 13 = .ok (.istore_n 2, 1) := by decide +kernel
theorem dX12_thanked_14 : decode cX12_thanked 14 = .ok (.iconst 0, 1) := by decide +kernel
theorem dX12_thanked_15 : decode cX12_thanked 15 = .ok (.istore_n 3, 1) := by decide +kernel
theorem dX12_thanked_16 : decode cX12_thanked 16 = .ok (.iload_n 3, 1) := by decide +kernel
theorem dX12_thanked_17 : decode cX12_thanked 17 = .ok (.aload_n 0, 1) := by decide +kernel
theorem dX12_thanked_18 : decode cX12_thanked 18 = .ok (.getfield 23, 3) := by decide +kernel
theorem dX12_thanked_21 : decode cX12_thanked 21 = .ok (.bipush 47, 2) := by decide +kernel
theorem dX12_thanked_23 : decode cX12_thanked 23 = .ok (.iaload, 1) := by decide +kernel
theorem dX12_thanked_24 : decode cX12_thanked 24 = .ok (.if_icmp .ge 37, 3) := by decide +kernel
theorem dX12_thanked_27 : decode cX12_thanked 27 = .ok (.iload_n 2, 1) := by decide +kernel
theorem dX12_thanked_28 : decode cX12_thanked 28 = .ok (.aload_n 0, 1) := by decide +kernel
theorem dX12_thanked_29 : decode cX12_thanked 29 = .ok (.getfield 23, 3) := by decide +kernel
theorem dX12_thanked_32 : decode cX12_thanked 32 = .ok (.bipush 10, 2) := by decide +kernel
theorem dX12_thanked_34 : decode cX12_thanked 34 = .ok (.iload_n 3, 1) := by decide +kernel
theorem dX12_thanked_35 : decode cX12_thanked 35 = .ok (.iadd, 1) := by decide +kernel
theorem dX12_thanked_36 : decode cX12_thanked 36 = .ok (.iaload, 1) := by decide +kernel
theorem dX12_thanked_37 : decode cX12_thanked 37 = .ok (.iload_n 1, 1) := by decide +kernel
theorem dX12_thanked_38 : decode cX12_thanked 38 = .ok (.if_icmp .ne 14, 3) := by decide +kernel
theorem dX12_thanked_41 : decode cX12_thanked 41 = .ok (.aload_n 0, 1) := by decide +kernel
theorem dX12_thanked_42 : decode cX12_thanked 42 = .ok (.getfield 23, 3) := by decide +kernel
theorem dX12_thanked_45 : decode cX12_thanked 45 = .ok (.iload_n 3, 1) := by decide +kernel
theorem dX12_thanked_46 : decode cX12_thanked 46 = .ok (.invokestatic 59, 3) := by decide +kernel
theorem dX12_thanked_49 : decode cX12_thanked 49 = .ok (.goto 4, 3) := by decide +kernel
theorem dX12_thanked_52 : decode cX12_thanked 52 = .ok (.iconst 0, 1) := by decide +kernel
theorem dX12_thanked_53 : decode cX12_thanked 53 = .ok (.iadd, 1) := by decide +kernel
theorem dX12_thanked_54 : decode cX12_thanked 54 = .ok (.istore_n 2, 1) := by decide +kernel
theorem dX12_thanked_55 : decode cX12_thanked 55 = .ok (.iinc 3 1, 3) := by decide +kernel
theorem dX12_thanked_58 : decode cX12_thanked 58 = .ok (.goto (-42), 3) := by decide +kernel
theorem dX12_thanked_61 : decode cX12_thanked 61 = .ok (.iload_n 2, 1) := by decide +kernel
theorem dX12_thanked_62 : decode cX12_thanked 62 = .ok (.ireturn, 1) := by decide +kernel
theorem dX12_image_0 : decode cX12_image 0 = .ok (.aload_n 0, 1) := by decide +kernel
theorem dX12_image_1 : decode cX12_image 1 = .ok (.getfield 23, 3) := by decide +kernel
theorem dX12_image_4 : decode cX12_image 4 = .ok (.iconst 0, 1) := by decide +kernel
theorem dX12_image_5 : decode cX12_image 5 = .ok (.aload_n 0, 1) := by decide +kernel
theorem dX12_image_6 : decode cX12_image 6 = .ok (.getfield 32, 3) := by decide +kernel
theorem dX12_image_9 : decode cX12_image 9 = .ok (.iconst 0, 1) := by decide +kernel
theorem dX12_image_10 : decode cX12_image 10 = .ok (.sipush 353, 3) := by decide +kernel
theorem dX12_image_13 : decode cX12_image 13 = .ok (.invokestatic 113, 3) := by decide +kernel
theorem dX12_image_16 : decode cX12_image 16 = .ok (.aload_n 0, 1) := by decide +kernel
theorem dX12_image_17 : decode cX12_image 17 = .ok (.iconst 1, 1) := by decide +kernel
theorem dX12_image_18 : decode cX12_image 18 = .ok (.putfield 154, 3) := by decide +kernel
theorem dX12_image_21 : decode cX12_image 21 = .ok (.iconst 1, 1) := by decide +kernel
theorem dX12_image_22 : decode cX12_image 22 = .ok (.ireturn, 1) := by decide +kernel
theorem dX12_restore_0 : decode cX12_restore 0 = .ok (.aload_n 0, 1) := by decide +kernel
theorem dX12_restore_1 : decode cX12_restore 1 = .ok (.getfield 154, 3) := by decide +kernel
theorem dX12_restore_4 : decode cX12_restore 4 = .ok (.ifCond .ne 6, 3) := by decide +kernel
theorem dX12_restore_7 : decode cX12_restore 7 = .ok (.bipush (-4), 2) := by decide +kernel
theorem dX12_restore_9 : decode cX12_restore 9 = .ok (.ireturn, 1) := by decide +kernel
theorem dX12_restore_10 : decode cX12_restore 10 = .ok (.aload_n 0, 1) := by decide +kernel
theorem dX12_restore_11 : decode cX12_restore 11 = .ok (.getfield 32, 3) := by decide +kernel
theorem dX12_restore_14 : decode cX12_restore 14 = .ok (.iconst 0, 1) := by decide +kernel
theorem dX12_restore_15 : decode cX12_restore 15 = .ok (.aload_n 0, 1) := by decide +kernel
theorem dX12_restore_16 : decode cX12_restore 16 = .ok (.getfield 23, 3) := by decide +kernel
theorem dX12_restore_19 : decode cX12_restore 19 = .ok (.iconst 0, 1) := by decide +kernel
theorem dX12_restore_20 : decode cX12_restore 20 = .ok (.sipush 353, 3) := by decide +kernel
theorem dX12_restore_23 : decode cX12_restore 23 = .ok (.invokestatic 113, 3) := by decide +kernel
theorem dX12_restore_26 : decode cX12_restore 26 = .ok (.iconst 1, 1) := by decide +kernel
theorem dX12_restore_27 : decode cX12_restore 27 = .ok (.ireturn, 1) := by decide +kernel
theorem dX12_isSheet_0 : decode cX12_isSheet 0 = .ok (.iload_n 0, 1) := by decide +kernel
theorem dX12_isSheet_1 : decode cX12_isSheet 1 = .ok (.iconst 0, 1) := by decide +kernel
theorem dX12_isSheet_2 : decode cX12_isSheet 2 = .ok (.iconst 3, 1) := by decide +kernel
theorem dX12_isSheet_3 : decode cX12_isSheet 3 = .ok (.invokestatic 35, 3) := by decide +kernel
theorem dX12_isSheet_6 : decode cX12_isSheet 6 = .ok (.ireturn, 1) := by decide +kernel
theorem dX12_isPart_0 : decode cX12_isPart 0 = .ok (.iload_n 1, 1) := by decide +kernel
theorem dX12_isPart_1 : decode cX12_isPart 1 = .ok (.ifCond .lt 23, 3) := by decide +kernel
theorem dX12_isPart_4 : decode cX12_isPart 4 = .ok (.iload_n 0, 1) := by decide +kernel
theorem dX12_isPart_5 : decode cX12_isPart 5 = .ok (.ifCond .lt 19, 3) := by decide +kernel
theorem dX12_isPart_8 : decode cX12_isPart 8 = .ok (.iload_n 1, 1) := by decide +kernel
theorem dX12_isPart_9 : decode cX12_isPart 9 = .ok (.iload_n 2, 1) := by decide +kernel
theorem dX12_isPart_10 : decode cX12_isPart 10 = .ok (.if_icmp .gt 14, 3) := by decide +kernel
theorem dX12_isPart_13 : decode cX12_isPart 13 = .ok (.iload_n 0, 1) := by decide +kernel
theorem dX12_isPart_14 : decode cX12_isPart 14 = .ok (.iload_n 2, 1) := by decide +kernel
theorem dX12_isPart_15 : decode cX12_isPart 15 = .ok (.iload_n 1, 1) := by decide +kernel
theorem dX12_isPart_16 : decode cX12_isPart 16 = .ok (.isub, 1) := by decide +kernel
theorem dX12_isPart_17 : decode cX12_isPart 17 = .ok (.if_icmp .gt 7, 3) := by decide +kernel
theorem dX12_isPart_20 : decode cX12_isPart 20 = .ok (.iconst 1, 1) := by decide +kernel
theorem dX12_isPart_21 : decode cX12_isPart 21 = .ok (.goto 4, 3) := by decide +kernel
theorem dX12_isPart_24 : decode cX12_isPart 24 = .ok (.iconst 0, 1) := by decide +kernel
theorem dX12_isPart_25 : decode cX12_isPart 25 = .ok (.ireturn, 1) := by decide +kernel
theorem dX12_wrong_0 : decode cX12_wrong 0 = .ok (.aload_n 0, 1) := by decide +kernel
theorem dX12_wrong_1 : decode cX12_wrong 1 = .ok (.getfield 7, 3) := by decide +kernel
theorem dX12_wrong_4 : decode cX12_wrong 4 = .ok (.iload_n 1, 1) := by decide +kernel
theorem dX12_wrong_5 : decode cX12_wrong 5 = .ok (.iaload, 1) := by decide +kernel
theorem dX12_wrong_6 : decode cX12_wrong 6 = .ok (.ifCond .ge 8, 3) := by decide +kernel
theorem dX12_wrong_9 : decode cX12_wrong 9 = .ok (.bipush (-11), 2) := by decide +kernel
theorem dX12_wrong_11 : decode cX12_wrong 11 = .ok (.goto 39, 3) := by decide +kernel
theorem dX12_wrong_14 : decode cX12_wrong 14 = .ok (.aload_n 0, 1) := by decide +kernel
theorem dX12_wrong_15 : decode cX12_wrong 15 = .ok (.getfield 7, 3) := by decide +kernel
theorem dX12_wrong_18 : decode cX12_wrong 18 = .ok (.iload_n 1, 1) := by decide +kernel
theorem dX12_wrong_19 : decode cX12_wrong 19 = .ok (.iaload, 1) := by decide +kernel
theorem dX12_wrong_20 : decode cX12_wrong 20 = .ok (.iload_n 2, 1) := by decide +kernel
theorem dX12_wrong_21 : decode cX12_wrong 21 = .ok (.if_icmp .eq 8, 3) := by decide +kernel
theorem dX12_wrong_24 : decode cX12_wrong 24 = .ok (.bipush (-12), 2) := by decide +kernel
theorem dX12_wrong_26 : decode cX12_wrong 26 = .ok (.goto 24, 3) := by decide +kernel
theorem dX12_wrong_29 : decode cX12_wrong 29 = .ok (.iload_n 3, 1) := by decide +kernel
theorem dX12_wrong_30 : decode cX12_wrong 30 = .ok (.iload 4, 2) := by decide +kernel
theorem dX12_wrong_32 : decode cX12_wrong 32 = .ok (.aload_n 0, 1) := by decide +kernel
theorem dX12_wrong_33 : decode cX12_wrong 33 = .ok (.getfield 13, 3) := by decide +kernel
theorem dX12_wrong_36 : decode cX12_wrong 36 = .ok (.iload_n 1, 1) := by decide +kernel
theorem dX12_wrong_37 : decode cX12_wrong 37 = .ok (.iaload, 1) := by decide +kernel
theorem dX12_wrong_38 : decode cX12_wrong 38 = .ok (.invokestatic 158, 3) := by decide +kernel
theorem dX12_wrong_41 : decode cX12_wrong 41 = .ok (.ifCond .eq 7, 3) := by decide +kernel
theorem dX12_wrong_44 : decode cX12_wrong 44 = .ok (.iconst 0, 1) := by decide +kernel
theorem dX12_wrong_45 : decode cX12_wrong 45 = .ok (.goto 5, 3) := by decide +kernel
theorem dX12_wrong_48 : decode cX12_wrong 48 = .ok (.bipush (-13), 2) := by decide +kernel
theorem dX12_wrong_50 : decode cX12_wrong 50 = .ok (.ireturn, 1) := by decide +kernel
theorem dX12_heard_0 : decode cX12_heard 0 = .ok (.aload_n 0, 1) := by decide +kernel
theorem dX12_heard_1 : decode cX12_heard 1 = .ok (.iload_n 1, 1) := by decide +kernel
theorem dX12_heard_2 : decode cX12_heard 2 = .ok (.invokevirtual 73, 3) := by decide +kernel
theorem dX12_heard_5 : decode cX12_heard 5 = .ok (.ifCond .eq 40, 3) := by decide +kernel
theorem dX12_heard_8 : decode cX12_heard 8 = .ok (.iload_n 2, 1) := by decide +kernel
theorem dX12_heard_9 : decode cX12_heard 9 = .ok (.invokestatic 161, 3) := by decide +kernel
theorem dX12_heard_12 : decode cX12_heard 12 = .ok (.ifCond .eq 33, 3) := by decide +kernel
theorem dX12_heard_15 : decode cX12_heard 15 = .ok (.iload_n 3, 1) := by decide +kernel
theorem dX12_heard_16 : decode cX12_heard 16 = .ok (.iconst 0, 1) := by decide +kernel
theorem dX12_heard_17 : decode cX12_heard 17 = .ok (.iconst 3, 1) := by decide +kernel
theorem dX12_heard_18 : decode cX12_heard 18 = .ok (.invokestatic 35, 3) := by decide +kernel
theorem dX12_heard_21 : decode cX12_heard 21 = .ok (.ifCond .eq 24, 3) := by decide +kernel
theorem dX12_heard_24 : decode cX12_heard 24 = .ok (.iload 5, 2) := by decide +kernel
theorem dX12_heard_26 : decode cX12_heard 26 = .ok (.iconst 1, 1) := by decide +kernel
theorem dX12_heard_27 : decode cX12_heard 27 = .ok (.bipush 8, 2) := by decide +kernel
theorem dX12_heard_29 : decode cX12_heard 29 = .ok (.invokestatic 35, 3) := by decide +kernel
theorem dX12_heard_32 : decode cX12_heard 32 = .ok (.ifCond .eq 13, 3) := by decide +kernel
theorem dX12_heard_35 : decode cX12_heard 35 = .ok (.iload 6, 2) := by decide +kernel
theorem dX12_heard_37 : decode cX12_heard 37 = .ok (.iconst 0, 1) := by decide +kernel
theorem dX12_heard_38 : decode cX12_heard 38 = .ok (.iconst 1, 1) := by decide +kernel
theorem dX12_heard_39 : decode cX12_heard 39 = .ok (.invokestatic 35, 3) := by decide +kernel
theorem dX12_heard_42 : decode cX12_heard 42 = .ok (.ifCond .ne 5, 3) := by decide +kernel
theorem dX12_heard_45 : decode cX12_heard 45 = .ok (.iconst (-1), 1) := by decide +kernel
theorem dX12_heard_46 : decode cX12_heard 46 = .ok (.ireturn, 1) := by decide +kernel
theorem dX12_heard_47 : decode cX12_heard 47 = .ok (.aload_n 0, 1) := by decide +kernel
theorem dX12_heard_48 : decode cX12_heard 48 = .ok (.iload_n 2, 1) := by decide +kernel
theorem dX12_heard_49 : decode cX12_heard 49 = .ok (.iload_n 3, 1) := by decide +kernel
theorem dX12_heard_50 : decode cX12_heard 50 = .ok (.iload 4, 2) := by decide +kernel
theorem dX12_heard_52 : decode cX12_heard 52 = .ok (.iload 5, 2) := by decide +kernel
theorem dX12_heard_54 : decode cX12_heard 54 = .ok (.invokevirtual 164, 3) := by decide +kernel
theorem dX12_heard_57 : decode cX12_heard 57 = .ok (.istore 7, 2) := by decide +kernel
theorem dX12_heard_59 : decode cX12_heard 59 = .ok (.iload 7, 2) := by decide +kernel
theorem dX12_heard_61 : decode cX12_heard 61 = .ok (.ifCond .eq 6, 3) := by decide +kernel
theorem dX12_heard_64 : decode cX12_heard 64 = .ok (.iload 7, 2) := by decide +kernel
theorem dX12_heard_66 : decode cX12_heard 66 = .ok (.ireturn, 1) := by decide +kernel
theorem dX12_heard_67 : decode cX12_heard 67 = .ok (.iconst 0, 1) := by decide +kernel
theorem dX12_heard_68 : decode cX12_heard 68 = .ok (.istore 8, 2) := by decide +kernel
theorem dX12_heard_70 : decode cX12_heard 70 = .ok (.iload 6, 2) := by decide +kernel
theorem dX12_heard_72 : decode cX12_heard 72 = .ok (.istore 9, 2) := by decide +kernel
theorem dX12_heard_74 : decode cX12_heard 74 = .ok (.iload 9, 2) := by decide +kernel
theorem dX12_heard_76 : decode cX12_heard 76 = .ok (.iload 6, 2) := by decide +kernel
theorem dX12_heard_78 : decode cX12_heard 78 = .ok (.ifCond .ne 7, 3) := by decide +kernel
theorem dX12_heard_81 : decode cX12_heard 81 = .ok (.iconst 5, 1) := by decide +kernel
theorem dX12_heard_82 : decode cX12_heard 82 = .ok (.goto 5, 3) := by decide +kernel
theorem dX12_heard_85 : decode cX12_heard 85 = .ok (.bipush 10, 2) := by decide +kernel
theorem dX12_heard_87 : decode cX12_heard 87 = .ok (.if_icmp .ge 146, 3) := by decide +kernel
theorem dX12_heard_90 : decode cX12_heard 90 = .ok (.aload_n 0, 1) := by decide +kernel
theorem dX12_heard_91 : decode cX12_heard 91 = .ok (.getfield 23, 3) := by decide +kernel
theorem dX12_heard_94 : decode cX12_heard 94 = .ok (.bipush 18, 2) := by decide +kernel
theorem dX12_heard_96 : decode cX12_heard 96 = .ok (.iload_n 1, 1) := by decide +kernel
theorem dX12_heard_97 : decode cX12_heard 97 = .ok (.iadd, 1) := by decide +kernel
theorem dX12_heard_98 : decode cX12_heard 98 = .ok (.iaload, 1) := by decide +kernel
theorem dX12_heard_99 : decode cX12_heard 99 = .ok (.istore 10, 2) := by decide +kernel
theorem dX12_heard_101 : decode cX12_heard 101 = .ok (.iconst 1, 1) := by decide +kernel
theorem dX12_heard_102 : decode cX12_heard 102 = .ok (.istore 11, 2) := by decide +kernel
theorem dX12_heard_104 : decode cX12_heard 104 = .ok (.iconst 0, 1) := by decide +kernel
theorem dX12_heard_105 : decode cX12_heard 105 = .ok (.istore 12, 2) := by decide +kernel
theorem dX12_heard_107 : decode cX12_heard 107 = .ok (.iload 12, 2) := by decide +kernel
theorem dX12_heard_109 : decode cX12_heard 109 = .ok (.iload 5, 2) := by decide +kernel
theorem dX12_heard_111 : decode cX12_heard 111 = .ok (.if_icmp .ge 98, 3) := by decide +kernel
theorem dX12_heard_114 : decode cX12_heard 114 = .ok (.iload 6, 2) := by decide +kernel
theorem dX12_heard_116 : decode cX12_heard 116 = .ok (.ifCond .ne 8, 3) := by decide +kernel
theorem dX12_heard_119 : decode cX12_heard 119 = .ok (.iload 9, 2) := by decide +kernel
theorem dX12_heard_121 : decode cX12_heard 121 = .ok (.goto 12, 3) := by decide +kernel
theorem dX12_heard_124 : decode cX12_heard 124 = .ok (.aload_n 0, 1) := by decide +kernel
theorem dX12_heard_125 : decode cX12_heard 125 = .ok (.getfield 23, 3) := by decide +kernel
theorem dX12_heard_128 : decode cX12_heard 128 = .ok (.bipush 48, 2) := by decide +kernel
theorem dX12_heard_130 : decode cX12_heard 130 = .ok (.iload_n 1, 1) := by decide +kernel
theorem dX12_heard_131 : decode cX12_heard 131 = .ok (.iadd, 1) := by decide +kernel
theorem dX12_heard_132 : decode cX12_heard 132 = .ok (.iaload, 1) := by decide +kernel
theorem dX12_heard_133 : decode cX12_heard 133 = .ok (.iload 6, 2) := by decide +kernel
theorem dX12_heard_135 : decode cX12_heard 135 = .ok (.iconst 1, 1) := by decide +kernel
theorem dX12_heard_136 : decode cX12_heard 136 = .ok (.if_icmp .ne 8, 3) := by decide +kernel
theorem dX12_heard_139 : decode cX12_heard 139 = .ok (.iload 9, 2) := by decide +kernel
theorem dX12_heard_141 : decode cX12_heard 141 = .ok (.goto 12, 3) := by decide +kernel
theorem dX12_heard_144 : decode cX12_heard 144 = .ok (.aload_n 0, 1) := by decide +kernel
theorem dX12_heard_145 : decode cX12_heard 145 = .ok (.getfield 23, 3) := by decide +kernel
theorem dX12_heard_148 : decode cX12_heard 148 = .ok (.bipush 56, 2) := by decide +kernel
theorem dX12_heard_150 : decode cX12_heard 150 = .ok (.iload_n 1, 1) := by decide +kernel
theorem dX12_heard_151 : decode cX12_heard 151 = .ok (.iadd, 1) := by decide +kernel
theorem dX12_heard_152 : decode cX12_heard 152 = .ok (.iaload, 1) := by decide +kernel
theorem dX12_heard_153 : decode cX12_heard 153 = .ok (.iload 10, 2) := by decide +kernel
theorem dX12_heard_155 : decode cX12_heard 155 = .ok (.aload_n 0, 1) := by decide +kernel
theorem dX12_heard_156 : decode cX12_heard 156 = .ok (.getfield 23, 3) := by decide +kernel
theorem dX12_heard_159 : decode cX12_heard 159 = .ok (.iconst 0, 1) := by decide +kernel
theorem dX12_heard_160 : decode cX12_heard 160 = .ok (.iaload, 1) := by decide +kernel
theorem dX12_heard_161 : decode cX12_heard 161 = .ok (.iload 12, 2) := by decide +kernel
theorem dX12_heard_163 : decode cX12_heard 163 = .ok (.iadd, 1) := by decide +kernel
theorem dX12_heard_164 : decode cX12_heard 164 = .ok (.invokestatic 121, 3) := by decide +kernel
theorem dX12_heard_167 : decode cX12_heard 167 = .ok (.istore 10, 2) := by decide +kernel
theorem dX12_heard_169 : decode cX12_heard 169 = .ok (.iload 11, 2) := by decide +kernel
theorem dX12_heard_171 : decode cX12_heard 171 = .ok (.ifCond .eq 29, 3) := by decide +kernel
theorem dX12_heard_174 : decode cX12_heard 174 = .ok (.aload_n 0, 1) := by decide +kernel
theorem dX12_heard_175 : decode cX12_heard 175 = .ok (.getfield 16, 3) := by decide +kernel
theorem dX12_heard_178 : decode cX12_heard 178 = .ok (.bipush 24, 2) := by decide +kernel
theorem dX12_heard_180 : decode cX12_heard 180 = .ok (.iload_n 2, 1) := by decide +kernel
theorem dX12_heard_181 : decode cX12_heard 181 = .ok (.imul, 1) := by decide +kernel
theorem dX12_heard_182 : decode cX12_heard 182 = .ok (.iload 4, 2) := by decide +kernel
theorem dX12_heard_184 : decode cX12_heard 184 = .ok (.iadd, 1) := by decide +kernel
theorem dX12_heard_185 : decode cX12_heard 185 = .ok (.iload 12, 2) := by decide +kernel
theorem dX12_heard_187 : decode cX12_heard 187 = .ok (.iadd, 1) := by decide +kernel
theorem dX12_heard_188 : decode cX12_heard 188 = .ok (.laload, 1) := by decide +kernel
theorem dX12_heard_189 : decode cX12_heard 189 = .ok (.iload 10, 2) := by decide +kernel
theorem dX12_heard_191 : decode cX12_heard 191 = .ok (.i2l, 1) := by decide +kernel
theorem dX12_heard_192 : decode cX12_heard 192 = .ok (.lcmp, 1) := by decide +kernel
theorem dX12_heard_193 : decode cX12_heard 193 = .ok (.ifCond .ne 7, 3) := by decide +kernel
theorem dX12_heard_196 : decode cX12_heard 196 = .ok (.iconst 1, 1) := by decide +kernel
theorem dX12_heard_197 : decode cX12_heard 197 = .ok (.goto 4, 3) := by decide +kernel
theorem dX12_heard_200 : decode cX12_heard 200 = .ok (.iconst 0, 1) := by decide +kernel
theorem dX12_heard_201 : decode cX12_heard 201 = .ok (.istore 11, 2) := by decide +kernel
theorem dX12_heard_203 : decode cX12_heard 203 = .ok (.iinc 12 1, 3) := by decide +kernel
theorem dX12_heard_206 : decode cX12_heard 206 = .ok (.goto (-99), 3) := by decide +kernel
theorem dX12_heard_209 : decode cX12_heard 209 = .ok (.iload 8, 2) := by decide +kernel
theorem dX12_heard_211 : decode cX12_heard 211 = .ok (.iload 11, 2) := by decide +kernel
theorem dX12_heard_213 : decode cX12_heard 213 = .ok (.ifCond .eq 10, 3) := by decide +kernel
theorem dX12_heard_216 : decode cX12_heard 216 = .ok (.iconst 1, 1) := by decide +kernel
theorem dX12_heard_217 : decode cX12_heard 217 = .ok (.iload 9, 2) := by decide +kernel
theorem dX12_heard_219 : decode cX12_heard 219 = .ok (.ishl, 1) := by decide +kernel
theorem dX12_heard_220 : decode cX12_heard 220 = .ok (.goto 4, 3) := by decide +kernel
theorem dX12_heard_223 : decode cX12_heard 223 = .ok (.iconst 0, 1) := by decide +kernel
theorem dX12_heard_224 : decode cX12_heard 224 = .ok (.ior, 1) := by decide +kernel
theorem dX12_heard_225 : decode cX12_heard 225 = .ok (.istore 8, 2) := by decide +kernel
theorem dX12_heard_227 : decode cX12_heard 227 = .ok (.iinc 9 1, 3) := by decide +kernel
theorem dX12_heard_230 : decode cX12_heard 230 = .ok (.goto (-156), 3) := by decide +kernel
theorem dX12_heard_233 : decode cX12_heard 233 = .ok (.iload 8, 2) := by decide +kernel
theorem dX12_heard_235 : decode cX12_heard 235 = .ok (.ireturn, 1) := by decide +kernel
theorem dX12_film_0 : decode cX12_film 0 = .ok (.aload_n 0, 1) := by decide +kernel
theorem dX12_film_1 : decode cX12_film 1 = .ok (.iload_n 1, 1) := by decide +kernel
theorem dX12_film_2 : decode cX12_film 2 = .ok (.invokevirtual 73, 3) := by decide +kernel
theorem dX12_film_5 : decode cX12_film 5 = .ok (.ifCond .eq 30, 3) := by decide +kernel
theorem dX12_film_8 : decode cX12_film 8 = .ok (.iload_n 2, 1) := by decide +kernel
theorem dX12_film_9 : decode cX12_film 9 = .ok (.iconst 1, 1) := by decide +kernel
theorem dX12_film_10 : decode cX12_film 10 = .ok (.bipush 24, 2) := by decide +kernel
theorem dX12_film_12 : decode cX12_film 12 = .ok (.invokestatic 35, 3) := by decide +kernel
theorem dX12_film_15 : decode cX12_film 15 = .ok (.ifCond .eq 20, 3) := by decide +kernel
theorem dX12_film_18 : decode cX12_film 18 = .ok (.iload_n 3, 1) := by decide +kernel
theorem dX12_film_19 : decode cX12_film 19 = .ok (.invokestatic 161, 3) := by decide +kernel
theorem dX12_film_22 : decode cX12_film 22 = .ok (.ifCond .eq 13, 3) := by decide +kernel
theorem dX12_film_25 : decode cX12_film 25 = .ok (.iload 4, 2) := by decide +kernel
theorem dX12_film_27 : decode cX12_film 27 = .ok (.iconst 0, 1) := by decide +kernel
theorem dX12_film_28 : decode cX12_film 28 = .ok (.iconst 3, 1) := by decide +kernel
theorem dX12_film_29 : decode cX12_film 29 = .ok (.invokestatic 35, 3) := by decide +kernel
theorem dX12_film_32 : decode cX12_film 32 = .ok (.ifCond .ne 5, 3) := by decide +kernel
theorem dX12_film_35 : decode cX12_film 35 = .ok (.iconst (-1), 1) := by decide +kernel
theorem dX12_film_36 : decode cX12_film 36 = .ok (.ireturn, 1) := by decide +kernel
theorem dX12_film_37 : decode cX12_film 37 = .ok (.aload_n 0, 1) := by decide +kernel
theorem dX12_film_38 : decode cX12_film 38 = .ok (.iload_n 3, 1) := by decide +kernel
theorem dX12_film_39 : decode cX12_film 39 = .ok (.iload 4, 2) := by decide +kernel
theorem dX12_film_41 : decode cX12_film 41 = .ok (.iload 5, 2) := by decide +kernel
theorem dX12_film_43 : decode cX12_film 43 = .ok (.iload_n 2, 1) := by decide +kernel
theorem dX12_film_44 : decode cX12_film 44 = .ok (.invokevirtual 164, 3) := by decide +kernel
theorem dX12_film_47 : decode cX12_film 47 = .ok (.istore 6, 2) := by decide +kernel
theorem dX12_film_49 : decode cX12_film 49 = .ok (.iload 6, 2) := by decide +kernel
theorem dX12_film_51 : decode cX12_film 51 = .ok (.ifCond .eq 6, 3) := by decide +kernel
theorem dX12_film_54 : decode cX12_film 54 = .ok (.iload 6, 2) := by decide +kernel
theorem dX12_film_56 : decode cX12_film 56 = .ok (.ireturn, 1) := by decide +kernel
theorem dX12_film_57 : decode cX12_film 57 = .ok (.aload_n 0, 1) := by decide +kernel
theorem dX12_film_58 : decode cX12_film 58 = .ok (.invokevirtual 138, 3) := by decide +kernel
theorem dX12_film_61 : decode cX12_film 61 = .ok (.iconst 0, 1) := by decide +kernel
theorem dX12_film_62 : decode cX12_film 62 = .ok (.istore 7, 2) := by decide +kernel
theorem dX12_film_64 : decode cX12_film 64 = .ok (.iload 7, 2) := by decide +kernel
theorem dX12_film_66 : decode cX12_film 66 = .ok (.iload_n 2, 1) := by decide +kernel
theorem dX12_film_67 : decode cX12_film 67 = .ok (.if_icmp .ge 41, 3) := by decide +kernel
theorem dX12_film_70 : decode cX12_film 70 = .ok (.aload_n 0, 1) := by decide +kernel
theorem dX12_film_71 : decode cX12_film 71 = .ok (.getfield 26, 3) := by decide +kernel
theorem dX12_film_74 : decode cX12_film 74 = .ok (.invokestatic 127, 3) := by decide +kernel
theorem dX12_film_77 : decode cX12_film 77 = .ok (.aload_n 0, 1) := by decide +kernel
theorem dX12_film_78 : decode cX12_film 78 = .ok (.getfield 16, 3) := by decide +kernel
theorem dX12_film_81 : decode cX12_film 81 = .ok (.bipush 24, 2) := by decide +kernel
theorem dX12_film_83 : decode cX12_film 83 = .ok (.iload_n 3, 1) := by decide +kernel
theorem dX12_film_84 : decode cX12_film 84 = .ok (.imul, 1) := by decide +kernel
theorem dX12_film_85 : decode cX12_film 85 = .ok (.iload 5, 2) := by decide +kernel
theorem dX12_film_87 : decode cX12_film 87 = .ok (.iadd, 1) := by decide +kernel
theorem dX12_film_88 : decode cX12_film 88 = .ok (.iload 7, 2) := by decide +kernel
theorem dX12_film_90 : decode cX12_film 90 = .ok (.iadd, 1) := by decide +kernel
theorem dX12_film_91 : decode cX12_film 91 = .ok (.aload_n 0, 1) := by decide +kernel
theorem dX12_film_92 : decode cX12_film 92 = .ok (.getfield 26, 3) := by decide +kernel
theorem dX12_film_95 : decode cX12_film 95 = .ok (.bipush 18, 2) := by decide +kernel
theorem dX12_film_97 : decode cX12_film 97 = .ok (.iload_n 1, 1) := by decide +kernel
theorem dX12_film_98 : decode cX12_film 98 = .ok (.iadd, 1) := by decide +kernel
theorem dX12_film_99 : decode cX12_film 99 = .ok (.iaload, 1) := by decide +kernel
theorem dX12_film_100 : decode cX12_film 100 = .ok (.i2l, 1) := by decide +kernel
theorem dX12_film_101 : decode cX12_film 101 = .ok (.lastore, 1) := by decide +kernel
theorem dX12_film_102 : decode cX12_film 102 = .ok (.iinc 7 1, 3) := by decide +kernel
theorem dX12_film_105 : decode cX12_film 105 = .ok (.goto (-41), 3) := by decide +kernel
theorem dX12_film_108 : decode cX12_film 108 = .ok (.iload_n 2, 1) := by decide +kernel
theorem dX12_film_109 : decode cX12_film 109 = .ok (.ireturn, 1) := by decide +kernel
theorem dX12_sheet_0 : decode cX12_sheet 0 = .ok (.iload_n 1, 1) := by decide +kernel
theorem dX12_sheet_1 : decode cX12_sheet 1 = .ok (.invokestatic 161, 3) := by decide +kernel
theorem dX12_sheet_4 : decode cX12_sheet 4 = .ok (.ifCond .eq 18, 3) := by decide +kernel
theorem dX12_sheet_7 : decode cX12_sheet 7 = .ok (.iload_n 2, 1) := by decide +kernel
theorem dX12_sheet_8 : decode cX12_sheet 8 = .ok (.iconst 0, 1) := by decide +kernel
theorem dX12_sheet_9 : decode cX12_sheet 9 = .ok (.iconst 3, 1) := by decide +kernel
theorem dX12_sheet_10 : decode cX12_sheet 10 = .ok (.invokestatic 35, 3) := by decide +kernel
theorem dX12_sheet_13 : decode cX12_sheet 13 = .ok (.ifCond .eq 9, 3) := by decide +kernel
theorem dX12_sheet_16 : decode cX12_sheet 16 = .ok (.iload_n 3, 1) := by decide +kernel
theorem dX12_sheet_17 : decode cX12_sheet 17 = .ok (.bipush 24, 2) := by decide +kernel
theorem dX12_sheet_19 : decode cX12_sheet 19 = .ok (.if_icmp .le 5, 3) := by decide +kernel
theorem dX12_sheet_22 : decode cX12_sheet 22 = .ok (.iconst (-1), 1) := by decide +kernel
theorem dX12_sheet_23 : decode cX12_sheet 23 = .ok (.ireturn, 1) := by decide +kernel
theorem dX12_sheet_24 : decode cX12_sheet 24 = .ok (.iload_n 3, 1) := by decide +kernel
theorem dX12_sheet_25 : decode cX12_sheet 25 = .ok (.ifCond .ge 6, 3) := by decide +kernel
theorem dX12_sheet_28 : decode cX12_sheet 28 = .ok (.bipush (-14), 2) := by decide +kernel
theorem dX12_sheet_30 : decode cX12_sheet 30 = .ok (.ireturn, 1) := by decide +kernel
theorem dX12_sheet_31 : decode cX12_sheet 31 = .ok (.aload_n 0, 1) := by decide +kernel
theorem dX12_sheet_32 : decode cX12_sheet 32 = .ok (.getfield 7, 3) := by decide +kernel
theorem dX12_sheet_35 : decode cX12_sheet 35 = .ok (.iload_n 1, 1) := by decide +kernel
theorem dX12_sheet_36 : decode cX12_sheet 36 = .ok (.iload_n 2, 1) := by decide +kernel
theorem dX12_sheet_37 : decode cX12_sheet 37 = .ok (.iastore, 1) := by decide +kernel
theorem dX12_sheet_38 : decode cX12_sheet 38 = .ok (.aload_n 0, 1) := by decide +kernel
theorem dX12_sheet_39 : decode cX12_sheet 39 = .ok (.getfield 13, 3) := by decide +kernel
theorem dX12_sheet_42 : decode cX12_sheet 42 = .ok (.iload_n 1, 1) := by decide +kernel
theorem dX12_sheet_43 : decode cX12_sheet 43 = .ok (.iload_n 3, 1) := by decide +kernel
theorem dX12_sheet_44 : decode cX12_sheet 44 = .ok (.iastore, 1) := by decide +kernel
theorem dX12_sheet_45 : decode cX12_sheet 45 = .ok (.iconst 0, 1) := by decide +kernel
theorem dX12_sheet_46 : decode cX12_sheet 46 = .ok (.istore 4, 2) := by decide +kernel
theorem dX12_sheet_48 : decode cX12_sheet 48 = .ok (.iload 4, 2) := by decide +kernel
theorem dX12_sheet_50 : decode cX12_sheet 50 = .ok (.bipush 24, 2) := by decide +kernel
theorem dX12_sheet_52 : decode cX12_sheet 52 = .ok (.if_icmp .ge 22, 3) := by decide +kernel
theorem dX12_sheet_55 : decode cX12_sheet 55 = .ok (.aload_n 0, 1) := by decide +kernel
theorem dX12_sheet_56 : decode cX12_sheet 56 = .ok (.getfield 16, 3) := by decide +kernel
theorem dX12_sheet_59 : decode cX12_sheet 59 = .ok (.bipush 24, 2) := by decide +kernel
theorem dX12_sheet_61 : decode cX12_sheet 61 = .ok (.iload_n 1, 1) := by decide +kernel
theorem dX12_sheet_62 : decode cX12_sheet 62 = .ok (.imul, 1) := by decide +kernel
theorem dX12_sheet_63 : decode cX12_sheet 63 = .ok (.iload 4, 2) := by decide +kernel
theorem dX12_sheet_65 : decode cX12_sheet 65 = .ok (.iadd, 1) := by decide +kernel
theorem dX12_sheet_66 : decode cX12_sheet 66 = .ok (.lconst 0, 1) := by decide +kernel
theorem dX12_sheet_67 : decode cX12_sheet 67 = .ok (.lastore, 1) := by decide +kernel
theorem dX12_sheet_68 : decode cX12_sheet 68 = .ok (.iinc 4 1, 3) := by decide +kernel
theorem dX12_sheet_71 : decode cX12_sheet 71 = .ok (.goto (-23), 3) := by decide +kernel
theorem dX12_sheet_74 : decode cX12_sheet 74 = .ok (.iload_n 3, 1) := by decide +kernel
theorem dX12_sheet_75 : decode cX12_sheet 75 = .ok (.ireturn, 1) := by decide +kernel
theorem dX12_drop_0 : decode cX12_drop 0 = .ok (.iload_n 1, 1) := by decide +kernel
theorem dX12_drop_1 : decode cX12_drop 1 = .ok (.invokestatic 161, 3) := by decide +kernel
theorem dX12_drop_4 : decode cX12_drop 4 = .ok (.ifCond .ne 5, 3) := by decide +kernel
theorem dX12_drop_7 : decode cX12_drop 7 = .ok (.iconst (-1), 1) := by decide +kernel
theorem dX12_drop_8 : decode cX12_drop 8 = .ok (.ireturn, 1) := by decide +kernel
theorem dX12_drop_9 : decode cX12_drop 9 = .ok (.aload_n 0, 1) := by decide +kernel
theorem dX12_drop_10 : decode cX12_drop 10 = .ok (.getfield 7, 3) := by decide +kernel
theorem dX12_drop_13 : decode cX12_drop 13 = .ok (.iload_n 1, 1) := by decide +kernel
theorem dX12_drop_14 : decode cX12_drop 14 = .ok (.iaload, 1) := by decide +kernel
theorem dX12_drop_15 : decode cX12_drop 15 = .ok (.ifCond .ge 6, 3) := by decide +kernel
theorem dX12_drop_18 : decode cX12_drop 18 = .ok (.bipush (-11), 2) := by decide +kernel
theorem dX12_drop_20 : decode cX12_drop 20 = .ok (.ireturn, 1) := by decide +kernel
theorem dX12_drop_21 : decode cX12_drop 21 = .ok (.aload_n 0, 1) := by decide +kernel
theorem dX12_drop_22 : decode cX12_drop 22 = .ok (.getfield 7, 3) := by decide +kernel
theorem dX12_drop_25 : decode cX12_drop 25 = .ok (.iload_n 1, 1) := by decide +kernel
theorem dX12_drop_26 : decode cX12_drop 26 = .ok (.iconst (-1), 1) := by decide +kernel
theorem dX12_drop_27 : decode cX12_drop 27 = .ok (.iastore, 1) := by decide +kernel
theorem dX12_drop_28 : decode cX12_drop 28 = .ok (.aload_n 0, 1) := by decide +kernel
theorem dX12_drop_29 : decode cX12_drop 29 = .ok (.getfield 13, 3) := by decide +kernel
theorem dX12_drop_32 : decode cX12_drop 32 = .ok (.iload_n 1, 1) := by decide +kernel
theorem dX12_drop_33 : decode cX12_drop 33 = .ok (.iaload, 1) := by decide +kernel
theorem dX12_drop_34 : decode cX12_drop 34 = .ok (.ireturn, 1) := by decide +kernel
theorem dX12_item_0 : decode cX12_item 0 = .ok (.iload_n 1, 1) := by decide +kernel
theorem dX12_item_1 : decode cX12_item 1 = .ok (.invokestatic 161, 3) := by decide +kernel
theorem dX12_item_4 : decode cX12_item 4 = .ok (.ifCond .eq 12, 3) := by decide +kernel
theorem dX12_item_7 : decode cX12_item 7 = .ok (.iload_n 2, 1) := by decide +kernel
theorem dX12_item_8 : decode cX12_item 8 = .ok (.iconst 0, 1) := by decide +kernel
theorem dX12_item_9 : decode cX12_item 9 = .ok (.iconst 3, 1) := by decide +kernel
theorem dX12_item_10 : decode cX12_item 10 = .ok (.invokestatic 35, 3) := by decide +kernel
theorem dX12_item_13 : decode cX12_item 13 = .ok (.ifCond .ne 5, 3) := by decide +kernel
theorem dX12_item_16 : decode cX12_item 16 = .ok (.iconst (-1), 1) := by decide +kernel
theorem dX12_item_17 : decode cX12_item 17 = .ok (.ireturn, 1) := by decide +kernel
theorem dX12_item_18 : decode cX12_item 18 = .ok (.aload_n 0, 1) := by decide +kernel
theorem dX12_item_19 : decode cX12_item 19 = .ok (.iload_n 1, 1) := by decide +kernel
theorem dX12_item_20 : decode cX12_item 20 = .ok (.iload_n 2, 1) := by decide +kernel
theorem dX12_item_21 : decode cX12_item 21 = .ok (.iload_n 3, 1) := by decide +kernel
theorem dX12_item_22 : decode cX12_item 22 = .ok (.iconst 1, 1) := by decide +kernel
theorem dX12_item_23 : decode cX12_item 23 = .ok (.invokevirtual 164, 3) := by decide +kernel
theorem dX12_item_26 : decode cX12_item 26 = .ok (.istore 6, 2) := by decide +kernel
theorem dX12_item_28 : decode cX12_item 28 = .ok (.iload 6, 2) := by decide +kernel
theorem dX12_item_30 : decode cX12_item 30 = .ok (.ifCond .eq 6, 3) := by decide +kernel
theorem dX12_item_33 : decode cX12_item 33 = .ok (.iload 6, 2) := by decide +kernel
theorem dX12_item_35 : decode cX12_item 35 = .ok (.ireturn, 1) := by decide +kernel
theorem dX12_item_36 : decode cX12_item 36 = .ok (.aload_n 0, 1) := by decide +kernel
theorem dX12_item_37 : decode cX12_item 37 = .ok (.getfield 16, 3) := by decide +kernel
theorem dX12_item_40 : decode cX12_item 40 = .ok (.bipush 24, 2) := by decide +kernel
theorem dX12_item_42 : decode cX12_item 42 = .ok (.iload_n 1, 1) := by decide +kernel
theorem dX12_item_43 : decode cX12_item 43 = .ok (.imul, 1) := by decide +kernel
theorem dX12_item_44 : decode cX12_item 44 = .ok (.iload_n 3, 1) := by decide +kernel
theorem dX12_item_45 : decode cX12_item 45 = .ok (.iadd, 1) := by decide +kernel
theorem dX12_item_46 : decode cX12_item 46 = .ok (.iload_n 2, 1) := by decide +kernel
theorem dX12_item_47 : decode cX12_item 47 = .ok (.ifCond .ne 11, 3) := by decide +kernel
theorem dX12_item_50 : decode cX12_item 50 = .ok (.lload 4, 2) := by decide +kernel
theorem dX12_item_52 : decode cX12_item 52 = .ok (.l2i, 1) := by decide +kernel
theorem dX12_item_53 : decode cX12_item 53 = .ok (.i2b, 1) := by decide +kernel
theorem dX12_item_54 : decode cX12_item 54 = .ok (.i2l, 1) := by decide +kernel
theorem dX12_item_55 : decode cX12_item 55 = .ok (.goto 30, 3) := by decide +kernel
theorem dX12_item_58 : decode cX12_item 58 = .ok (.iload_n 2, 1) := by decide +kernel
theorem dX12_item_59 : decode cX12_item 59 = .ok (.iconst 1, 1) := by decide +kernel
theorem dX12_item_60 : decode cX12_item 60 = .ok (.if_icmp .ne 11, 3) := by decide +kernel
theorem dX12_item_63 : decode cX12_item 63 = .ok (.lload 4, 2) := by decide +kernel
theorem dX12_item_65 : decode cX12_item 65 = .ok (.l2i, 1) := by decide +kernel
theorem dX12_item_66 : decode cX12_item 66 = .ok (.i2s, 1) := by decide +kernel
theorem dX12_item_67 : decode cX12_item 67 = .ok (.i2l, 1) := by decide +kernel
theorem dX12_item_68 : decode cX12_item 68 = .ok (.goto 17, 3) := by decide +kernel
theorem dX12_item_71 : decode cX12_item 71 = .ok (.iload_n 2, 1) := by decide +kernel
theorem dX12_item_72 : decode cX12_item 72 = .ok (.iconst 2, 1) := by decide +kernel
theorem dX12_item_73 : decode cX12_item 73 = .ok (.if_icmp .ne 10, 3) := by decide +kernel
theorem dX12_item_76 : decode cX12_item 76 = .ok (.lload 4, 2) := by decide +kernel
theorem dX12_item_78 : decode cX12_item 78 = .ok (.l2i, 1) := by decide +kernel
theorem dX12_item_79 : decode cX12_item 79 = .ok (.i2l, 1) := by decide +kernel
theorem dX12_item_80 : decode cX12_item 80 = .ok (.goto 5, 3) := by decide +kernel
theorem dX12_item_83 : decode cX12_item 83 = .ok (.lload 4, 2) := by decide +kernel
theorem dX12_item_85 : decode cX12_item 85 = .ok (.lastore, 1) := by decide +kernel
theorem dX12_item_86 : decode cX12_item 86 = .ok (.iconst 1, 1) := by decide +kernel
theorem dX12_item_87 : decode cX12_item 87 = .ok (.ireturn, 1) := by decide +kernel
theorem dX12_copy_0 : decode cX12_copy 0 = .ok (.iload_n 1, 1) := by decide +kernel
theorem dX12_copy_1 : decode cX12_copy 1 = .ok (.invokestatic 161, 3) := by decide +kernel
theorem dX12_copy_4 : decode cX12_copy 4 = .ok (.ifCond .eq 10, 3) := by decide +kernel
theorem dX12_copy_7 : decode cX12_copy 7 = .ok (.iload_n 3, 1) := by decide +kernel
theorem dX12_copy_8 : decode cX12_copy 8 = .ok (.invokestatic 161, 3) := by decide +kernel
theorem dX12_copy_11 : decode cX12_copy 11 = .ok (.ifCond .ne 5, 3) := by decide +kernel
theorem dX12_copy_14 : decode cX12_copy 14 = .ok (.iconst (-1), 1) := by decide +kernel
theorem dX12_copy_15 : decode cX12_copy 15 = .ok (.ireturn, 1) := by decide +kernel
theorem dX12_copy_16 : decode cX12_copy 16 = .ok (.aload_n 0, 1) := by decide +kernel
theorem dX12_copy_17 : decode cX12_copy 17 = .ok (.getfield 7, 3) := by decide +kernel
theorem dX12_copy_20 : decode cX12_copy 20 = .ok (.iload_n 1, 1) := by decide +kernel
theorem dX12_copy_21 : decode cX12_copy 21 = .ok (.iaload, 1) := by decide +kernel
theorem dX12_copy_22 : decode cX12_copy 22 = .ok (.ifCond .lt 12, 3) := by decide +kernel
theorem dX12_copy_25 : decode cX12_copy 25 = .ok (.aload_n 0, 1) := by decide +kernel
theorem dX12_copy_26 : decode cX12_copy 26 = .ok (.getfield 7, 3) := by decide +kernel
theorem dX12_copy_29 : decode cX12_copy 29 = .ok (.iload_n 3, 1) := by decide +kernel
theorem dX12_copy_30 : decode cX12_copy 30 = .ok (.iaload, 1) := by decide +kernel
theorem dX12_copy_31 : decode cX12_copy 31 = .ok (.ifCond .ge 6, 3) := by decide +kernel
theorem dX12_copy_34 : decode cX12_copy 34 = .ok (.bipush (-11), 2) := by decide +kernel
theorem dX12_copy_36 : decode cX12_copy 36 = .ok (.ireturn, 1) := by decide +kernel
theorem dX12_copy_37 : decode cX12_copy 37 = .ok (.aload_n 0, 1) := by decide +kernel
theorem dX12_copy_38 : decode cX12_copy 38 = .ok (.getfield 7, 3) := by decide +kernel
theorem dX12_copy_41 : decode cX12_copy 41 = .ok (.iload_n 1, 1) := by decide +kernel
theorem dX12_copy_42 : decode cX12_copy 42 = .ok (.iaload, 1) := by decide +kernel
theorem dX12_copy_43 : decode cX12_copy 43 = .ok (.aload_n 0, 1) := by decide +kernel
theorem dX12_copy_44 : decode cX12_copy 44 = .ok (.getfield 7, 3) := by decide +kernel
theorem dX12_copy_47 : decode cX12_copy 47 = .ok (.iload_n 3, 1) := by decide +kernel
theorem dX12_copy_48 : decode cX12_copy 48 = .ok (.iaload, 1) := by decide +kernel
theorem dX12_copy_49 : decode cX12_copy 49 = .ok (.if_icmp .eq 6, 3) := by decide +kernel
theorem dX12_copy_52 : decode cX12_copy 52 = .ok (.bipush (-12), 2) := by decide +kernel
theorem dX12_copy_54 : decode cX12_copy 54 = .ok (.ireturn, 1) := by decide +kernel
theorem dX12_copy_55 : decode cX12_copy 55 = .ok (.iload_n 2, 1) := by decide +kernel
theorem dX12_copy_56 : decode cX12_copy 56 = .ok (.iload 5, 2) := by decide +kernel
theorem dX12_copy_58 : decode cX12_copy 58 = .ok (.aload_n 0, 1) := by decide +kernel
theorem dX12_copy_59 : decode cX12_copy 59 = .ok (.getfield 13, 3) := by decide +kernel
theorem dX12_copy_62 : decode cX12_copy 62 = .ok (.iload_n 1, 1) := by decide +kernel
theorem dX12_copy_63 : decode cX12_copy 63 = .ok (.iaload, 1) := by decide +kernel
theorem dX12_copy_64 : decode cX12_copy 64 = .ok (.invokestatic 158, 3) := by decide +kernel
theorem dX12_copy_67 : decode cX12_copy 67 = .ok (.ifCond .eq 19, 3) := by decide +kernel
theorem dX12_copy_70 : decode cX12_copy 70 = .ok (.iload 4, 2) := by decide +kernel
theorem dX12_copy_72 : decode cX12_copy 72 = .ok (.iload 5, 2) := by decide +kernel
theorem dX12_copy_74 : decode cX12_copy 74 = .ok (.aload_n 0, 1) := by decide +kernel
theorem dX12_copy_75 : decode cX12_copy 75 = .ok (.getfield 13, 3) := by decide +kernel
theorem dX12_copy_78 : decode cX12_copy 78 = .ok (.iload_n 3, 1) := by decide +kernel
theorem dX12_copy_79 : decode cX12_copy 79 = .ok (.iaload, 1) := by decide +kernel
theorem dX12_copy_80 : decode cX12_copy 80 = .ok (.invokestatic 158, 3) := by decide +kernel
theorem dX12_copy_83 : decode cX12_copy 83 = .ok (.ifCond .ne 6, 3) := by decide +kernel
theorem dX12_copy_86 : decode cX12_copy 86 = .ok (.bipush (-13), 2) := by decide +kernel
theorem dX12_copy_88 : decode cX12_copy 88 = .ok (.ireturn, 1) := by decide +kernel
theorem dX12_copy_89 : decode cX12_copy 89 = .ok (.iload_n 1, 1) := by decide +kernel
theorem dX12_copy_90 : decode cX12_copy 90 = .ok (.iload_n 3, 1) := by decide +kernel
theorem dX12_copy_91 : decode cX12_copy 91 = .ok (.if_icmp .ne 13, 3) := by decide +kernel
theorem dX12_copy_94 : decode cX12_copy 94 = .ok (.iload 4, 2) := by decide +kernel
theorem dX12_copy_96 : decode cX12_copy 96 = .ok (.iload_n 2, 1) := by decide +kernel
theorem dX12_copy_97 : decode cX12_copy 97 = .ok (.if_icmp .le 7, 3) := by decide +kernel
theorem dX12_copy_100 : decode cX12_copy 100 = .ok (.iconst 1, 1) := by decide +kernel
theorem dX12_copy_101 : decode cX12_copy 101 = .ok (.goto 4, 3) := by decide +kernel
theorem dX12_copy_104 : decode cX12_copy 104 = .ok (.iconst 0, 1) := by decide +kernel
theorem dX12_copy_105 : decode cX12_copy 105 = .ok (.istore 6, 2) := by decide +kernel
theorem dX12_copy_107 : decode cX12_copy 107 = .ok (.iconst 0, 1) := by decide +kernel
theorem dX12_copy_108 : decode cX12_copy 108 = .ok (.istore 7, 2) := by decide +kernel
theorem dX12_copy_110 : decode cX12_copy 110 = .ok (.iload 7, 2) := by decide +kernel
theorem dX12_copy_112 : decode cX12_copy 112 = .ok (.iload 5, 2) := by decide +kernel
theorem dX12_copy_114 : decode cX12_copy 114 = .ok (.if_icmp .ge 57, 3) := by decide +kernel
theorem dX12_copy_117 : decode cX12_copy 117 = .ok (.iload 6, 2) := by decide +kernel
theorem dX12_copy_119 : decode cX12_copy 119 = .ok (.ifCond .eq 13, 3) := by decide +kernel
theorem dX12_copy_122 : decode cX12_copy 122 = .ok (.iload 5, 2) := by decide +kernel
theorem dX12_copy_124 : decode cX12_copy 124 = .ok (.iconst 1, 1) := by decide +kernel
theorem dX12_copy_125 : decode cX12_copy 125 = .ok (.isub, 1) := by decide +kernel
theorem dX12_copy_126 : decode cX12_copy 126 = .ok (.iload 7, 2) := by decide +kernel
theorem dX12_copy_128 : decode cX12_copy 128 = .ok (.isub, 1) := by decide +kernel
theorem dX12_copy_129 : decode cX12_copy 129 = .ok (.goto 5, 3) := by decide +kernel
theorem dX12_copy_132 : decode cX12_copy 132 = .ok (.iload 7, 2) := by decide +kernel
theorem dX12_copy_134 : decode cX12_copy 134 = .ok (.istore 8, 2) := by decide +kernel
theorem dX12_copy_136 : decode cX12_copy 136 = .ok (.aload_n 0, 1) := by decide +kernel
theorem dX12_copy_137 : decode cX12_copy 137 = .ok (.getfield 16, 3) := by decide +kernel
theorem dX12_copy_140 : decode cX12_copy 140 = .ok (.bipush 24, 2) := by decide +kernel
theorem dX12_copy_142 : decode cX12_copy 142 = .ok (.iload_n 3, 1) := by decide +kernel
theorem dX12_copy_143 : decode cX12_copy 143 = .ok (.imul, 1) := by decide +kernel
theorem dX12_copy_144 : decode cX12_copy 144 = .ok (.iload 4, 2) := by decide +kernel
theorem dX12_copy_146 : decode cX12_copy 146 = .ok (.iadd, 1) := by decide +kernel
theorem dX12_copy_147 : decode cX12_copy 147 = .ok (.iload 8, 2) := by decide +kernel
theorem dX12_copy_149 : decode cX12_copy 149 = .ok (.iadd, 1) := by decide +kernel
theorem dX12_copy_150 : decode cX12_copy 150 = .ok (.aload_n 0, 1) := by decide +kernel
theorem dX12_copy_151 : decode cX12_copy 151 = .ok (.getfield 16, 3) := by decide +kernel
theorem dX12_copy_154 : decode cX12_copy 154 = .ok (.bipush 24, 2) := by decide +kernel
theorem dX12_copy_156 : decode cX12_copy 156 = .ok (.iload_n 1, 1) := by decide +kernel
theorem dX12_copy_157 : decode cX12_copy 157 = .ok (.imul, 1) := by decide +kernel
theorem dX12_copy_158 : decode cX12_copy 158 = .ok (.iload_n 2, 1) := by decide +kernel
theorem dX12_copy_159 : decode cX12_copy 159 = .ok (.iadd, 1) := by decide +kernel
theorem dX12_copy_160 : decode cX12_copy 160 = .ok (.iload 8, 2) := by decide +kernel
theorem dX12_copy_162 : decode cX12_copy 162 = .ok (.iadd, 1) := by decide +kernel
theorem dX12_copy_163 : decode cX12_copy 163 = .ok (.laload, 1) := by decide +kernel
theorem dX12_copy_164 : decode cX12_copy 164 = .ok (.lastore, 1) := by decide +kernel
theorem dX12_copy_165 : decode cX12_copy 165 = .ok (.iinc 7 1, 3) := by decide +kernel
theorem dX12_copy_168 : decode cX12_copy 168 = .ok (.goto (-58), 3) := by decide +kernel
theorem dX12_copy_171 : decode cX12_copy 171 = .ok (.iload 5, 2) := by decide +kernel
theorem dX12_copy_173 : decode cX12_copy 173 = .ok (.ireturn, 1) := by decide +kernel
