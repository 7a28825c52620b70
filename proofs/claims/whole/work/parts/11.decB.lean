theorem dX11_init_0 : decode cX11_init 0 = .ok (.aload_n 0, 1) := by decide +kernel
theorem dX11_init_1 : decode cX11_init 1 = .ok (.invokespecial 1, 3) := by decide +kernel
theorem dX11_init_4 : decode cX11_init 4 = .ok (.aload_n 0, 1) := by decide +kernel
theorem dX11_init_5 : decode cX11_init 5 = .ok (.new 7, 3) := by decide +kernel
theorem dX11_init_8 : decode cX11_init 8 = .ok (.dup, 1) := by decide +kernel
theorem dX11_init_9 : decode cX11_init 9 = .ok (.invokespecial 9, 3) := by decide +kernel
theorem dX11_init_12 : decode cX11_init 12 = .ok (.putfield 10, 3) := by decide +kernel
theorem dX11_init_15 : decode cX11_init 15 = .ok (.aload_n 0, 1) := by decide +kernel
theorem dX11_init_16 : decode cX11_init 16 = .ok (.new 16, 3) := by decide +kernel
theorem dX11_init_19 : decode cX11_init 19 = .ok (.dup, 1) := by decide +kernel
theorem dX11_init_20 : decode cX11_init 20 = .ok (.invokespecial 18, 3) := by decide +kernel
theorem dX11_init_23 : decode cX11_init 23 = .ok (.putfield 19, 3) := by decide +kernel
theorem dX11_init_26 : decode cX11_init 26 = .ok (.aload_n 0, 1) := by decide +kernel
theorem dX11_init_27 : decode cX11_init 27 = .ok (.new 7, 3) := by decide +kernel
theorem dX11_init_30 : decode cX11_init 30 = .ok (.dup, 1) := by decide +kernel
theorem dX11_init_31 : decode cX11_init 31 = .ok (.invokespecial 9, 3) := by decide +kernel
theorem dX11_init_34 : decode cX11_init 34 = .ok (.putfield 23, 3) := by decide +kernel
theorem dX11_init_37 : decode cX11_init 37 = .ok (.aload_n 0, 1) := by decide +kernel
theorem dX11_init_38 : decode cX11_init 38 = .ok (.new 16, 3) := by decide +kernel
theorem dX11_init_41 : decode cX11_init 41 = .ok (.dup, 1) := by decide +kernel
theorem dX11_init_42 : decode cX11_init 42 = .ok (.invokespecial 18, 3) := by decide +kernel
theorem dX11_init_45 : decode cX11_init 45 = .ok (.putfield 26, 3) := by decide +kernel
theorem dX11_init_48 : decode cX11_init 48 = .ok (.aload_n 0, 1) := by decide +kernel
theorem dX11_init_49 : decode cX11_init 49 = .ok (.new 7, 3) := by decide +kernel
theorem dX11_init_52 : decode cX11_init 52 = .ok (.dup, 1) := by decide +kernel
theorem dX11_init_53 : decode cX11_init 53 = .ok (.invokespecial 9, 3) := by decide +kernel
theorem dX11_init_56 : decode cX11_init 56 = .ok (.putfield 29, 3) := by decide +kernel
theorem dX11_init_59 : decode cX11_init 59 = .ok (.aload_n 0, 1) := by decide +kernel
theorem dX11_init_60 : decode cX11_init 60 = .ok (.new 32, 3) := by decide +kernel
theorem dX11_init_63 : decode cX11_init 63 = .ok (.dup, 1) := by decide +kernel
theorem dX11_init_64 : decode cX11_init 64 = .ok (.invokespecial 34, 3) := by decide +kernel
theorem dX11_init_67 : decode cX11_init 67 = .ok (.putfield 35, 3) := by decide +kernel
theorem dX11_init_70 : decode cX11_init 70 = .ok (.aload_n 0, 1) := by decide +kernel
theorem dX11_init_71 : decode cX11_init 71 = .ok (.new 39, 3) := by decide +kernel
theorem dX11_init_74 : decode cX11_init 74 = .ok (.dup, 1) := by decide +kernel
theorem dX11_init_75 : decode cX11_init 75 = .ok (.invokespecial 41, 3) := by decide +kernel
theorem dX11_init_78 : decode cX11_init 78 = .ok (.putfield 42, 3) := by decide +kernel
theorem dX11_init_81 : decode cX11_init 81 = .ok (.aload_n 0, 1) := by decide +kernel
theorem dX11_init_82 : decode cX11_init 82 = .ok (.iconst 4, 1) := by decide +kernel
theorem dX11_init_83 : decode cX11_init 83 = .ok (.anewarray 46, 3) := by decide +kernel
theorem dX11_init_86 : decode cX11_init 86 = .ok (.dup, 1) := by decide +kernel
theorem dX11_init_87 : decode cX11_init 87 = .ok (.iconst 0, 1) := by decide +kernel
theorem dX11_init_88 : decode cX11_init 88 = .ok (.new 46, 3) := by decide +kernel
theorem dX11_init_91 : decode cX11_init 91 = .ok (.dup, 1) := by decide +kernel
theorem dX11_init_92 : decode cX11_init 92 = .ok (.invokespecial 48, 3) := by decide +kernel
theorem dX11_init_95 : decode cX11_init 95 = .ok (.aastore, 1) := by decide +kernel
theorem dX11_init_96 : decode cX11_init 96 = .ok (.dup, 1) := by decide +kernel
theorem dX11_init_97 : decode cX11_init 97 = .ok (.iconst 1, 1) := by decide +kernel
theorem dX11_init_98 : decode cX11_init 98 = .ok (.new 46, 3) := by decide +kernel
theorem dX11_init_101 : decode cX11_init 101 = .ok (.dup, 1) := by decide +kernel
theorem dX11_init_102 : decode cX11_init 102 = .ok (.invokespecial 48, 3) := by decide +kernel
theorem dX11_init_105 : decode cX11_init 105 = .ok (.aastore, 1) := by decide +kernel
theorem dX11_init_106 : decode cX11_init 106 = .ok (.dup, 1) := by decide +kernel
theorem dX11_init_107 : decode cX11_init 107 = .ok (.iconst 2, 1) := by decide +kernel
theorem dX11_init_108 : decode cX11_init 108 = .ok (.new 46, 3) := by decide +kernel
theorem dX11_init_111 : decode cX11_init 111 = .ok (.dup, 1) := by decide +kernel
theorem dX11_init_112 : decode cX11_init 112 = .ok (.invokespecial 48, 3) := by decide +kernel
theorem dX11_init_115 : decode cX11_init 115 = .ok (.aastore, 1) := by decide +kernel
theorem dX11_init_116 : decode cX11_init 116 = .ok (.dup, 1) := by decide +kernel
theorem dX11_init_117 : decode cX11_init 117 = .ok (.iconst 3, 1) := by decide +kernel
theorem dX11_init_118 : decode cX11_init 118 = .ok (.new 46, 3) := by decide +kernel
theorem dX11_init_121 : decode cX11_init 121 = .ok (.dup, 1) := by decide +kernel
theorem dX11_init_122 : decode cX11_init 122 = .ok (.invokespecial 48, 3) := by decide +kernel
theorem dX11_init_125 : decode cX11_init 125 = .ok (.aastore, 1) := by decide +kernel
theorem dX11_init_126 : decode cX11_init 126 = .ok (.putfield 49, 3) := by decide +kernel
theorem dX11_init_129 : decode cX11_init 129 = .ok (.return_, 1) := by decide +kernel
theorem dX11_sleeper_0 : decode cX11_sleeper 0 = .ok (.iload_n 1, 1) := by decide +kernel
theorem dX11_sleeper_1 : decode cX11_sleeper 1 = .ok (.invokestatic 53, 3) := by decide +kernel
theorem dX11_sleeper_4 : decode cX11_sleeper 4 = .ok (.ifCond .eq 13, 3) := by decide +kernel
theorem dX11_sleeper_7 : decode cX11_sleeper 7 = .ok (.iload_n 2, 1) := by decide +kernel
theorem dX11_sleeper_8 : decode cX11_sleeper 8 = .ok (.iconst 0, 1) := by decide +kernel
theorem dX11_sleeper_9 : decode cX11_sleeper 9 = .ok (.bipush 60, 2) := by decide +kernel
theorem dX11_sleeper_11 : decode cX11_sleeper 11 = .ok (.invokestatic 57, 3) := by decide +kernel
theorem dX11_sleeper_14 : decode cX11_sleeper 14 = .ok (.ifCond .ne 5, 3) := by decide +kernel
theorem dX11_sleeper_17 : decode cX11_sleeper 17 = .ok (.iconst (-1), 1) := by decide +kernel
theorem dX11_sleeper_18 : decode cX11_sleeper 18 = .ok (.ireturn, 1) := by decide +kernel
theorem dX11_sleeper_19 : decode cX11_sleeper 19 = .ok (.aload_n 0, 1) := by decide +kernel
theorem dX11_sleeper_20 : decode cX11_sleeper 20 = .ok (.getfield 10, 3) := by decide +kernel
theorem dX11_sleeper_23 : decode cX11_sleeper 23 = .ok (.getfield 61, 3) := by decide +kernel
theorem dX11_sleeper_26 : decode cX11_sleeper 26 = .ok (.iconst 5, 1) := by decide +kernel
theorem dX11_sleeper_27 : decode cX11_sleeper 27 = .ok (.if_icmp .lt 6, 3) := by decide +kernel
theorem dX11_sleeper_30 : decode cX11_sleeper 30 = .ok (.bipush (-3), 2) := by decide +kernel
theorem dX11_sleeper_32 : decode cX11_sleeper 32 = .ok (.ireturn, 1) := by decide +kernel
theorem dX11_sleeper_33 : decode cX11_sleeper 33 = .ok (.aload_n 0, 1) := by decide +kernel
theorem dX11_sleeper_34 : decode cX11_sleeper 34 = .ok (.getfield 19, 3) := by decide +kernel
theorem dX11_sleeper_37 : decode cX11_sleeper 37 = .ok (.invokevirtual 65, 3) := by decide +kernel
theorem dX11_sleeper_40 : decode cX11_sleeper 40 = .ok (.aload_n 0, 1) := by decide +kernel
theorem dX11_sleeper_41 : decode cX11_sleeper 41 = .ok (.getfield 10, 3) := by decide +kernel
theorem dX11_sleeper_44 : decode cX11_sleeper 44 = .ok (.iload_n 1, 1) := by decide +kernel
theorem dX11_sleeper_45 : decode cX11_sleeper 45 = .ok (.iload_n 2, 1) := by decide +kernel
theorem dX11_sleeper_46 : decode cX11_sleeper 46 = .ok (.invokevirtual 68, 3) := by decide +kernel
theorem dX11_sleeper_49 : decode cX11_sleeper 49 = .ok (.aload_n 0, 1) := by decide +kernel
theorem dX11_sleeper_50 : decode cX11_sleeper 50 = .ok (.getfield 10, 3) := by decide +kernel
theorem dX11_sleeper_53 : decode cX11_sleeper 53 = .ok (.getfield 61, 3) := by decide +kernel
theorem dX11_sleeper_56 : decode cX11_sleeper 56 = .ok (.iconst 1, 1) := by decide +kernel
theorem dX11_sleeper_57 : decode cX11_sleeper 57 = .ok (.isub, 1) := by decide +kernel
theorem dX11_sleeper_58 : decode cX11_sleeper 58 = .ok (.ireturn, 1) := by decide +kernel
theorem dX11_thing_0 : decode cX11_thing 0 = .ok (.iload_n 1, 1) := by decide +kernel
theorem dX11_thing_1 : decode cX11_thing 1 = .ok (.iconst 0, 1) := by decide +kernel
theorem dX11_thing_2 : decode cX11_thing 2 = .ok (.iconst 4, 1) := by decide +kernel
theorem dX11_thing_3 : decode cX11_thing 3 = .ok (.invokestatic 57, 3) := by decide +kernel
theorem dX11_thing_6 : decode cX11_thing 6 = .ok (.ifCond .eq 28, 3) := by decide +kernel
theorem dX11_thing_9 : decode cX11_thing 9 = .ok (.iload_n 2, 1) := by decide +kernel
theorem dX11_thing_10 : decode cX11_thing 10 = .ok (.invokestatic 72, 3) := by decide +kernel
theorem dX11_thing_13 : decode cX11_thing 13 = .ok (.ifCond .eq 21, 3) := by decide +kernel
theorem dX11_thing_16 : decode cX11_thing 16 = .ok (.iload_n 3, 1) := by decide +kernel
theorem dX11_thing_17 : decode cX11_thing 17 = .ok (.iconst 1, 1) := by decide +kernel
theorem dX11_thing_18 : decode cX11_thing 18 = .ok (.bipush 9, 2) := by decide +kernel
theorem dX11_thing_20 : decode cX11_thing 20 = .ok (.invokestatic 57, 3) := by decide +kernel
theorem dX11_thing_23 : decode cX11_thing 23 = .ok (.ifCond .eq 11, 3) := by decide +kernel
theorem dX11_thing_26 : decode cX11_thing 26 = .ok (.iload 4, 2) := by decide +kernel
theorem dX11_thing_28 : decode cX11_thing 28 = .ok (.invokestatic 53, 3) := by decide +kernel
theorem dX11_thing_31 : decode cX11_thing 31 = .ok (.ifCond .ne 5, 3) := by decide +kernel
theorem dX11_thing_34 : decode cX11_thing 34 = .ok (.iconst (-1), 1) := by decide +kernel
theorem dX11_thing_35 : decode cX11_thing 35 = .ok (.ireturn, 1) := by decide +kernel
theorem dX11_thing_36 : decode cX11_thing 36 = .ok (.aload_n 0, 1) := by decide +kernel
theorem dX11_thing_37 : decode cX11_thing 37 = .ok (.getfield 10, 3) := by decide +kernel
theorem dX11_thing_40 : decode cX11_thing 40 = .ok (.getfield 75, 3) := by decide +kernel
theorem dX11_thing_43 : decode cX11_thing 43 = .ok (.bipush 8, 2) := by decide +kernel
theorem dX11_thing_45 : decode cX11_thing 45 = .ok (.if_icmp .lt 6, 3) := by decide +kernel
theorem dX11_thing_48 : decode cX11_thing 48 = .ok (.bipush (-3), 2) := by decide +kernel
theorem dX11_thing_50 : decode cX11_thing 50 = .ok (.ireturn, 1) := by decide +kernel
theorem dX11_thing_51 : decode cX11_thing 51 = .ok (.aload_n 0, 1) := by decide +kernel
theorem dX11_thing_52 : decode cX11_thing 52 = .ok (.getfield 19, 3) := by decide +kernel
theorem dX11_thing_55 : decode cX11_thing 55 = .ok (.invokevirtual 65, 3) := by decide +kernel
theorem dX11_thing_58 : decode cX11_thing 58 = .ok (.aload_n 0, 1) := by decide +kernel
theorem dX11_thing_59 : decode cX11_thing 59 = .ok (.getfield 10, 3) := by decide +kernel
theorem dX11_thing_62 : decode cX11_thing 62 = .ok (.iload_n 1, 1) := by decide +kernel
theorem dX11_thing_63 : decode cX11_thing 63 = .ok (.iload_n 2, 1) := by decide +kernel
theorem dX11_thing_64 : decode cX11_thing 64 = .ok (.iload_n 3, 1) := by decide +kernel
theorem dX11_thing_65 : decode cX11_thing 65 = .ok (.iload 4, 2) := by decide +kernel
theorem dX11_thing_67 : decode cX11_thing 67 = .ok (.invokevirtual 78, 3) := by decide +kernel
theorem dX11_thing_70 : decode cX11_thing 70 = .ok (.aload_n 0, 1) := by decide +kernel
theorem dX11_thing_71 : decode cX11_thing 71 = .ok (.getfield 10, 3) := by decide +kernel
theorem dX11_thing_74 : decode cX11_thing 74 = .ok (.getfield 75, 3) := by decide +kernel
theorem dX11_thing_77 : decode cX11_thing 77 = .ok (.iconst 1, 1) := by decide +kernel
theorem dX11_thing_78 : decode cX11_thing 78 = .ok (.isub, 1) := by decide +kernel
theorem dX11_thing_79 : decode cX11_thing 79 = .ok (.ireturn, 1) := by decide +kernel
theorem dX11_of_0 : decode cX11_of 0 = .ok (.aload_n 0, 1) := by decide +kernel
theorem dX11_of_1 : decode cX11_of 1 = .ok (.getfield 10, 3) := by decide +kernel
theorem dX11_of_4 : decode cX11_of 4 = .ok (.iload_n 1, 1) := by decide +kernel
theorem dX11_of_5 : decode cX11_of 5 = .ok (.invokevirtual 82, 3) := by decide +kernel
theorem dX11_of_8 : decode cX11_of 8 = .ok (.ifCond .ne 5, 3) := by decide +kernel
theorem dX11_of_11 : decode cX11_of 11 = .ok (.iconst (-1), 1) := by decide +kernel
theorem dX11_of_12 : decode cX11_of 12 = .ok (.ireturn, 1) := by decide +kernel
theorem dX11_of_13 : decode cX11_of 13 = .ok (.iload_n 2, 1) := by decide +kernel
theorem dX11_of_14 : decode cX11_of 14 = .ok (.tableswitch 104 0 4 #[34, 44, 54, 67, 80], 34) := by decide +kernel
theorem dX11_of_48 : decode cX11_of 48 = .ok (.aload_n 0, 1) := by decide +kernel
theorem dX11_of_49 : decode cX11_of 49 = .ok (.getfield 10, 3) := by decide +kernel
theorem dX11_of_52 : decode cX11_of 52 = .ok (.getfield 85, 3) := by decide +kernel
theorem dX11_of_55 : decode cX11_of 55 = .ok (.iload_n 1, 1) := by decide +kernel
theorem dX11_of_56 : decode cX11_of 56 = .ok (.iaload, 1) := by decide +kernel
theorem dX11_of_57 : decode cX11_of 57 = .ok (.ireturn, 1) := by decide +kernel
theorem dX11_of_58 : decode cX11_of 58 = .ok (.aload_n 0, 1) := by decide +kernel
theorem dX11_of_59 : decode cX11_of 59 = .ok (.getfield 10, 3) := by decide +kernel
theorem dX11_of_62 : decode cX11_of 62 = .ok (.getfield 89, 3) := by decide +kernel
theorem dX11_of_65 : decode cX11_of 65 = .ok (.iload_n 1, 1) := by decide +kernel
theorem dX11_of_66 : decode cX11_of 66 = .ok (.iaload, 1) := by decide +kernel
theorem dX11_of_67 : decode cX11_of 67 = .ok (.ireturn, 1) := by decide +kernel
theorem dX11_of_68 : decode cX11_of 68 = .ok (.aload_n 0, 1) := by decide +kernel
theorem dX11_of_69 : decode cX11_of 69 = .ok (.getfield 10, 3) := by decide +kernel
theorem dX11_of_72 : decode cX11_of 72 = .ok (.getfield 92, 3) := by decide +kernel
theorem dX11_of_75 : decode cX11_of 75 = .ok (.getfield 96, 3) := by decide +kernel
theorem dX11_of_78 : decode cX11_of 78 = .ok (.iload_n 1, 1) := by decide +kernel
theorem dX11_of_79 : decode cX11_of 79 = .ok (.iaload, 1) := by decide +kernel
theorem dX11_of_80 : decode cX11_of 80 = .ok (.ireturn, 1) := by decide +kernel
theorem dX11_of_81 : decode cX11_of 81 = .ok (.aload_n 0, 1) := by decide +kernel
theorem dX11_of_82 : decode cX11_of 82 = .ok (.getfield 10, 3) := by decide +kernel
theorem dX11_of_85 : decode cX11_of 85 = .ok (.getfield 92, 3) := by decide +kernel
theorem dX11_of_88 : decode cX11_of 88 = .ok (.getfield 101, 3) := by decide +kernel
theorem dX11_of_91 : decode cX11_of 91 = .ok (.iload_n 1, 1) := by decide +kernel
theorem dX11_of_92 : decode cX11_of 92 = .ok (.iaload, 1) := by decide +kernel
theorem dX11_of_93 : decode cX11_of 93 = .ok (.ireturn, 1) := by decide +kernel
theorem dX11_of_94 : decode cX11_of 94 = .ok (.aload_n 0, 1) := by decide +kernel
theorem dX11_of_95 : decode cX11_of 95 = .ok (.getfield 10, 3) := by decide +kernel
theorem dX11_of_98 : decode cX11_of 98 = .ok (.invokevirtual 104, 3) := by decide +kernel
theorem dX11_of_101 : decode cX11_of 101 = .ok (.aload_n 0, 1) := by decide +kernel
theorem dX11_of_102 : decode cX11_of 102 = .ok (.getfield 10, 3) := by decide +kernel
theorem dX11_of_105 : decode cX11_of 105 = .ok (.iload_n 1, 1) := by decide +kernel
theorem dX11_of_106 : decode cX11_of 106 = .ok (.invokevirtual 107, 3) := by decide +kernel
theorem dX11_of_109 : decode cX11_of 109 = .ok (.ifCond .eq 7, 3) := by decide +kernel
theorem dX11_of_112 : decode cX11_of 112 = .ok (.iconst 1, 1) := by decide +kernel
theorem dX11_of_113 : decode cX11_of 113 = .ok (.goto 4, 3) := by decide +kernel
theorem dX11_of_116 : decode cX11_of 116 = .ok (.iconst 0, 1) := by decide +kernel
theorem dX11_of_117 : decode cX11_of 117 = .ok (.ireturn, 1) := by decide +kernel
theorem dX11_of_118 : decode cX11_of 118 = .ok (.iconst (-1), 1) := by decide +kernel
theorem dX11_of_119 : decode cX11_of 119 = .ok (.ireturn, 1) := by decide +kernel
theorem dX11_gift_0 : decode cX11_gift 0 = .ok (.aload_n 0, 1) := by decide +kernel
theorem dX11_gift_1 : decode cX11_gift 1 = .ok (.getfield 10, 3) := by decide +kernel
theorem dX11_gift_4 : decode cX11_gift 4 = .ok (.iload_n 1, 1) := by decide +kernel
theorem dX11_gift_5 : decode cX11_gift 5 = .ok (.invokevirtual 110, 3) := by decide +kernel
theorem dX11_gift_8 : decode cX11_gift 8 = .ok (.ifCond .ne 5, 3) := by decide +kernel
theorem dX11_gift_11 : decode cX11_gift 11 = .ok (.iconst (-1), 1) := by decide +kernel
theorem dX11_gift_12 : decode cX11_gift 12 = .ok (.ireturn, 1) := by decide +kernel
theorem dX11_gift_13 : decode cX11_gift 13 = .ok (.iload_n 2, 1) := by decide +kernel
theorem dX11_gift_14 : decode cX11_gift 14 = .ok (.tableswitch 119 0 5 #[38, 48, 61, 71, 84, 97], 38) := by decide +kernel
theorem dX11_gift_52 : decode cX11_gift 52 = .ok (.aload_n 0, 1) := by decide +kernel
theorem dX11_gift_53 : decode cX11_gift 53 = .ok (.getfield 10, 3) := by decide +kernel
theorem dX11_gift_56 : decode cX11_gift 56 = .ok (.getfield 113, 3) := by decide +kernel
theorem dX11_gift_59 : decode cX11_gift 59 = .ok (.iload_n 1, 1) := by decide +kernel
theorem dX11_gift_60 : decode cX11_gift 60 = .ok (.iaload, 1) := by decide +kernel
theorem dX11_gift_61 : decode cX11_gift 61 = .ok (.ireturn, 1) := by decide +kernel
theorem dX11_gift_62 : decode cX11_gift 62 = .ok (.aload_n 0, 1) := by decide +kernel
theorem dX11_gift_63 : decode cX11_gift 63 = .ok (.getfield 10, 3) := by decide +kernel
theorem dX11_gift_66 : decode cX11_gift 66 = .ok (.getfield 92, 3) := by decide +kernel
theorem dX11_gift_69 : decode cX11_gift 69 = .ok (.getfield 116, 3) := by decide +kernel
theorem dX11_gift_72 : decode cX11_gift 72 = .ok (.iload_n 1, 1) := by decide +kernel
theorem dX11_gift_73 : decode cX11_gift 73 = .ok (.iaload, 1) := by decide +kernel
theorem dX11_gift_74 : decode cX11_gift 74 = .ok (.ireturn, 1) := by decide +kernel
theorem dX11_gift_75 : decode cX11_gift 75 = .ok (.aload_n 0, 1) := by decide +kernel
theorem dX11_gift_76 : decode cX11_gift 76 = .ok (.getfield 10, 3) := by decide +kernel
theorem dX11_gift_79 : decode cX11_gift 79 = .ok (.getfield 119, 3) := by decide +kernel
theorem dX11_gift_82 : decode cX11_gift 82 = .ok (.iload_n 1, 1) := by decide +kernel
theorem dX11_gift_83 : decode cX11_gift 83 = .ok (.iaload, 1) := by decide +kernel
theorem dX11_gift_84 : decode cX11_gift 84 = .ok (.ireturn, 1) := by decide +kernel
theorem dX11_gift_85 : decode cX11_gift 85 = .ok (.aload_n 0, 1) := by decide +kernel
theorem dX11_gift_86 : decode cX11_gift 86 = .ok (.getfield 10, 3) := by decide +kernel
theorem dX11_gift_89 : decode cX11_gift 89 = .ok (.getfield 92, 3) := by decide +kernel
theorem dX11_gift_92 : decode cX11_gift 92 = .ok (.getfield 122, 3) := by decide +kernel
theorem dX11_gift_95 : decode cX11_gift 95 = .ok (.iload_n 1, 1) := by decide +kernel
theorem dX11_gift_96 : decode cX11_gift 96 = .ok (.iaload, 1) := by decide +kernel
theorem dX11_gift_97 : decode cX11_gift 97 = .ok (.ireturn, 1) := by decide +kernel
theorem dX11_gift_98 : decode cX11_gift 98 = .ok (.aload_n 0, 1) := by decide +kernel
theorem dX11_gift_99 : decode cX11_gift 99 = .ok (.getfield 10, 3) := by decide +kernel
theorem dX11_gift_102 : decode cX11_gift 102 = .ok (.getfield 92, 3) := by decide +kernel
theorem dX11_gift_105 : decode cX11_gift 105 = .ok (.getfield 125, 3) := by decide +kernel
theorem dX11_gift_108 : decode cX11_gift 108 = .ok (.iload_n 1, 1) := by decide +kernel
theorem dX11_gift_109 : decode cX11_gift 109 = .ok (.iaload, 1) := by decide +kernel
theorem dX11_gift_110 : decode cX11_gift 110 = .ok (.ireturn, 1) := by decide +kernel
theorem dX11_gift_111 : decode cX11_gift 111 = .ok (.aload_n 0, 1) := by decide +kernel
theorem dX11_gift_112 : decode cX11_gift 112 = .ok (.getfield 10, 3) := by decide +kernel
theorem dX11_gift_115 : decode cX11_gift 115 = .ok (.iload_n 1, 1) := by decide +kernel
theorem dX11_gift_116 : decode cX11_gift 116 = .ok (.aload_n 0, 1) := by decide +kernel
theorem dX11_gift_117 : decode cX11_gift 117 = .ok (.getfield 10, 3) := by decide +kernel
theorem dX11_gift_120 : decode cX11_gift 120 = .ok (.getfield 92, 3) := by decide +kernel
theorem dX11_gift_123 : decode cX11_gift 123 = .ok (.getfield 125, 3) := by decide +kernel
theorem dX11_gift_126 : decode cX11_gift 126 = .ok (.iload_n 1, 1) := by decide +kernel
theorem dX11_gift_127 : decode cX11_gift 127 = .ok (.iaload, 1) := by decide +kernel
theorem dX11_gift_128 : decode cX11_gift 128 = .ok (.iconst 0, 1) := by decide +kernel
theorem dX11_gift_129 : decode cX11_gift 129 = .ok (.invokevirtual 128, 3) := by decide +kernel
theorem dX11_gift_132 : decode cX11_gift 132 = .ok (.ireturn, 1) := by decide +kernel
theorem dX11_gift_133 : decode cX11_gift 133 = .ok (.iconst (-1), 1) := by decide +kernel
theorem dX11_gift_134 : decode cX11_gift 134 = .ok (.ireturn, 1) := by decide +kernel
theorem dX11_room_0 : decode cX11_room 0 = .ok (.iload_n 1, 1) := by decide +kernel
theorem dX11_room_1 : decode cX11_room 1 = .ok (.invokestatic 53, 3) := by decide +kernel
theorem dX11_room_4 : decode cX11_room 4 = .ok (.ifCond .ne 5, 3) := by decide +kernel
theorem dX11_room_7 : decode cX11_room 7 = .ok (.iconst (-1), 1) := by decide +kernel
theorem dX11_room_8 : decode cX11_room 8 = .ok (.ireturn, 1) := by decide +kernel
theorem dX11_room_9 : decode cX11_room 9 = .ok (.iload_n 2, 1) := by decide +kernel
theorem dX11_room_10 : decode cX11_room 10 = .ok (.tableswitch 61 0 2 #[26, 43, 52], 26) := by decide +kernel
theorem dX11_room_36 : decode cX11_room 36 = .ok (.aload_n 0, 1) := by decide +kernel
theorem dX11_room_37 : decode cX11_room 37 = .ok (.getfield 10, 3) := by decide +kernel
theorem dX11_room_40 : decode cX11_room 40 = .ok (.invokevirtual 104, 3) := by decide +kernel
theorem dX11_room_43 : decode cX11_room 43 = .ok (.aload_n 0, 1) := by decide +kernel
theorem dX11_room_44 : decode cX11_room 44 = .ok (.getfield 10, 3) := by decide +kernel
theorem dX11_room_47 : decode cX11_room 47 = .ok (.getfield 132, 3) := by decide +kernel
theorem dX11_room_50 : decode cX11_room 50 = .ok (.iload_n 1, 1) := by decide +kernel
theorem dX11_room_51 : decode cX11_room 51 = .ok (.iaload, 1) := by decide +kernel
theorem dX11_room_52 : decode cX11_room 52 = .ok (.ireturn, 1) := by decide +kernel
theorem dX11_room_53 : decode cX11_room 53 = .ok (.aload_n 0, 1) := by decide +kernel
theorem dX11_room_54 : decode cX11_room 54 = .ok (.getfield 10, 3) := by decide +kernel
theorem dX11_room_57 : decode cX11_room 57 = .ok (.iload_n 1, 1) := by decide +kernel
theorem dX11_room_58 : decode cX11_room 58 = .ok (.invokevirtual 135, 3) := by decide +kernel
theorem dX11_room_61 : decode cX11_room 61 = .ok (.ireturn, 1) := by decide +kernel
theorem dX11_room_62 : decode cX11_room 62 = .ok (.aload_n 0, 1) := by decide +kernel
theorem dX11_room_63 : decode cX11_room 63 = .ok (.getfield 10, 3) := by decide +kernel
theorem dX11_room_66 : decode cX11_room 66 = .ok (.iload_n 1, 1) := by decide +kernel
theorem dX11_room_67 : decode cX11_room 67 = .ok (.invokevirtual 139, 3) := by decide +kernel
theorem dX11_room_70 : decode cX11_room 70 = .ok (.ireturn, 1) := by decide +kernel
theorem dX11_room_71 : decode cX11_room 71 = .ok (.iconst (-1), 1) := by decide +kernel
theorem dX11_room_72 : decode cX11_room 72 = .ok (.ireturn, 1) := by decide +kernel
theorem dX11_bed_0 : decode cX11_bed 0 = .ok (.aload_n 0, 1) := by decide +kernel
theorem dX11_bed_1 : decode cX11_bed 1 = .ok (.getfield 10, 3) := by decide +kernel
theorem dX11_bed_4 : decode cX11_bed 4 = .ok (.iload_n 1, 1) := by decide +kernel
theorem dX11_bed_5 : decode cX11_bed 5 = .ok (.invokevirtual 82, 3) := by decide +kernel
theorem dX11_bed_8 : decode cX11_bed 8 = .ok (.ifCond .eq 10, 3) := by decide +kernel
theorem dX11_bed_11 : decode cX11_bed 11 = .ok (.iload_n 2, 1) := by decide +kernel
theorem dX11_bed_12 : decode cX11_bed 12 = .ok (.invokestatic 53, 3) := by decide +kernel
theorem dX11_bed_15 : decode cX11_bed 15 = .ok (.ifCond .ne 5, 3) := by decide +kernel
theorem dX11_bed_18 : decode cX11_bed 18 = .ok (.iconst (-1), 1) := by decide +kernel
theorem dX11_bed_19 : decode cX11_bed 19 = .ok (.ireturn, 1) := by decide +kernel
theorem dX11_bed_20 : decode cX11_bed 20 = .ok (.aload_n 0, 1) := by decide +kernel
theorem dX11_bed_21 : decode cX11_bed 21 = .ok (.getfield 10, 3) := by decide +kernel
theorem dX11_bed_24 : decode cX11_bed 24 = .ok (.getfield 85, 3) := by decide +kernel
theorem dX11_bed_27 : decode cX11_bed 27 = .ok (.iload_n 1, 1) := by decide +kernel
theorem dX11_bed_28 : decode cX11_bed 28 = .ok (.iaload, 1) := by decide +kernel
theorem dX11_bed_29 : decode cX11_bed 29 = .ok (.istore_n 3, 1) := by decide +kernel
theorem dX11_bed_30 : decode cX11_bed 30 = .ok (.aload_n 0, 1) := by decide +kernel
theorem dX11_bed_31 : decode cX11_bed 31 = .ok (.getfield 10, 3) := by decide +kernel
theorem dX11_bed_34 : decode cX11_bed 34 = .ok (.getfield 85, 3) := by decide +kernel
theorem dX11_bed_37 : decode cX11_bed 37 = .ok (.iload_n 1, 1) := by decide +kernel
theorem dX11_bed_38 : decode cX11_bed 38 = .ok (.iload_n 2, 1) := by decide +kernel
theorem dX11_bed_39 : decode cX11_bed 39 = .ok (.iastore, 1) := by decide +kernel
theorem dX11_bed_40 : decode cX11_bed 40 = .ok (.iload_n 3, 1) := by decide +kernel
theorem dX11_bed_41 : decode cX11_bed 41 = .ok (.ireturn, 1) := by decide +kernel
theorem dX11_type_0 : decode cX11_type 0 = .ok (.iload_n 1, 1) := by decide +kernel
theorem dX11_type_1 : decode cX11_type 1 = .ok (.bipush 32, 2) := by decide +kernel
theorem dX11_type_3 : decode cX11_type 3 = .ok (.bipush 126, 2) := by decide +kernel
theorem dX11_type_5 : decode cX11_type 5 = .ok (.invokestatic 57, 3) := by decide +kernel
theorem dX11_type_8 : decode cX11_type 8 = .ok (.ifCond .ne 5, 3) := by decide +kernel
theorem dX11_type_11 : decode cX11_type 11 = .ok (.iconst (-1), 1) := by decide +kernel
theorem dX11_type_12 : decode cX11_type 12 = .ok (.ireturn, 1) := by decide +kernel
theorem dX11_type_13 : decode cX11_type 13 = .ok (.aload_n 0, 1) := by decide +kernel
theorem dX11_type_14 : decode cX11_type 14 = .ok (.getfield 35, 3) := by decide +kernel
theorem dX11_type_17 : decode cX11_type 17 = .ok (.getfield 142, 3) := by decide +kernel
theorem dX11_type_20 : decode cX11_type 20 = .ok (.bipush 80, 2) := by decide +kernel
theorem dX11_type_22 : decode cX11_type 22 = .ok (.if_icmp .lt 6, 3) := by decide +kernel
theorem dX11_type_25 : decode cX11_type 25 = .ok (.bipush (-3), 2) := by decide +kernel
theorem dX11_type_27 : decode cX11_type 27 = .ok (.ireturn, 1) := by decide +kernel
theorem dX11_type_28 : decode cX11_type 28 = .ok (.aload_n 0, 1) := by decide +kernel
theorem dX11_type_29 : decode cX11_type 29 = .ok (.getfield 35, 3) := by decide +kernel
theorem dX11_type_32 : decode cX11_type 32 = .ok (.iload_n 1, 1) := by decide +kernel
theorem dX11_type_33 : decode cX11_type 33 = .ok (.i2c, 1) := by decide +kernel
theorem dX11_type_34 : decode cX11_type 34 = .ok (.invokevirtual 145, 3) := by decide +kernel
theorem dX11_type_37 : decode cX11_type 37 = .ok (.aload_n 0, 1) := by decide +kernel
theorem dX11_type_38 : decode cX11_type 38 = .ok (.getfield 35, 3) := by decide +kernel
theorem dX11_type_41 : decode cX11_type 41 = .ok (.getfield 142, 3) := by decide +kernel
theorem dX11_type_44 : decode cX11_type 44 = .ok (.ireturn, 1) := by decide +kernel
theorem dX11_house_0 : decode cX11_house 0 = .ok (.aload_n 0, 1) := by decide +kernel
theorem dX11_house_1 : decode cX11_house 1 = .ok (.getfield 29, 3) := by decide +kernel
theorem dX11_house_4 : decode cX11_house 4 = .ok (.aload_n 0, 1) := by decide +kernel
theorem dX11_house_5 : decode cX11_house 5 = .ok (.getfield 10, 3) := by decide +kernel
theorem dX11_house_8 : decode cX11_house 8 = .ok (.getfield 92, 3) := by decide +kernel
theorem dX11_house_11 : decode cX11_house 11 = .ok (.getfield 149, 3) := by decide +kernel
theorem dX11_house_14 : decode cX11_house 14 = .ok (.invokevirtual 152, 3) := by decide +kernel
theorem dX11_house_17 : decode cX11_house 17 = .ok (.aload_n 0, 1) := by decide +kernel
theorem dX11_house_18 : decode cX11_house 18 = .ok (.getfield 35, 3) := by decide +kernel
theorem dX11_house_21 : decode cX11_house 21 = .ok (.aload_n 0, 1) := by decide +kernel
theorem dX11_house_22 : decode cX11_house 22 = .ok (.getfield 29, 3) := by decide +kernel
theorem dX11_house_25 : decode cX11_house 25 = .ok (.invokevirtual 156, 3) := by decide +kernel
theorem dX11_house_28 : decode cX11_house 28 = .ok (.istore_n 1, 1) := by decide +kernel
theorem dX11_house_29 : decode cX11_house 29 = .ok (.aload_n 0, 1) := by decide +kernel
theorem dX11_house_30 : decode cX11_house 30 = .ok (.getfield 35, 3) := by decide +kernel
theorem dX11_house_33 : decode cX11_house 33 = .ok (.getfield 160, 3) := by decide +kernel
theorem dX11_house_36 : decode cX11_house 36 = .ok (.istore_n 2, 1) := by decide +kernel
theorem dX11_house_37 : decode cX11_house 37 = .ok (.aload_n 0, 1) := by decide +kernel
theorem dX11_house_38 : decode cX11_house 38 = .ok (.getfield 35, 3) := by decide +kernel
theorem dX11_house_41 : decode cX11_house 41 = .ok (.invokevirtual 162, 3) := by decide +kernel
theorem dX11_house_44 : decode cX11_house 44 = .ok (.iload_n 1, 1) := by decide +kernel
theorem dX11_house_45 : decode cX11_house 45 = .ok (.ifCond .ne 8, 3) := by decide +kernel
theorem dX11_house_48 : decode cX11_house 48 = .ok (.bipush (-20), 2) := by decide +kernel
theorem dX11_house_50 : decode cX11_house 50 = .ok (.iload_n 2, 1) := by decide +kernel
theorem dX11_house_51 : decode cX11_house 51 = .ok (.isub, 1) := by decide +kernel
theorem dX11_house_52 : decode cX11_house 52 = .ok (.ireturn, 1) := by decide +kernel
theorem dX11_house_53 : decode cX11_house 53 = .ok (.aload_n 0, 1) := by decide +kernel
theorem dX11_house_54 : decode cX11_house 54 = .ok (.getfield 19, 3) := by decide +kernel
theorem dX11_house_57 : decode cX11_house 57 = .ok (.invokevirtual 65, 3) := by decide +kernel
theorem dX11_house_60 : decode cX11_house 60 = .ok (.aload_n 0, 1) := by decide +kernel
theorem dX11_house_61 : decode cX11_house 61 = .ok (.getfield 10, 3) := by decide +kernel
theorem dX11_house_64 : decode cX11_house 64 = .ok (.aload_n 0, 1) := by decide +kernel
theorem dX11_house_65 : decode cX11_house 65 = .ok (.getfield 29, 3) := by decide +kernel
theorem dX11_house_68 : decode cX11_house 68 = .ok (.invokevirtual 164, 3) := by decide +kernel
theorem dX11_house_71 : decode cX11_house 71 = .ok (.aload_n 0, 1) := by decide +kernel
theorem dX11_house_72 : decode cX11_house 72 = .ok (.getfield 10, 3) := by decide +kernel
theorem dX11_house_75 : decode cX11_house 75 = .ok (.getfield 61, 3) := by decide +kernel
theorem dX11_house_78 : decode cX11_house 78 = .ok (.ireturn, 1) := by decide +kernel
theorem dX11_count_0 : decode cX11_count 0 = .ok (.iload_n 1, 1) := by decide +kernel
theorem dX11_count_1 : decode cX11_count 1 = .ok (.tableswitch 165 0 8 #[51, 59, 67, 78, 99, 107, 115, 136, 157], 51) := by decide +kernel
theorem dX11_count_52 : decode cX11_count 52 = .ok (.aload_n 0, 1) := by decide +kernel
theorem dX11_count_53 : decode cX11_count 53 = .ok (.getfield 10, 3) := by decide +kernel
theorem dX11_count_56 : decode cX11_count 56 = .ok (.getfield 61, 3) := by decide +kernel
theorem dX11_count_59 : decode cX11_count 59 = .ok (.ireturn, 1) := by decide +kernel
theorem dX11_count_60 : decode cX11_count 60 = .ok (.aload_n 0, 1) := by decide +kernel
theorem dX11_count_61 : decode cX11_count 61 = .ok (.getfield 10, 3) := by decide +kernel
theorem dX11_count_64 : decode cX11_count 64 = .ok (.getfield 75, 3) := by decide +kernel
theorem dX11_count_67 : decode cX11_count 67 = .ok (.ireturn, 1) := by decide +kernel
theorem dX11_count_68 : decode cX11_count 68 = .ok (.aload_n 0, 1) := by decide +kernel
theorem dX11_count_69 : decode cX11_count 69 = .ok (.getfield 10, 3) := by decide +kernel
theorem dX11_count_72 : decode cX11_count 72 = .ok (.getfield 92, 3) := by decide +kernel
theorem dX11_count_75 : decode cX11_count 75 = .ok (.getfield 168, 3) := by decide +kernel
theorem dX11_count_78 : decode cX11_count 78 = .ok (.ireturn, 1) := by decide +kernel
theorem dX11_count_79 : decode cX11_count 79 = .ok (.aload_n 0, 1) := by decide +kernel
theorem dX11_count_80 : decode cX11_count 80 = .ok (.getfield 10, 3) := by decide +kernel
theorem dX11_count_83 : decode cX11_count 83 = .ok (.getfield 92, 3) := by decide +kernel
theorem dX11_count_86 : decode cX11_count 86 = .ok (.getfield 125, 3) := by decide +kernel
theorem dX11_count_89 : decode cX11_count 89 = .ok (.aload_n 0, 1) := by decide +kernel
theorem dX11_count_90 : decode cX11_count 90 = .ok (.getfield 10, 3) := by decide +kernel
theorem dX11_count_93 : decode cX11_count 93 = .ok (.getfield 75, 3) := by decide +kernel
theorem dX11_count_96 : decode cX11_count 96 = .ok (.invokestatic 171, 3) := by decide +kernel
theorem dX11_count_99 : decode cX11_count 99 = .ok (.ireturn, 1) := by decide +kernel
theorem dX11_count_100 : decode cX11_count 100 = .ok (.aload_n 0, 1) := by decide +kernel
theorem dX11_count_101 : decode cX11_count 101 = .ok (.getfield 10, 3) := by decide +kernel
theorem dX11_count_104 : decode cX11_count 104 = .ok (.invokevirtual 175, 3) := by decide +kernel
theorem dX11_count_107 : decode cX11_count 107 = .ok (.ireturn, 1) := by decide +kernel
theorem dX11_count_108 : decode cX11_count 108 = .ok (.aload_n 0, 1) := by decide +kernel
theorem dX11_count_109 : decode cX11_count 109 = .ok (.getfield 10, 3) := by decide +kernel
theorem dX11_count_112 : decode cX11_count 112 = .ok (.invokevirtual 179, 3) := by decide +kernel
theorem dX11_count_115 : decode cX11_count 115 = .ok (.ireturn, 1) := by decide +kernel
theorem dX11_count_116 : decode cX11_count 116 = .ok (.aload_n 0, 1) := by decide +kernel
theorem dX11_count_117 : decode cX11_count 117 = .ok (.getfield 10, 3) := by decide +kernel
theorem dX11_count_120 : decode cX11_count 120 = .ok (.getfield 92, 3) := by decide +kernel
theorem dX11_count_123 : decode cX11_count 123 = .ok (.getfield 96, 3) := by decide +kernel
theorem dX11_count_126 : decode cX11_count 126 = .ok (.aload_n 0, 1) := by decide +kernel
theorem dX11_count_127 : decode cX11_count 127 = .ok (.getfield 10, 3) := by decide +kernel
theorem dX11_count_130 : decode cX11_count 130 = .ok (.getfield 61, 3) := by decide +kernel
theorem dX11_count_133 : decode cX11_count 133 = .ok (.invokestatic 171, 3) := by decide +kernel
theorem dX11_count_136 : decode cX11_count 136 = .ok (.ireturn, 1) := by decide +kernel
theorem dX11_count_137 : decode cX11_count 137 = .ok (.aload_n 0, 1) := by decide +kernel
theorem dX11_count_138 : decode cX11_count 138 = .ok (.getfield 10, 3) := by decide +kernel
theorem dX11_count_141 : decode cX11_count 141 = .ok (.getfield 92, 3) := by decide +kernel
theorem dX11_count_144 : decode cX11_count 144 = .ok (.getfield 101, 3) := by decide +kernel
theorem dX11_count_147 : decode cX11_count 147 = .ok (.aload_n 0, 1) := by decide +kernel
theorem dX11_count_148 : decode cX11_count 148 = .ok (.getfield 10, 3) := by decide +kernel
theorem dX11_count_151 : decode cX11_count 151 = .ok (.getfield 61, 3) := by decide +kernel
theorem dX11_count_154 : decode cX11_count 154 = .ok (.invokestatic 171, 3) := by decide +kernel
theorem dX11_count_157 : decode cX11_count 157 = .ok (.ireturn, 1) := by decide +kernel
theorem dX11_count_158 : decode cX11_count 158 = .ok (.aload_n 0, 1) := by decide +kernel
theorem dX11_count_159 : decode cX11_count 159 = .ok (.getfield 19, 3) := by decide +kernel
theorem dX11_count_162 : decode cX11_count 162 = .ok (.getfield 182, 3) := by decide +kernel
theorem dX11_count_165 : decode cX11_count 165 = .ok (.ireturn, 1) := by decide +kernel
theorem dX11_count_166 : decode cX11_count 166 = .ok (.iconst (-1), 1) := by decide +kernel
theorem dX11_count_167 : decode cX11_count 167 = .ok (.ireturn, 1) := by decide +kernel
theorem dX11_nights_0 : decode cX11_nights 0 = .ok (.aload_n 0, 1) := by decide +kernel
theorem dX11_nights_1 : decode cX11_nights 1 = .ok (.iload_n 1, 1) := by decide +kernel
theorem dX11_nights_2 : decode cX11_nights 2 = .ok (.iconst 0, 1) := by decide +kernel
theorem dX11_nights_3 : decode cX11_nights 3 = .ok (.invokevirtual 185, 3) := by decide +kernel
theorem dX11_nights_6 : decode cX11_nights 6 = .ok (.ireturn, 1) := by decide +kernel
theorem dX11_move_0 : decode cX11_move 0 = .ok (.aload_n 0, 1) := by decide +kernel
theorem dX11_move_1 : decode cX11_move 1 = .ok (.getfield 10, 3) := by decide +kernel
theorem dX11_move_4 : decode cX11_move 4 = .ok (.iload_n 1, 1) := by decide +kernel
theorem dX11_move_5 : decode cX11_move 5 = .ok (.invokevirtual 110, 3) := by decide +kernel
theorem dX11_move_8 : decode cX11_move 8 = .ok (.ifCond .eq 10, 3) := by decide +kernel
theorem dX11_move_11 : decode cX11_move 11 = .ok (.iload_n 2, 1) := by decide +kernel
theorem dX11_move_12 : decode cX11_move 12 = .ok (.invokestatic 53, 3) := by decide +kernel
theorem dX11_move_15 : decode cX11_move 15 = .ok (.ifCond .ne 5, 3) := by decide +kernel
theorem dX11_move_18 : decode cX11_move 18 = .ok (.iconst (-1), 1) := by decide +kernel
theorem dX11_move_19 : decode cX11_move 19 = .ok (.ireturn, 1) := by decide +kernel
theorem dX11_move_20 : decode cX11_move 20 = .ok (.aload_n 0, 1) := by decide +kernel
theorem dX11_move_21 : decode cX11_move 21 = .ok (.getfield 10, 3) := by decide +kernel
theorem dX11_move_24 : decode cX11_move 24 = .ok (.getfield 92, 3) := by decide +kernel
theorem dX11_move_27 : decode cX11_move 27 = .ok (.getfield 122, 3) := by decide +kernel
theorem dX11_move_30 : decode cX11_move 30 = .ok (.iload_n 1, 1) := by decide +kernel
theorem dX11_move_31 : decode cX11_move 31 = .ok (.iaload, 1) := by decide +kernel
theorem dX11_move_32 : decode cX11_move 32 = .ok (.istore_n 3, 1) := by decide +kernel
theorem dX11_move_33 : decode cX11_move 33 = .ok (.iload_n 3, 1) := by decide +kernel
theorem dX11_move_34 : decode cX11_move 34 = .ok (.iload_n 2, 1) := by decide +kernel
theorem dX11_move_35 : decode cX11_move 35 = .ok (.if_icmp .ne 6, 3) := by decide +kernel
theorem dX11_move_38 : decode cX11_move 38 = .ok (.bipush (-2), 2) := by decide +kernel
theorem dX11_move_40 : decode cX11_move 40 = .ok (.ireturn, 1) := by decide +kernel
theorem dX11_move_41 : decode cX11_move 41 = .ok (.aload_n 0, 1) := by decide +kernel
theorem dX11_move_42 : decode cX11_move 42 = .ok (.getfield 19, 3) := by decide +kernel
theorem dX11_move_45 : decode cX11_move 45 = .ok (.aload_n 0, 1) := by decide +kernel
theorem dX11_move_46 : decode cX11_move 46 = .ok (.getfield 10, 3) := by decide +kernel
theorem dX11_move_49 : decode cX11_move 49 = .ok (.getfield 92, 3) := by decide +kernel
theorem dX11_move_52 : decode cX11_move 52 = .ok (.invokevirtual 189, 3) := by decide +kernel
theorem dX11_move_55 : decode cX11_move 55 = .ok (.aload_n 0, 1) := by decide +kernel
theorem dX11_move_56 : decode cX11_move 56 = .ok (.getfield 10, 3) := by decide +kernel
theorem dX11_move_59 : decode cX11_move 59 = .ok (.getfield 92, 3) := by decide +kernel
theorem dX11_move_62 : decode cX11_move 62 = .ok (.getfield 122, 3) := by decide +kernel
theorem dX11_move_65 : decode cX11_move 65 = .ok (.iload_n 1, 1) := by decide +kernel
theorem dX11_move_66 : decode cX11_move 66 = .ok (.iload_n 2, 1) := by decide +kernel
theorem dX11_move_67 : decode cX11_move 67 = .ok (.iastore, 1) := by decide +kernel
theorem dX11_move_68 : decode cX11_move 68 = .ok (.iload_n 3, 1) := by decide +kernel
theorem dX11_move_69 : decode cX11_move 69 = .ok (.ireturn, 1) := by decide +kernel
theorem dX11_pass_0 : decode cX11_pass 0 = .ok (.aload_n 0, 1) := by decide +kernel
theorem dX11_pass_1 : decode cX11_pass 1 = .ok (.getfield 10, 3) := by decide +kernel
theorem dX11_pass_4 : decode cX11_pass 4 = .ok (.iload_n 1, 1) := by decide +kernel
theorem dX11_pass_5 : decode cX11_pass 5 = .ok (.invokevirtual 110, 3) := by decide +kernel
theorem dX11_pass_8 : decode cX11_pass 8 = .ok (.ifCond .eq 10, 3) := by decide +kernel
theorem dX11_pass_11 : decode cX11_pass 11 = .ok (.iload_n 2, 1) := by decide +kernel
theorem dX11_pass_12 : decode cX11_pass 12 = .ok (.invokestatic 72, 3) := by decide +kernel
theorem dX11_pass_15 : decode cX11_pass 15 = .ok (.ifCond .ne 5, 3) := by decide +kernel
theorem dX11_pass_18 : decode cX11_pass 18 = .ok (.iconst (-1), 1) := by decide +kernel
theorem dX11_pass_19 : decode cX11_pass 19 = .ok (.ireturn, 1) := by decide +kernel
theorem dX11_pass_20 : decode cX11_pass 20 = .ok (.aload_n 0, 1) := by decide +kernel
theorem dX11_pass_21 : decode cX11_pass 21 = .ok (.getfield 10, 3) := by decide +kernel
theorem dX11_pass_24 : decode cX11_pass 24 = .ok (.getfield 92, 3) := by decide +kernel
theorem dX11_pass_27 : decode cX11_pass 27 = .ok (.getfield 116, 3) := by decide +kernel
theorem dX11_pass_30 : decode cX11_pass 30 = .ok (.iload_n 1, 1) := by decide +kernel
theorem dX11_pass_31 : decode cX11_pass 31 = .ok (.iaload, 1) := by decide +kernel
theorem dX11_pass_32 : decode cX11_pass 32 = .ok (.iload_n 2, 1) := by decide +kernel
theorem dX11_pass_33 : decode cX11_pass 33 = .ok (.if_icmp .ne 6, 3) := by decide +kernel
theorem dX11_pass_36 : decode cX11_pass 36 = .ok (.bipush (-2), 2) := by decide +kernel
theorem dX11_pass_38 : decode cX11_pass 38 = .ok (.ireturn, 1) := by decide +kernel
theorem dX11_pass_39 : decode cX11_pass 39 = .ok (.aload_n 0, 1) := by decide +kernel
theorem dX11_pass_40 : decode cX11_pass 40 = .ok (.getfield 19, 3) := by decide +kernel
theorem dX11_pass_43 : decode cX11_pass 43 = .ok (.aload_n 0, 1) := by decide +kernel
theorem dX11_pass_44 : decode cX11_pass 44 = .ok (.getfield 10, 3) := by decide +kernel
theorem dX11_pass_47 : decode cX11_pass 47 = .ok (.getfield 92, 3) := by decide +kernel
theorem dX11_pass_50 : decode cX11_pass 50 = .ok (.invokevirtual 189, 3) := by decide +kernel
theorem dX11_pass_53 : decode cX11_pass 53 = .ok (.aload_n 0, 1) := by decide +kernel
theorem dX11_pass_54 : decode cX11_pass 54 = .ok (.getfield 10, 3) := by decide +kernel
theorem dX11_pass_57 : decode cX11_pass 57 = .ok (.getfield 92, 3) := by decide +kernel
theorem dX11_pass_60 : decode cX11_pass 60 = .ok (.getfield 125, 3) := by decide +kernel
theorem dX11_pass_63 : decode cX11_pass 63 = .ok (.iload_n 1, 1) := by decide +kernel
theorem dX11_pass_64 : decode cX11_pass 64 = .ok (.iaload, 1) := by decide +kernel
theorem dX11_pass_65 : decode cX11_pass 65 = .ok (.istore_n 3, 1) := by decide +kernel
theorem dX11_pass_66 : decode cX11_pass 66 = .ok (.aload_n 0, 1) := by decide +kernel
theorem dX11_pass_67 : decode cX11_pass 67 = .ok (.getfield 10, 3) := by decide +kernel
theorem dX11_pass_70 : decode cX11_pass 70 = .ok (.getfield 92, 3) := by decide +kernel
theorem dX11_pass_73 : decode cX11_pass 73 = .ok (.getfield 116, 3) := by decide +kernel
theorem dX11_pass_76 : decode cX11_pass 76 = .ok (.iload_n 1, 1) := by decide +kernel
theorem dX11_pass_77 : decode cX11_pass 77 = .ok (.iload_n 2, 1) := by decide +kernel
theorem dX11_pass_78 : decode cX11_pass 78 = .ok (.iastore, 1) := by decide +kernel
theorem dX11_pass_79 : decode cX11_pass 79 = .ok (.aload_n 0, 1) := by decide +kernel
theorem dX11_pass_80 : decode cX11_pass 80 = .ok (.getfield 10, 3) := by decide +kernel
theorem dX11_pass_83 : decode cX11_pass 83 = .ok (.getfield 92, 3) := by decide +kernel
theorem dX11_pass_86 : decode cX11_pass 86 = .ok (.getfield 125, 3) := by decide +kernel
theorem dX11_pass_89 : decode cX11_pass 89 = .ok (.iload_n 1, 1) := by decide +kernel
theorem dX11_pass_90 : decode cX11_pass 90 = .ok (.aload_n 0, 1) := by decide +kernel
theorem dX11_pass_91 : decode cX11_pass 91 = .ok (.getfield 10, 3) := by decide +kernel
theorem dX11_pass_94 : decode cX11_pass 94 = .ok (.getfield 119, 3) := by decide +kernel
theorem dX11_pass_97 : decode cX11_pass 97 = .ok (.iload_n 1, 1) := by decide +kernel
theorem dX11_pass_98 : decode cX11_pass 98 = .ok (.iaload, 1) := by decide +kernel
theorem dX11_pass_99 : decode cX11_pass 99 = .ok (.invokestatic 193, 3) := by decide +kernel
theorem dX11_pass_102 : decode cX11_pass 102 = .ok (.iastore, 1) := by decide +kernel
theorem dX11_pass_103 : decode cX11_pass 103 = .ok (.iload_n 3, 1) := by decide +kernel
theorem dX11_pass_104 : decode cX11_pass 104 = .ok (.ireturn, 1) := by decide +kernel
theorem dX11_back_0 : decode cX11_back 0 = .ok (.aload_n 0, 1) := by decide +kernel
theorem dX11_back_1 : decode cX11_back 1 = .ok (.getfield 10, 3) := by decide +kernel
theorem dX11_back_4 : decode cX11_back 4 = .ok (.iload_n 1, 1) := by decide +kernel
theorem dX11_back_5 : decode cX11_back 5 = .ok (.invokevirtual 110, 3) := by decide +kernel
theorem dX11_back_8 : decode cX11_back 8 = .ok (.ifCond .ne 5, 3) := by decide +kernel
theorem dX11_back_11 : decode cX11_back 11 = .ok (.iconst (-1), 1) := by decide +kernel
theorem dX11_back_12 : decode cX11_back 12 = .ok (.ireturn, 1) := by decide +kernel
theorem dX11_back_13 : decode cX11_back 13 = .ok (.aload_n 0, 1) := by decide +kernel
theorem dX11_back_14 : decode cX11_back 14 = .ok (.getfield 10, 3) := by decide +kernel
theorem dX11_back_17 : decode cX11_back 17 = .ok (.getfield 92, 3) := by decide +kernel
theorem dX11_back_20 : decode cX11_back 20 = .ok (.getfield 125, 3) := by decide +kernel
theorem dX11_back_23 : decode cX11_back 23 = .ok (.iload_n 1, 1) := by decide +kernel
theorem dX11_back_24 : decode cX11_back 24 = .ok (.iaload, 1) := by decide +kernel
theorem dX11_back_25 : decode cX11_back 25 = .ok (.istore_n 2, 1) := by decide +kernel
theorem dX11_back_26 : decode cX11_back 26 = .ok (.iload_n 2, 1) := by decide +kernel
theorem dX11_back_27 : decode cX11_back 27 = .ok (.ifCond .ne 6, 3) := by decide +kernel
theorem dX11_back_30 : decode cX11_back 30 = .ok (.bipush (-2), 2) := by decide +kernel
theorem dX11_back_32 : decode cX11_back 32 = .ok (.ireturn, 1) := by decide +kernel
theorem dX11_back_33 : decode cX11_back 33 = .ok (.aload_n 0, 1) := by decide +kernel
theorem dX11_back_34 : decode cX11_back 34 = .ok (.getfield 19, 3) := by decide +kernel
theorem dX11_back_37 : decode cX11_back 37 = .ok (.aload_n 0, 1) := by decide +kernel
theorem dX11_back_38 : decode cX11_back 38 = .ok (.getfield 10, 3) := by decide +kernel
theorem dX11_back_41 : decode cX11_back 41 = .ok (.getfield 92, 3) := by decide +kernel
theorem dX11_back_44 : decode cX11_back 44 = .ok (.invokevirtual 189, 3) := by decide +kernel
theorem dX11_back_47 : decode cX11_back 47 = .ok (.aload_n 0, 1) := by decide +kernel
theorem dX11_back_48 : decode cX11_back 48 = .ok (.getfield 10, 3) := by decide +kernel
theorem dX11_back_51 : decode cX11_back 51 = .ok (.getfield 92, 3) := by decide +kernel
theorem dX11_back_54 : decode cX11_back 54 = .ok (.getfield 125, 3) := by decide +kernel
theorem dX11_back_57 : decode cX11_back 57 = .ok (.iload_n 1, 1) := by decide +kernel
theorem dX11_back_58 : decode cX11_back 58 = .ok (.iconst 0, 1) := by decide +kernel
theorem dX11_back_59 : decode cX11_back 59 = .ok (.iastore, 1) := by decide +kernel
theorem dX11_back_60 : decode cX11_back 60 = .ok (.iload_n 2, 1) := by decide +kernel
theorem dX11_back_61 : decode cX11_back 61 = .ok (.ireturn, 1) := by decide +kernel
theorem dX11_drift_0 : decode cX11_drift 0 = .ok (.aload_n 0, 1) := by decide +kernel
theorem dX11_drift_1 : decode cX11_drift 1 = .ok (.iload_n 1, 1) := by decide +kernel
theorem dX11_drift_2 : decode cX11_drift 2 = .ok (.iconst 1, 1) := by decide +kernel
theorem dX11_drift_3 : decode cX11_drift 3 = .ok (.invokevirtual 185, 3) := by decide +kernel
theorem dX11_drift_6 : decode cX11_drift 6 = .ok (.ireturn, 1) := by decide +kernel
theorem dX11_undo_0 : decode cX11_undo 0 = .ok (.aload_n 0, 1) := by decide +kernel
theorem dX11_undo_1 : decode cX11_undo 1 = .ok (.getfield 19, 3) := by decide +kernel
theorem dX11_undo_4 : decode cX11_undo 4 = .ok (.getfield 182, 3) := by decide +kernel
theorem dX11_undo_7 : decode cX11_undo 7 = .ok (.ifCond .ne 6, 3) := by decide +kernel
theorem dX11_undo_10 : decode cX11_undo 10 = .ok (.bipush (-4), 2) := by decide +kernel
theorem dX11_undo_12 : decode cX11_undo 12 = .ok (.ireturn, 1) := by decide +kernel
theorem dX11_undo_13 : decode cX11_undo 13 = .ok (.aload_n 0, 1) := by decide +kernel
theorem dX11_undo_14 : decode cX11_undo 14 = .ok (.getfield 19, 3) := by decide +kernel
theorem dX11_undo_17 : decode cX11_undo 17 = .ok (.aload_n 0, 1) := by decide +kernel
theorem dX11_undo_18 : decode cX11_undo 18 = .ok (.getfield 10, 3) := by decide +kernel
theorem dX11_undo_21 : decode cX11_undo 21 = .ok (.getfield 92, 3) := by decide +kernel
theorem dX11_undo_24 : decode cX11_undo 24 = .ok (.invokevirtual 196, 3) := by decide +kernel
theorem dX11_undo_27 : decode cX11_undo 27 = .ok (.aload_n 0, 1) := by decide +kernel
theorem dX11_undo_28 : decode cX11_undo 28 = .ok (.getfield 19, 3) := by decide +kernel
theorem dX11_undo_31 : decode cX11_undo 31 = .ok (.getfield 182, 3) := by decide +kernel
theorem dX11_undo_34 : decode cX11_undo 34 = .ok (.ireturn, 1) := by decide +kernel
theorem dX11_seed_0 : decode cX11_seed 0 = .ok (.iload_n 1, 1) := by decide +kernel
theorem dX11_seed_1 : decode cX11_seed 1 = .ok (.ifCond .ge 5, 3) := by decide +kernel
theorem dX11_seed_4 : decode cX11_seed 4 = .ok (.iconst (-1), 1) := by decide +kernel
theorem dX11_seed_5 : decode cX11_seed 5 = .ok (.ireturn, 1) := by decide +kernel
theorem dX11_seed_6 : decode cX11_seed 6 = .ok (.aload_n 0, 1) := by decide +kernel
theorem dX11_seed_7 : decode cX11_seed 7 = .ok (.getfield 10, 3) := by decide +kernel
theorem dX11_seed_10 : decode cX11_seed 10 = .ok (.getfield 92, 3) := by decide +kernel
theorem dX11_seed_13 : decode cX11_seed 13 = .ok (.getfield 149, 3) := by decide +kernel
theorem dX11_seed_16 : decode cX11_seed 16 = .ok (.istore_n 2, 1) := by decide +kernel
theorem dX11_seed_17 : decode cX11_seed 17 = .ok (.aload_n 0, 1) := by decide +kernel
theorem dX11_seed_18 : decode cX11_seed 18 = .ok (.getfield 10, 3) := by decide +kernel
theorem dX11_seed_21 : decode cX11_seed 21 = .ok (.getfield 92, 3) := by decide +kernel
theorem dX11_seed_24 : decode cX11_seed 24 = .ok (.iload_n 1, 1) := by decide +kernel
theorem dX11_seed_25 : decode cX11_seed 25 = .ok (.putfield 149, 3) := by decide +kernel
theorem dX11_seed_28 : decode cX11_seed 28 = .ok (.iload_n 2, 1) := by decide +kernel
theorem dX11_seed_29 : decode cX11_seed 29 = .ok (.ireturn, 1) := by decide +kernel
theorem dX11_ahead_0 : decode cX11_ahead 0 = .ok (.aload_n 0, 1) := by decide +kernel
theorem dX11_ahead_1 : decode cX11_ahead 1 = .ok (.getfield 10, 3) := by decide +kernel
theorem dX11_ahead_4 : decode cX11_ahead 4 = .ok (.iload_n 1, 1) := by decide +kernel
theorem dX11_ahead_5 : decode cX11_ahead 5 = .ok (.invokevirtual 110, 3) := by decide +kernel
theorem dX11_ahead_8 : decode cX11_ahead 8 = .ok (.ifCond .eq 13, 3) := by decide +kernel
theorem dX11_ahead_11 : decode cX11_ahead 11 = .ok (.iload_n 2, 1) := by decide +kernel
theorem dX11_ahead_12 : decode cX11_ahead 12 = .ok (.iconst 0, 1) := by decide +kernel
theorem dX11_ahead_13 : decode cX11_ahead 13 = .ok (.bipush 60, 2) := by decide +kernel
theorem dX11_ahead_15 : decode cX11_ahead 15 = .ok (.invokestatic 57, 3) := by decide +kernel
theorem dX11_ahead_18 : decode cX11_ahead 18 = .ok (.ifCond .ne 5, 3) := by decide +kernel
theorem dX11_ahead_21 : decode cX11_ahead 21 = .ok (.iconst (-1), 1) := by decide +kernel
theorem dX11_ahead_22 : decode cX11_ahead 22 = .ok (.ireturn, 1) := by decide +kernel
theorem dX11_ahead_23 : decode cX11_ahead 23 = .ok (.aload_n 0, 1) := by decide +kernel
theorem dX11_ahead_24 : decode cX11_ahead 24 = .ok (.getfield 10, 3) := by decide +kernel
theorem dX11_ahead_27 : decode cX11_ahead 27 = .ok (.getfield 92, 3) := by decide +kernel
theorem dX11_ahead_30 : decode cX11_ahead 30 = .ok (.getfield 125, 3) := by decide +kernel
theorem dX11_ahead_33 : decode cX11_ahead 33 = .ok (.iload_n 1, 1) := by decide +kernel
theorem dX11_ahead_34 : decode cX11_ahead 34 = .ok (.iaload, 1) := by decide +kernel
theorem dX11_ahead_35 : decode cX11_ahead 35 = .ok (.istore_n 3, 1) := by decide +kernel
theorem dX11_ahead_36 : decode cX11_ahead 36 = .ok (.iconst 0, 1) := by decide +kernel
theorem dX11_ahead_37 : decode cX11_ahead 37 = .ok (.istore 4, 2) := by decide +kernel
theorem dX11_ahead_39 : decode cX11_ahead 39 = .ok (.iload 4, 2) := by decide +kernel
theorem dX11_ahead_41 : decode cX11_ahead 41 = .ok (.iload_n 2, 1) := by decide +kernel
theorem dX11_ahead_42 : decode cX11_ahead 42 = .ok (.if_icmp .ge 38, 3) := by decide +kernel
theorem dX11_ahead_45 : decode cX11_ahead 45 = .ok (.aload_n 0, 1) := by decide +kernel
theorem dX11_ahead_46 : decode cX11_ahead 46 = .ok (.getfield 10, 3) := by decide +kernel
theorem dX11_ahead_49 : decode cX11_ahead 49 = .ok (.aload_n 0, 1) := by decide +kernel
theorem dX11_ahead_50 : decode cX11_ahead 50 = .ok (.getfield 10, 3) := by decide +kernel
theorem dX11_ahead_53 : decode cX11_ahead 53 = .ok (.getfield 113, 3) := by decide +kernel
theorem dX11_ahead_56 : decode cX11_ahead 56 = .ok (.iload_n 1, 1) := by decide +kernel
theorem dX11_ahead_57 : decode cX11_ahead 57 = .ok (.iaload, 1) := by decide +kernel
theorem dX11_ahead_58 : decode cX11_ahead 58 = .ok (.aload_n 0, 1) := by decide +kernel
theorem dX11_ahead_59 : decode cX11_ahead 59 = .ok (.getfield 10, 3) := by decide +kernel
theorem dX11_ahead_62 : decode cX11_ahead 62 = .ok (.getfield 119, 3) := by decide +kernel
theorem dX11_ahead_65 : decode cX11_ahead 65 = .ok (.iload_n 1, 1) := by decide +kernel
theorem dX11_ahead_66 : decode cX11_ahead 66 = .ok (.iaload, 1) := by decide +kernel
theorem dX11_ahead_67 : decode cX11_ahead 67 = .ok (.iload_n 3, 1) := by decide +kernel
theorem dX11_ahead_68 : decode cX11_ahead 68 = .ok (.iload 4, 2) := by decide +kernel
theorem dX11_ahead_70 : decode cX11_ahead 70 = .ok (.invokevirtual 199, 3) := by decide +kernel
theorem dX11_ahead_73 : decode cX11_ahead 73 = .ok (.istore_n 3, 1) := by decide +kernel
theorem dX11_ahead_74 : decode cX11_ahead 74 = .ok (.iinc 4 1, 3) := by decide +kernel
theorem dX11_ahead_77 : decode cX11_ahead 77 = .ok (.goto (-38), 3) := by decide +kernel
theorem dX11_ahead_80 : decode cX11_ahead 80 = .ok (.iload_n 3, 1) := by decide +kernel
theorem dX11_ahead_81 : decode cX11_ahead 81 = .ok (.ireturn, 1) := by decide +kernel
theorem dX11_loudAhead_0 : decode cX11_loudAhead 0 = .ok (.iload_n 1, 1) := by decide +kernel
theorem dX11_loudAhead_1 : decode cX11_loudAhead 1 = .ok (.invokestatic 53, 3) := by decide +kernel
theorem dX11_loudAhead_4 : decode cX11_loudAhead 4 = .ok (.ifCond .eq 13, 3) := by decide +kernel
theorem dX11_loudAhead_7 : decode cX11_loudAhead 7 = .ok (.iload_n 2, 1) := by decide +kernel
theorem dX11_loudAhead_8 : decode cX11_loudAhead 8 = .ok (.iconst 0, 1) := by decide +kernel
theorem dX11_loudAhead_9 : decode cX11_loudAhead 9 = .ok (.bipush 60, 2) := by decide +kernel
theorem dX11_loudAhead_11 : decode cX11_loudAhead 11 = .ok (.invokestatic 57, 3) := by decide +kernel
theorem dX11_loudAhead_14 : decode cX11_loudAhead 14 = .ok (.ifCond .ne 5, 3) := by decide +kernel
theorem dX11_loudAhead_17 : decode cX11_loudAhead 17 = .ok (.iconst (-1), 1) := by decide +kernel
theorem dX11_loudAhead_18 : decode cX11_loudAhead 18 = .ok (.ireturn, 1) := by decide +kernel
theorem dX11_loudAhead_19 : decode cX11_loudAhead 19 = .ok (.aload_n 0, 1) := by decide +kernel
theorem dX11_loudAhead_20 : decode cX11_loudAhead 20 = .ok (.getfield 42, 3) := by decide +kernel
theorem dX11_loudAhead_23 : decode cX11_loudAhead 23 = .ok (.aload_n 0, 1) := by decide +kernel
theorem dX11_loudAhead_24 : decode cX11_loudAhead 24 = .ok (.getfield 10, 3) := by decide +kernel
theorem dX11_loudAhead_27 : decode cX11_loudAhead 27 = .ok (.iload_n 2, 1) := by decide +kernel
theorem dX11_loudAhead_28 : decode cX11_loudAhead 28 = .ok (.iconst 1, 1) := by decide +kernel
theorem dX11_loudAhead_29 : decode cX11_loudAhead 29 = .ok (.iadd, 1) := by decide +kernel
theorem dX11_loudAhead_30 : decode cX11_loudAhead 30 = .ok (.invokevirtual 203, 3) := by decide +kernel
theorem dX11_loudAhead_33 : decode cX11_loudAhead 33 = .ok (.aload_n 0, 1) := by decide +kernel
theorem dX11_loudAhead_34 : decode cX11_loudAhead 34 = .ok (.getfield 42, 3) := by decide +kernel
theorem dX11_loudAhead_37 : decode cX11_loudAhead 37 = .ok (.iload_n 2, 1) := by decide +kernel
theorem dX11_loudAhead_38 : decode cX11_loudAhead 38 = .ok (.iconst 0, 1) := by decide +kernel
theorem dX11_loudAhead_39 : decode cX11_loudAhead 39 = .ok (.invokevirtual 207, 3) := by decide +kernel
theorem dX11_loudAhead_42 : decode cX11_loudAhead 42 = .ok (.aload_n 0, 1) := by decide +kernel
theorem dX11_loudAhead_43 : decode cX11_loudAhead 43 = .ok (.getfield 42, 3) := by decide +kernel
theorem dX11_loudAhead_46 : decode cX11_loudAhead 46 = .ok (.getfield 209, 3) := by decide +kernel
theorem dX11_loudAhead_49 : decode cX11_loudAhead 49 = .ok (.iload_n 1, 1) := by decide +kernel
theorem dX11_loudAhead_50 : decode cX11_loudAhead 50 = .ok (.iaload, 1) := by decide +kernel
theorem dX11_loudAhead_51 : decode cX11_loudAhead 51 = .ok (.ireturn, 1) := by decide +kernel
theorem dX11_sleeps_0 : decode cX11_sleeps 0 = .ok (.aload_n 0, 1) := by decide +kernel
theorem dX11_sleeps_1 : decode cX11_sleeps 1 = .ok (.getfield 10, 3) := by decide +kernel
theorem dX11_sleeps_4 : decode cX11_sleeps 4 = .ok (.iload_n 1, 1) := by decide +kernel
theorem dX11_sleeps_5 : decode cX11_sleeps 5 = .ok (.invokevirtual 82, 3) := by decide +kernel
theorem dX11_sleeps_8 : decode cX11_sleeps 8 = .ok (.ifCond .eq 13, 3) := by decide +kernel
theorem dX11_sleeps_11 : decode cX11_sleeps 11 = .ok (.iload_n 2, 1) := by decide +kernel
theorem dX11_sleeps_12 : decode cX11_sleeps 12 = .ok (.iconst 0, 1) := by decide +kernel
theorem dX11_sleeps_13 : decode cX11_sleeps 13 = .ok (.bipush 60, 2) := by decide +kernel
theorem dX11_sleeps_15 : decode cX11_sleeps 15 = .ok (.invokestatic 57, 3) := by decide +kernel
theorem dX11_sleeps_18 : decode cX11_sleeps 18 = .ok (.ifCond .ne 5, 3) := by decide +kernel
theorem dX11_sleeps_21 : decode cX11_sleeps 21 = .ok (.iconst (-1), 1) := by decide +kernel
theorem dX11_sleeps_22 : decode cX11_sleeps 22 = .ok (.ireturn, 1) := by decide +kernel
theorem dX11_sleeps_23 : decode cX11_sleeps 23 = .ok (.aload_n 0, 1) := by decide +kernel
theorem dX11_sleeps_24 : decode cX11_sleeps 24 = .ok (.getfield 42, 3) := by decide +kernel
theorem dX11_sleeps_27 : decode cX11_sleeps 27 = .ok (.aload_n 0, 1) := by decide +kernel
theorem dX11_sleeps_28 : decode cX11_sleeps 28 = .ok (.getfield 10, 3) := by decide +kernel
theorem dX11_sleeps_31 : decode cX11_sleeps 31 = .ok (.iload_n 2, 1) := by decide +kernel
theorem dX11_sleeps_32 : decode cX11_sleeps 32 = .ok (.invokevirtual 203, 3) := by decide +kernel
theorem dX11_sleeps_35 : decode cX11_sleeps 35 = .ok (.iload_n 2, 1) := by decide +kernel
theorem dX11_sleeps_36 : decode cX11_sleeps 36 = .ok (.aload_n 0, 1) := by decide +kernel
theorem dX11_sleeps_37 : decode cX11_sleeps 37 = .ok (.getfield 42, 3) := by decide +kernel
theorem dX11_sleeps_40 : decode cX11_sleeps 40 = .ok (.aload_n 0, 1) := by decide +kernel
theorem dX11_sleeps_41 : decode cX11_sleeps 41 = .ok (.getfield 10, 3) := by decide +kernel
theorem dX11_sleeps_44 : decode cX11_sleeps 44 = .ok (.getfield 85, 3) := by decide +kernel
theorem dX11_sleeps_47 : decode cX11_sleeps 47 = .ok (.iload_n 1, 1) := by decide +kernel
theorem dX11_sleeps_48 : decode cX11_sleeps 48 = .ok (.iaload, 1) := by decide +kernel
theorem dX11_sleeps_49 : decode cX11_sleeps 49 = .ok (.aload_n 0, 1) := by decide +kernel
theorem dX11_sleeps_50 : decode cX11_sleeps 50 = .ok (.getfield 10, 3) := by decide +kernel
theorem dX11_sleeps_53 : decode cX11_sleeps 53 = .ok (.getfield 89, 3) := by decide +kernel
theorem dX11_sleeps_56 : decode cX11_sleeps 56 = .ok (.iload_n 1, 1) := by decide +kernel
theorem dX11_sleeps_57 : decode cX11_sleeps 57 = .ok (.iaload, 1) := by decide +kernel
theorem dX11_sleeps_58 : decode cX11_sleeps 58 = .ok (.invokevirtual 210, 3) := by decide +kernel
theorem dX11_sleeps_61 : decode cX11_sleeps 61 = .ok (.isub, 1) := by decide +kernel
theorem dX11_sleeps_62 : decode cX11_sleeps 62 = .ok (.ireturn, 1) := by decide +kernel
theorem dX11_peace_0 : decode cX11_peace 0 = .ok (.aload_n 0, 1) := by decide +kernel
theorem dX11_peace_1 : decode cX11_peace 1 = .ok (.getfield 42, 3) := by decide +kernel
theorem dX11_peace_4 : decode cX11_peace 4 = .ok (.aload_n 0, 1) := by decide +kernel
theorem dX11_peace_5 : decode cX11_peace 5 = .ok (.getfield 10, 3) := by decide +kernel
theorem dX11_peace_8 : decode cX11_peace 8 = .ok (.bipush 61, 2) := by decide +kernel
theorem dX11_peace_10 : decode cX11_peace 10 = .ok (.invokevirtual 203, 3) := by decide +kernel
theorem dX11_peace_13 : decode cX11_peace 13 = .ok (.iconst 0, 1) := by decide +kernel
theorem dX11_peace_14 : decode cX11_peace 14 = .ok (.istore_n 1, 1) := by decide +kernel
theorem dX11_peace_15 : decode cX11_peace 15 = .ok (.iload_n 1, 1) := by decide +kernel
theorem dX11_peace_16 : decode cX11_peace 16 = .ok (.bipush 60, 2) := by decide +kernel
theorem dX11_peace_18 : decode cX11_peace 18 = .ok (.if_icmp .gt 27, 3) := by decide +kernel
theorem dX11_peace_21 : decode cX11_peace 21 = .ok (.aload_n 0, 1) := by decide +kernel
theorem dX11_peace_22 : decode cX11_peace 22 = .ok (.getfield 42, 3) := by decide +kernel
theorem dX11_peace_25 : decode cX11_peace 25 = .ok (.aload_n 0, 1) := by decide +kernel
theorem dX11_peace_26 : decode cX11_peace 26 = .ok (.getfield 10, 3) := by decide +kernel
theorem dX11_peace_29 : decode cX11_peace 29 = .ok (.iload_n 1, 1) := by decide +kernel
theorem dX11_peace_30 : decode cX11_peace 30 = .ok (.iconst 0, 1) := by decide +kernel
theorem dX11_peace_31 : decode cX11_peace 31 = .ok (.invokevirtual 214, 3) := by decide +kernel
theorem dX11_peace_34 : decode cX11_peace 34 = .ok (.ifCond .ne 5, 3) := by decide +kernel
theorem dX11_peace_37 : decode cX11_peace 37 = .ok (.iload_n 1, 1) := by decide +kernel
theorem dX11_peace_38 : decode cX11_peace 38 = .ok (.ireturn, 1) := by decide +kernel
theorem dX11_peace_39 : decode cX11_peace 39 = .ok (.iinc 1 1, 3) := by decide +kernel
theorem dX11_peace_42 : decode cX11_peace 42 = .ok (.goto (-27), 3) := by decide +kernel
theorem dX11_peace_45 : decode cX11_peace 45 = .ok (.bipush (-4), 2) := by decide +kernel
theorem dX11_peace_47 : decode cX11_peace 47 = .ok (.ireturn, 1) := by decide +kernel
theorem dX11_best_0 : decode cX11_best 0 = .ok (.aload_n 0, 1) := by decide +kernel
theorem dX11_best_1 : decode cX11_best 1 = .ok (.getfield 10, 3) := by decide +kernel
theorem dX11_best_4 : decode cX11_best 4 = .ok (.iload_n 1, 1) := by decide +kernel
theorem dX11_best_5 : decode cX11_best 5 = .ok (.invokevirtual 110, 3) := by decide +kernel
theorem dX11_best_8 : decode cX11_best 8 = .ok (.ifCond .eq 22, 3) := by decide +kernel
theorem dX11_best_11 : decode cX11_best 11 = .ok (.iload_n 2, 1) := by decide +kernel
theorem dX11_best_12 : decode cX11_best 12 = .ok (.iconst 1, 1) := by decide +kernel
theorem dX11_best_13 : decode cX11_best 13 = .ok (.bipush 40, 2) := by decide +kernel
theorem dX11_best_15 : decode cX11_best 15 = .ok (.invokestatic 57, 3) := by decide +kernel
theorem dX11_best_18 : decode cX11_best 18 = .ok (.ifCond .eq 12, 3) := by decide +kernel
theorem dX11_best_21 : decode cX11_best 21 = .ok (.iload_n 3, 1) := by decide +kernel
theorem dX11_best_22 : decode cX11_best 22 = .ok (.iconst 0, 1) := by decide +kernel
theorem dX11_best_23 : decode cX11_best 23 = .ok (.iconst 1, 1) := by decide +kernel
theorem dX11_best_24 : decode cX11_best 24 = .ok (.invokestatic 57, 3) := by decide +kernel
theorem dX11_best_27 : decode cX11_best 27 = .ok (.ifCond .ne 5, 3) := by decide +kernel
theorem dX11_best_30 : decode cX11_best 30 = .ok (.iconst (-1), 1) := by decide +kernel
theorem dX11_best_31 : decode cX11_best 31 = .ok (.ireturn, 1) := by decide +kernel
theorem dX11_best_32 : decode cX11_best 32 = .ok (.aload_n 0, 1) := by decide +kernel
theorem dX11_best_33 : decode cX11_best 33 = .ok (.getfield 42, 3) := by decide +kernel
theorem dX11_best_36 : decode cX11_best 36 = .ok (.aload_n 0, 1) := by decide +kernel
theorem dX11_best_37 : decode cX11_best 37 = .ok (.getfield 10, 3) := by decide +kernel
theorem dX11_best_40 : decode cX11_best 40 = .ok (.iload_n 2, 1) := by decide +kernel
theorem dX11_best_41 : decode cX11_best 41 = .ok (.invokevirtual 203, 3) := by decide +kernel
theorem dX11_best_44 : decode cX11_best 44 = .ok (.iconst 0, 1) := by decide +kernel
theorem dX11_best_45 : decode cX11_best 45 = .ok (.istore 4, 2) := by decide +kernel
theorem dX11_best_47 : decode cX11_best 47 = .ok (.iconst 0, 1) := by decide +kernel
theorem dX11_best_48 : decode cX11_best 48 = .ok (.istore 5, 2) := by decide +kernel
theorem dX11_best_50 : decode cX11_best 50 = .ok (.iconst 0, 1) := by decide +kernel
theorem dX11_best_51 : decode cX11_best 51 = .ok (.istore 6, 2) := by decide +kernel
theorem dX11_best_53 : decode cX11_best 53 = .ok (.iload 6, 2) := by decide +kernel
theorem dX11_best_55 : decode cX11_best 55 = .ok (.iconst 4, 1) := by decide +kernel
theorem dX11_best_56 : decode cX11_best 56 = .ok (.if_icmp .ge 53, 3) := by decide +kernel
theorem dX11_best_59 : decode cX11_best 59 = .ok (.aload_n 0, 1) := by decide +kernel
theorem dX11_best_60 : decode cX11_best 60 = .ok (.getfield 42, 3) := by decide +kernel
theorem dX11_best_63 : decode cX11_best 63 = .ok (.getfield 218, 3) := by decide +kernel
theorem dX11_best_66 : decode cX11_best 66 = .ok (.iload_n 1, 1) := by decide +kernel
theorem dX11_best_67 : decode cX11_best 67 = .ok (.iload 6, 2) := by decide +kernel
theorem dX11_best_69 : decode cX11_best 69 = .ok (.iastore, 1) := by decide +kernel
theorem dX11_best_70 : decode cX11_best 70 = .ok (.aload_n 0, 1) := by decide +kernel
theorem dX11_best_71 : decode cX11_best 71 = .ok (.getfield 42, 3) := by decide +kernel
theorem dX11_best_74 : decode cX11_best 74 = .ok (.aload_n 0, 1) := by decide +kernel
theorem dX11_best_75 : decode cX11_best 75 = .ok (.getfield 10, 3) := by decide +kernel
theorem dX11_best_78 : decode cX11_best 78 = .ok (.invokevirtual 219, 3) := by decide +kernel
theorem dX11_best_81 : decode cX11_best 81 = .ok (.istore 7, 2) := by decide +kernel
theorem dX11_best_83 : decode cX11_best 83 = .ok (.iload 6, 2) := by decide +kernel
theorem dX11_best_85 : decode cX11_best 85 = .ok (.ifCond .eq 10, 3) := by decide +kernel
theorem dX11_best_88 : decode cX11_best 88 = .ok (.iload 7, 2) := by decide +kernel
theorem dX11_best_90 : decode cX11_best 90 = .ok (.iload 5, 2) := by decide +kernel
theorem dX11_best_92 : decode cX11_best 92 = .ok (.if_icmp .ge 11, 3) := by decide +kernel
theorem dX11_best_95 : decode cX11_best 95 = .ok (.iload 6, 2) := by decide +kernel
theorem dX11_best_97 : decode cX11_best 97 = .ok (.istore 4, 2) := by decide +kernel
theorem dX11_best_99 : decode cX11_best 99 = .ok (.iload 7, 2) := by decide +kernel
theorem dX11_best_101 : decode cX11_best 101 = .ok (.istore 5, 2) := by decide +kernel
theorem dX11_best_103 : decode cX11_best 103 = .ok (.iinc 6 1, 3) := by decide +kernel
theorem dX11_best_106 : decode cX11_best 106 = .ok (.goto (-53), 3) := by decide +kernel
theorem dX11_best_109 : decode cX11_best 109 = .ok (.iload_n 3, 1) := by decide +kernel
theorem dX11_best_110 : decode cX11_best 110 = .ok (.ifCond .ne 8, 3) := by decide +kernel
theorem dX11_best_113 : decode cX11_best 113 = .ok (.iload 4, 2) := by decide +kernel
theorem dX11_best_115 : decode cX11_best 115 = .ok (.goto 5, 3) := by decide +kernel
theorem dX11_best_118 : decode cX11_best 118 = .ok (.iload 5, 2) := by decide +kernel
theorem dX11_best_120 : decode cX11_best 120 = .ok (.ireturn, 1) := by decide +kernel
theorem dX11_bestBed_0 : decode cX11_bestBed 0 = .ok (.aload_n 0, 1) := by decide +kernel
theorem dX11_bestBed_1 : decode cX11_bestBed 1 = .ok (.getfield 10, 3) := by decide +kernel
theorem dX11_bestBed_4 : decode cX11_bestBed 4 = .ok (.iload_n 1, 1) := by decide +kernel
theorem dX11_bestBed_5 : decode cX11_bestBed 5 = .ok (.invokevirtual 82, 3) := by decide +kernel
theorem dX11_bestBed_8 : decode cX11_bestBed 8 = .ok (.ifCond .eq 22, 3) := by decide +kernel
theorem dX11_bestBed_11 : decode cX11_bestBed 11 = .ok (.iload_n 2, 1) := by decide +kernel
theorem dX11_bestBed_12 : decode cX11_bestBed 12 = .ok (.iconst 1, 1) := by decide +kernel
theorem dX11_bestBed_13 : decode cX11_bestBed 13 = .ok (.bipush 40, 2) := by decide +kernel
theorem dX11_bestBed_15 : decode cX11_bestBed 15 = .ok (.invokestatic 57, 3) := by decide +kernel
theorem dX11_bestBed_18 : decode cX11_bestBed 18 = .ok (.ifCond .eq 12, 3) := by decide +kernel
theorem dX11_bestBed_21 : decode cX11_bestBed 21 = .ok (.iload_n 3, 1) := by decide +kernel
theorem dX11_bestBed_22 : decode cX11_bestBed 22 = .ok (.iconst 0, 1) := by decide +kernel
theorem dX11_bestBed_23 : decode cX11_bestBed 23 = .ok (.iconst 1, 1) := by decide +kernel
theorem dX11_bestBed_24 : decode cX11_bestBed 24 = .ok (.invokestatic 57, 3) := by decide +kernel
theorem dX11_bestBed_27 : decode cX11_bestBed 27 = .ok (.ifCond .ne 5, 3) := by decide +kernel
theorem dX11_bestBed_30 : decode cX11_bestBed 30 = .ok (.iconst (-1), 1) := by decide +kernel
theorem dX11_bestBed_31 : decode cX11_bestBed 31 = .ok (.ireturn, 1) := by decide +kernel
theorem dX11_bestBed_32 : decode cX11_bestBed 32 = .ok (.aload_n 0, 1) := by decide +kernel
theorem dX11_bestBed_33 : decode cX11_bestBed 33 = .ok (.getfield 42, 3) := by decide +kernel
theorem dX11_bestBed_36 : decode cX11_bestBed 36 = .ok (.aload_n 0, 1) := by decide +kernel
theorem dX11_bestBed_37 : decode cX11_bestBed 37 = .ok (.getfield 10, 3) := by decide +kernel
theorem dX11_bestBed_40 : decode cX11_bestBed 40 = .ok (.iload_n 2, 1) := by decide +kernel
theorem dX11_bestBed_41 : decode cX11_bestBed 41 = .ok (.invokevirtual 203, 3) := by decide +kernel
theorem dX11_bestBed_44 : decode cX11_bestBed 44 = .ok (.iconst 0, 1) := by decide +kernel
theorem dX11_bestBed_45 : decode cX11_bestBed 45 = .ok (.istore 4, 2) := by decide +kernel
theorem dX11_bestBed_47 : decode cX11_bestBed 47 = .ok (.iconst 0, 1) := by decide +kernel
theorem dX11_bestBed_48 : decode cX11_bestBed 48 = .ok (.istore 5, 2) := by decide +kernel
theorem dX11_bestBed_50 : decode cX11_bestBed 50 = .ok (.iconst 0, 1) := by decide +kernel
theorem dX11_bestBed_51 : decode cX11_bestBed 51 = .ok (.istore 6, 2) := by decide +kernel
theorem dX11_bestBed_53 : decode cX11_bestBed 53 = .ok (.iload 6, 2) := by decide +kernel
theorem dX11_bestBed_55 : decode cX11_bestBed 55 = .ok (.iconst 4, 1) := by decide +kernel
theorem dX11_bestBed_56 : decode cX11_bestBed 56 = .ok (.if_icmp .ge 49, 3) := by decide +kernel
theorem dX11_bestBed_59 : decode cX11_bestBed 59 = .ok (.aload_n 0, 1) := by decide +kernel
theorem dX11_bestBed_60 : decode cX11_bestBed 60 = .ok (.getfield 42, 3) := by decide +kernel
theorem dX11_bestBed_63 : decode cX11_bestBed 63 = .ok (.iload 6, 2) := by decide +kernel
theorem dX11_bestBed_65 : decode cX11_bestBed 65 = .ok (.aload_n 0, 1) := by decide +kernel
theorem dX11_bestBed_66 : decode cX11_bestBed 66 = .ok (.getfield 10, 3) := by decide +kernel
theorem dX11_bestBed_69 : decode cX11_bestBed 69 = .ok (.getfield 89, 3) := by decide +kernel
theorem dX11_bestBed_72 : decode cX11_bestBed 72 = .ok (.iload_n 1, 1) := by decide +kernel
theorem dX11_bestBed_73 : decode cX11_bestBed 73 = .ok (.iaload, 1) := by decide +kernel
theorem dX11_bestBed_74 : decode cX11_bestBed 74 = .ok (.invokevirtual 210, 3) := by decide +kernel
theorem dX11_bestBed_77 : decode cX11_bestBed 77 = .ok (.istore 7, 2) := by decide +kernel
theorem dX11_bestBed_79 : decode cX11_bestBed 79 = .ok (.iload 6, 2) := by decide +kernel
theorem dX11_bestBed_81 : decode cX11_bestBed 81 = .ok (.ifCond .eq 10, 3) := by decide +kernel
theorem dX11_bestBed_84 : decode cX11_bestBed 84 = .ok (.iload 7, 2) := by decide +kernel
theorem dX11_bestBed_86 : decode cX11_bestBed 86 = .ok (.iload 5, 2) := by decide +kernel
theorem dX11_bestBed_88 : decode cX11_bestBed 88 = .ok (.if_icmp .ge 11, 3) := by decide +kernel
theorem dX11_bestBed_91 : decode cX11_bestBed 91 = .ok (.iload 6, 2) := by decide +kernel
theorem dX11_bestBed_93 : decode cX11_bestBed 93 = .ok (.istore 4, 2) := by decide +kernel
theorem dX11_bestBed_95 : decode cX11_bestBed 95 = .ok (.iload 7, 2) := by decide +kernel
theorem dX11_bestBed_97 : decode cX11_bestBed 97 = .ok (.istore 5, 2) := by decide +kernel
theorem dX11_bestBed_99 : decode cX11_bestBed 99 = .ok (.iinc 6 1, 3) := by decide +kernel
theorem dX11_bestBed_102 : decode cX11_bestBed 102 = .ok (.goto (-49), 3) := by decide +kernel
theorem dX11_bestBed_105 : decode cX11_bestBed 105 = .ok (.iload_n 3, 1) := by decide +kernel
theorem dX11_bestBed_106 : decode cX11_bestBed 106 = .ok (.ifCond .ne 8, 3) := by decide +kernel
theorem dX11_bestBed_109 : decode cX11_bestBed 109 = .ok (.iload 4, 2) := by decide +kernel
theorem dX11_bestBed_111 : decode cX11_bestBed 111 = .ok (.goto 5, 3) := by decide +kernel
theorem dX11_bestBed_114 : decode cX11_bestBed 114 = .ok (.iload 5, 2) := by decide +kernel
theorem dX11_bestBed_116 : decode cX11_bestBed 116 = .ok (.ireturn, 1) := by decide +kernel
theorem dX11_change_0 : decode cX11_change 0 = .ok (.iload_n 1, 1) := by decide +kernel
theorem dX11_change_1 : decode cX11_change 1 = .ok (.iconst 1, 1) := by decide +kernel
theorem dX11_change_2 : decode cX11_change 2 = .ok (.bipush 40, 2) := by decide +kernel
theorem dX11_change_4 : decode cX11_change 4 = .ok (.invokestatic 57, 3) := by decide +kernel
theorem dX11_change_7 : decode cX11_change 7 = .ok (.ifCond .eq 12, 3) := by decide +kernel
theorem dX11_change_10 : decode cX11_change 10 = .ok (.iload_n 2, 1) := by decide +kernel
theorem dX11_change_11 : decode cX11_change 11 = .ok (.iconst 0, 1) := by decide +kernel
theorem dX11_change_12 : decode cX11_change 12 = .ok (.iconst 1, 1) := by decide +kernel
theorem dX11_change_13 : decode cX11_change 13 = .ok (.invokestatic 57, 3) := by decide +kernel
theorem dX11_change_16 : decode cX11_change 16 = .ok (.ifCond .ne 5, 3) := by decide +kernel
theorem dX11_change_19 : decode cX11_change 19 = .ok (.iconst (-1), 1) := by decide +kernel
theorem dX11_change_20 : decode cX11_change 20 = .ok (.ireturn, 1) := by decide +kernel
theorem dX11_change_21 : decode cX11_change 21 = .ok (.aload_n 0, 1) := by decide +kernel
theorem dX11_change_22 : decode cX11_change 22 = .ok (.getfield 42, 3) := by decide +kernel
theorem dX11_change_25 : decode cX11_change 25 = .ok (.aload_n 0, 1) := by decide +kernel
theorem dX11_change_26 : decode cX11_change 26 = .ok (.getfield 10, 3) := by decide +kernel
theorem dX11_change_29 : decode cX11_change 29 = .ok (.iload_n 1, 1) := by decide +kernel
theorem dX11_change_30 : decode cX11_change 30 = .ok (.invokevirtual 203, 3) := by decide +kernel
theorem dX11_change_33 : decode cX11_change 33 = .ok (.bipush (-4), 2) := by decide +kernel
theorem dX11_change_35 : decode cX11_change 35 = .ok (.istore_n 3, 1) := by decide +kernel
theorem dX11_change_36 : decode cX11_change 36 = .ok (.aload_n 0, 1) := by decide +kernel
theorem dX11_change_37 : decode cX11_change 37 = .ok (.getfield 42, 3) := by decide +kernel
theorem dX11_change_40 : decode cX11_change 40 = .ok (.aload_n 0, 1) := by decide +kernel
theorem dX11_change_41 : decode cX11_change 41 = .ok (.getfield 10, 3) := by decide +kernel
theorem dX11_change_44 : decode cX11_change 44 = .ok (.invokevirtual 219, 3) := by decide +kernel
theorem dX11_change_47 : decode cX11_change 47 = .ok (.istore 4, 2) := by decide +kernel
theorem dX11_change_49 : decode cX11_change 49 = .ok (.iconst 0, 1) := by decide +kernel
theorem dX11_change_50 : decode cX11_change 50 = .ok (.istore 5, 2) := by decide +kernel
theorem dX11_change_52 : decode cX11_change 52 = .ok (.iload 5, 2) := by decide +kernel
theorem dX11_change_54 : decode cX11_change 54 = .ok (.iconst 4, 1) := by decide +kernel
theorem dX11_change_55 : decode cX11_change 55 = .ok (.if_icmp .ge 75, 3) := by decide +kernel
theorem dX11_change_58 : decode cX11_change 58 = .ok (.iload 5, 2) := by decide +kernel
theorem dX11_change_60 : decode cX11_change 60 = .ok (.iconst 1, 1) := by decide +kernel
theorem dX11_change_61 : decode cX11_change 61 = .ok (.iadd, 1) := by decide +kernel
theorem dX11_change_62 : decode cX11_change 62 = .ok (.istore 6, 2) := by decide +kernel
theorem dX11_change_64 : decode cX11_change 64 = .ok (.iload 6, 2) := by decide +kernel
theorem dX11_change_66 : decode cX11_change 66 = .ok (.iconst 4, 1) := by decide +kernel
theorem dX11_change_67 : decode cX11_change 67 = .ok (.if_icmp .ge 57, 3) := by decide +kernel
theorem dX11_change_70 : decode cX11_change 70 = .ok (.aload_n 0, 1) := by decide +kernel
theorem dX11_change_71 : decode cX11_change 71 = .ok (.getfield 42, 3) := by decide +kernel
theorem dX11_change_74 : decode cX11_change 74 = .ok (.aload_n 0, 1) := by decide +kernel
theorem dX11_change_75 : decode cX11_change 75 = .ok (.getfield 10, 3) := by decide +kernel
theorem dX11_change_78 : decode cX11_change 78 = .ok (.iload 5, 2) := by decide +kernel
theorem dX11_change_80 : decode cX11_change 80 = .ok (.iload 6, 2) := by decide +kernel
theorem dX11_change_82 : decode cX11_change 82 = .ok (.invokevirtual 223, 3) := by decide +kernel
theorem dX11_change_85 : decode cX11_change 85 = .ok (.aload_n 0, 1) := by decide +kernel
theorem dX11_change_86 : decode cX11_change 86 = .ok (.getfield 42, 3) := by decide +kernel
theorem dX11_change_89 : decode cX11_change 89 = .ok (.aload_n 0, 1) := by decide +kernel
theorem dX11_change_90 : decode cX11_change 90 = .ok (.getfield 10, 3) := by decide +kernel
theorem dX11_change_93 : decode cX11_change 93 = .ok (.invokevirtual 219, 3) := by decide +kernel
theorem dX11_change_96 : decode cX11_change 96 = .ok (.istore 7, 2) := by decide +kernel
theorem dX11_change_98 : decode cX11_change 98 = .ok (.iload 7, 2) := by decide +kernel
theorem dX11_change_100 : decode cX11_change 100 = .ok (.iload 4, 2) := by decide +kernel
theorem dX11_change_102 : decode cX11_change 102 = .ok (.if_icmp .ge 16, 3) := by decide +kernel
theorem dX11_change_105 : decode cX11_change 105 = .ok (.bipush 10, 2) := by decide +kernel
theorem dX11_change_107 : decode cX11_change 107 = .ok (.iload 5, 2) := by decide +kernel
theorem dX11_change_109 : decode cX11_change 109 = .ok (.imul, 1) := by decide +kernel
theorem dX11_change_110 : decode cX11_change 110 = .ok (.iload 6, 2) := by decide +kernel
theorem dX11_change_112 : decode cX11_change 112 = .ok (.iadd, 1) := by decide +kernel
theorem dX11_change_113 : decode cX11_change 113 = .ok (.istore_n 3, 1) := by decide +kernel
theorem dX11_change_114 : decode cX11_change 114 = .ok (.iload 7, 2) := by decide +kernel
theorem dX11_change_116 : decode cX11_change 116 = .ok (.istore 4, 2) := by decide +kernel
theorem dX11_change_118 : decode cX11_change 118 = .ok (.iinc 6 1, 3) := by decide +kernel
theorem dX11_change_121 : decode cX11_change 121 = .ok (.goto (-57), 3) := by decide +kernel
theorem dX11_change_124 : decode cX11_change 124 = .ok (.iinc 5 1, 3) := by decide +kernel
theorem dX11_change_127 : decode cX11_change 127 = .ok (.goto (-75), 3) := by decide +kernel
theorem dX11_change_130 : decode cX11_change 130 = .ok (.iload_n 3, 1) := by decide +kernel
theorem dX11_change_131 : decode cX11_change 131 = .ok (.bipush (-4), 2) := by decide +kernel
theorem dX11_change_133 : decode cX11_change 133 = .ok (.if_icmp .eq 7, 3) := by decide +kernel
theorem dX11_change_136 : decode cX11_change 136 = .ok (.iload_n 2, 1) := by decide +kernel
theorem dX11_change_137 : decode cX11_change 137 = .ok (.ifCond .ne 7, 3) := by decide +kernel
theorem dX11_change_140 : decode cX11_change 140 = .ok (.iload_n 3, 1) := by decide +kernel
theorem dX11_change_141 : decode cX11_change 141 = .ok (.goto 5, 3) := by decide +kernel
theorem dX11_change_144 : decode cX11_change 144 = .ok (.iload 4, 2) := by decide +kernel
theorem dX11_change_146 : decode cX11_change 146 = .ok (.ireturn, 1) := by decide +kernel
theorem dX11_backs_0 : decode cX11_backs 0 = .ok (.iload_n 1, 1) := by decide +kernel
theorem dX11_backs_1 : decode cX11_backs 1 = .ok (.iconst 1, 1) := by decide +kernel
theorem dX11_backs_2 : decode cX11_backs 2 = .ok (.bipush 40, 2) := by decide +kernel
theorem dX11_backs_4 : decode cX11_backs 4 = .ok (.invokestatic 57, 3) := by decide +kernel
theorem dX11_backs_7 : decode cX11_backs 7 = .ok (.ifCond .eq 12, 3) := by decide +kernel
theorem dX11_backs_10 : decode cX11_backs 10 = .ok (.iload_n 2, 1) := by decide +kernel
theorem dX11_backs_11 : decode cX11_backs 11 = .ok (.iconst 0, 1) := by decide +kernel
theorem dX11_backs_12 : decode cX11_backs 12 = .ok (.iconst 1, 1) := by decide +kernel
theorem dX11_backs_13 : decode cX11_backs 13 = .ok (.invokestatic 57, 3) := by decide +kernel
theorem dX11_backs_16 : decode cX11_backs 16 = .ok (.ifCond .ne 5, 3) := by decide +kernel
theorem dX11_backs_19 : decode cX11_backs 19 = .ok (.iconst (-1), 1) := by decide +kernel
theorem dX11_backs_20 : decode cX11_backs 20 = .ok (.ireturn, 1) := by decide +kernel
theorem dX11_backs_21 : decode cX11_backs 21 = .ok (.aload_n 0, 1) := by decide +kernel
theorem dX11_backs_22 : decode cX11_backs 22 = .ok (.getfield 42, 3) := by decide +kernel
theorem dX11_backs_25 : decode cX11_backs 25 = .ok (.aload_n 0, 1) := by decide +kernel
theorem dX11_backs_26 : decode cX11_backs 26 = .ok (.getfield 10, 3) := by decide +kernel
theorem dX11_backs_29 : decode cX11_backs 29 = .ok (.iload_n 1, 1) := by decide +kernel
theorem dX11_backs_30 : decode cX11_backs 30 = .ok (.invokevirtual 203, 3) := by decide +kernel
theorem dX11_backs_33 : decode cX11_backs 33 = .ok (.iconst 0, 1) := by decide +kernel
theorem dX11_backs_34 : decode cX11_backs 34 = .ok (.istore_n 3, 1) := by decide +kernel
theorem dX11_backs_35 : decode cX11_backs 35 = .ok (.iload_n 3, 1) := by decide +kernel
theorem dX11_backs_36 : decode cX11_backs 36 = .ok (.aload_n 0, 1) := by decide +kernel
theorem dX11_backs_37 : decode cX11_backs 37 = .ok (.getfield 10, 3) := by decide +kernel
theorem dX11_backs_40 : decode cX11_backs 40 = .ok (.getfield 75, 3) := by decide +kernel
theorem dX11_backs_43 : decode cX11_backs 43 = .ok (.if_icmp .gt 68, 3) := by decide +kernel
theorem dX11_backs_46 : decode cX11_backs 46 = .ok (.iconst 0, 1) := by decide +kernel
theorem dX11_backs_47 : decode cX11_backs 47 = .ok (.istore 4, 2) := by decide +kernel
theorem dX11_backs_49 : decode cX11_backs 49 = .ok (.iload 4, 2) := by decide +kernel
theorem dX11_backs_51 : decode cX11_backs 51 = .ok (.iconst 1, 1) := by decide +kernel
theorem dX11_backs_52 : decode cX11_backs 52 = .ok (.aload_n 0, 1) := by decide +kernel
theorem dX11_backs_53 : decode cX11_backs 53 = .ok (.getfield 10, 3) := by decide +kernel
theorem dX11_backs_56 : decode cX11_backs 56 = .ok (.getfield 75, 3) := by decide +kernel
theorem dX11_backs_59 : decode cX11_backs 59 = .ok (.ishl, 1) := by decide +kernel
theorem dX11_backs_60 : decode cX11_backs 60 = .ok (.if_icmp .ge 45, 3) := by decide +kernel
theorem dX11_backs_63 : decode cX11_backs 63 = .ok (.iload 4, 2) := by decide +kernel
theorem dX11_backs_65 : decode cX11_backs 65 = .ok (.invokestatic 227, 3) := by decide +kernel
theorem dX11_backs_68 : decode cX11_backs 68 = .ok (.iload_n 3, 1) := by decide +kernel
theorem dX11_backs_69 : decode cX11_backs 69 = .ok (.if_icmp .ne 30, 3) := by decide +kernel
theorem dX11_backs_72 : decode cX11_backs 72 = .ok (.aload_n 0, 1) := by decide +kernel
theorem dX11_backs_73 : decode cX11_backs 73 = .ok (.getfield 42, 3) := by decide +kernel
theorem dX11_backs_76 : decode cX11_backs 76 = .ok (.aload_n 0, 1) := by decide +kernel
theorem dX11_backs_77 : decode cX11_backs 77 = .ok (.getfield 10, 3) := by decide +kernel
theorem dX11_backs_80 : decode cX11_backs 80 = .ok (.iload 4, 2) := by decide +kernel
theorem dX11_backs_82 : decode cX11_backs 82 = .ok (.invokevirtual 232, 3) := by decide +kernel
theorem dX11_backs_85 : decode cX11_backs 85 = .ok (.ifCond .eq 14, 3) := by decide +kernel
theorem dX11_backs_88 : decode cX11_backs 88 = .ok (.iload_n 2, 1) := by decide +kernel
theorem dX11_backs_89 : decode cX11_backs 89 = .ok (.ifCond .ne 7, 3) := by decide +kernel
theorem dX11_backs_92 : decode cX11_backs 92 = .ok (.iload_n 3, 1) := by decide +kernel
theorem dX11_backs_93 : decode cX11_backs 93 = .ok (.goto 5, 3) := by decide +kernel
theorem dX11_backs_96 : decode cX11_backs 96 = .ok (.iload 4, 2) := by decide +kernel
theorem dX11_backs_98 : decode cX11_backs 98 = .ok (.ireturn, 1) := by decide +kernel
theorem dX11_backs_99 : decode cX11_backs 99 = .ok (.iinc 4 1, 3) := by decide +kernel
theorem dX11_backs_102 : decode cX11_backs 102 = .ok (.goto (-53), 3) := by decide +kernel
theorem dX11_backs_105 : decode cX11_backs 105 = .ok (.iinc 3 1, 3) := by decide +kernel
theorem dX11_backs_108 : decode cX11_backs 108 = .ok (.goto (-73), 3) := by decide +kernel
theorem dX11_backs_111 : decode cX11_backs 111 = .ok (.bipush (-4), 2) := by decide +kernel
theorem dX11_backs_113 : decode cX11_backs 113 = .ok (.ireturn, 1) := by decide +kernel
theorem dX11_luck_0 : decode cX11_luck 0 = .ok (.aload_n 0, 1) := by decide +kernel
theorem dX11_luck_1 : decode cX11_luck 1 = .ok (.getfield 10, 3) := by decide +kernel
theorem dX11_luck_4 : decode cX11_luck 4 = .ok (.iload_n 1, 1) := by decide +kernel
theorem dX11_luck_5 : decode cX11_luck 5 = .ok (.invokevirtual 82, 3) := by decide +kernel
theorem dX11_luck_8 : decode cX11_luck 8 = .ok (.ifCond .eq 22, 3) := by decide +kernel
theorem dX11_luck_11 : decode cX11_luck 11 = .ok (.iload_n 2, 1) := by decide +kernel
theorem dX11_luck_12 : decode cX11_luck 12 = .ok (.iconst 0, 1) := by decide +kernel
theorem dX11_luck_13 : decode cX11_luck 13 = .ok (.bipush 10, 2) := by decide +kernel
theorem dX11_luck_15 : decode cX11_luck 15 = .ok (.invokestatic 57, 3) := by decide +kernel
theorem dX11_luck_18 : decode cX11_luck 18 = .ok (.ifCond .eq 12, 3) := by decide +kernel
theorem dX11_luck_21 : decode cX11_luck 21 = .ok (.iload_n 3, 1) := by decide +kernel
theorem dX11_luck_22 : decode cX11_luck 22 = .ok (.iconst 0, 1) := by decide +kernel
theorem dX11_luck_23 : decode cX11_luck 23 = .ok (.iconst 1, 1) := by decide +kernel
theorem dX11_luck_24 : decode cX11_luck 24 = .ok (.invokestatic 57, 3) := by decide +kernel
theorem dX11_luck_27 : decode cX11_luck 27 = .ok (.ifCond .ne 5, 3) := by decide +kernel
theorem dX11_luck_30 : decode cX11_luck 30 = .ok (.iconst (-1), 1) := by decide +kernel
theorem dX11_luck_31 : decode cX11_luck 31 = .ok (.ireturn, 1) := by decide +kernel
theorem dX11_luck_32 : decode cX11_luck 32 = .ok (.aload_n 0, 1) := by decide +kernel
theorem dX11_luck_33 : decode cX11_luck 33 = .ok (.getfield 10, 3) := by decide +kernel
theorem dX11_luck_36 : decode cX11_luck 36 = .ok (.aload_n 0, 1) := by decide +kernel
theorem dX11_luck_37 : decode cX11_luck 37 = .ok (.getfield 10, 3) := by decide +kernel
theorem dX11_luck_40 : decode cX11_luck 40 = .ok (.getfield 85, 3) := by decide +kernel
theorem dX11_luck_43 : decode cX11_luck 43 = .ok (.iload_n 1, 1) := by decide +kernel
theorem dX11_luck_44 : decode cX11_luck 44 = .ok (.iaload, 1) := by decide +kernel
theorem dX11_luck_45 : decode cX11_luck 45 = .ok (.invokevirtual 135, 3) := by decide +kernel
theorem dX11_luck_48 : decode cX11_luck 48 = .ok (.aload_n 0, 1) := by decide +kernel
theorem dX11_luck_49 : decode cX11_luck 49 = .ok (.getfield 10, 3) := by decide +kernel
theorem dX11_luck_52 : decode cX11_luck 52 = .ok (.invokevirtual 179, 3) := by decide +kernel
theorem dX11_luck_55 : decode cX11_luck 55 = .ok (.iconst (-1), 1) := by decide +kernel
theorem dX11_luck_56 : decode cX11_luck 56 = .ok (.ixor, 1) := by decide +kernel
theorem dX11_luck_57 : decode cX11_luck 57 = .ok (.iand, 1) := by decide +kernel
theorem dX11_luck_58 : decode cX11_luck 58 = .ok (.istore 4, 2) := by decide +kernel
theorem dX11_luck_60 : decode cX11_luck 60 = .ok (.iconst 0, 1) := by decide +kernel
theorem dX11_luck_61 : decode cX11_luck 61 = .ok (.istore 5, 2) := by decide +kernel
theorem dX11_luck_63 : decode cX11_luck 63 = .ok (.iconst 1, 1) := by decide +kernel
theorem dX11_luck_64 : decode cX11_luck 64 = .ok (.istore 6, 2) := by decide +kernel
theorem dX11_luck_66 : decode cX11_luck 66 = .ok (.iconst 0, 1) := by decide +kernel
theorem dX11_luck_67 : decode cX11_luck 67 = .ok (.istore 7, 2) := by decide +kernel
theorem dX11_luck_69 : decode cX11_luck 69 = .ok (.iload 7, 2) := by decide +kernel
theorem dX11_luck_71 : decode cX11_luck 71 = .ok (.aload_n 0, 1) := by decide +kernel
theorem dX11_luck_72 : decode cX11_luck 72 = .ok (.getfield 10, 3) := by decide +kernel
theorem dX11_luck_75 : decode cX11_luck 75 = .ok (.getfield 75, 3) := by decide +kernel
theorem dX11_luck_78 : decode cX11_luck 78 = .ok (.if_icmp .ge 30, 3) := by decide +kernel
theorem dX11_luck_81 : decode cX11_luck 81 = .ok (.iload 6, 2) := by decide +kernel
theorem dX11_luck_83 : decode cX11_luck 83 = .ok (.iload 4, 2) := by decide +kernel
theorem dX11_luck_85 : decode cX11_luck 85 = .ok (.iload 7, 2) := by decide +kernel
theorem dX11_luck_87 : decode cX11_luck 87 = .ok (.invokestatic 236, 3) := by decide +kernel
theorem dX11_luck_90 : decode cX11_luck 90 = .ok (.ifCond .eq 8, 3) := by decide +kernel
theorem dX11_luck_93 : decode cX11_luck 93 = .ok (.bipush 10, 2) := by decide +kernel
theorem dX11_luck_95 : decode cX11_luck 95 = .ok (.goto 4, 3) := by decide +kernel
theorem dX11_luck_98 : decode cX11_luck 98 = .ok (.iconst 1, 1) := by decide +kernel
theorem dX11_luck_99 : decode cX11_luck 99 = .ok (.imul, 1) := by decide +kernel
theorem dX11_luck_100 : decode cX11_luck 100 = .ok (.istore 6, 2) := by decide +kernel
theorem dX11_luck_102 : decode cX11_luck 102 = .ok (.iinc 7 1, 3) := by decide +kernel
theorem dX11_luck_105 : decode cX11_luck 105 = .ok (.goto (-36), 3) := by decide +kernel
theorem dX11_luck_108 : decode cX11_luck 108 = .ok (.iconst 0, 1) := by decide +kernel
theorem dX11_luck_109 : decode cX11_luck 109 = .ok (.istore 7, 2) := by decide +kernel
theorem dX11_luck_111 : decode cX11_luck 111 = .ok (.iload 7, 2) := by decide +kernel
theorem dX11_luck_113 : decode cX11_luck 113 = .ok (.iconst 1, 1) := by decide +kernel
theorem dX11_luck_114 : decode cX11_luck 114 = .ok (.aload_n 0, 1) := by decide +kernel
theorem dX11_luck_115 : decode cX11_luck 115 = .ok (.getfield 10, 3) := by decide +kernel
theorem dX11_luck_118 : decode cX11_luck 118 = .ok (.getfield 75, 3) := by decide +kernel
theorem dX11_luck_121 : decode cX11_luck 121 = .ok (.ishl, 1) := by decide +kernel
theorem dX11_luck_122 : decode cX11_luck 122 = .ok (.if_icmp .ge 71, 3) := by decide +kernel
theorem dX11_luck_125 : decode cX11_luck 125 = .ok (.iload 7, 2) := by decide +kernel
theorem dX11_luck_127 : decode cX11_luck 127 = .ok (.iload 4, 2) := by decide +kernel
theorem dX11_luck_129 : decode cX11_luck 129 = .ok (.iconst (-1), 1) := by decide +kernel
theorem dX11_luck_130 : decode cX11_luck 130 = .ok (.ixor, 1) := by decide +kernel
theorem dX11_luck_131 : decode cX11_luck 131 = .ok (.iand, 1) := by decide +kernel
theorem dX11_luck_132 : decode cX11_luck 132 = .ok (.ifCond .ne 7, 3) := by decide +kernel
theorem dX11_luck_135 : decode cX11_luck 135 = .ok (.iconst 1, 1) := by decide +kernel
theorem dX11_luck_136 : decode cX11_luck 136 = .ok (.goto 4, 3) := by decide +kernel
theorem dX11_luck_139 : decode cX11_luck 139 = .ok (.iconst 0, 1) := by decide +kernel
theorem dX11_luck_140 : decode cX11_luck 140 = .ok (.istore 8, 2) := by decide +kernel
theorem dX11_luck_142 : decode cX11_luck 142 = .ok (.iload 8, 2) := by decide +kernel
theorem dX11_luck_144 : decode cX11_luck 144 = .ok (.ifCond .eq 43, 3) := by decide +kernel
theorem dX11_luck_147 : decode cX11_luck 147 = .ok (.aload_n 0, 1) := by decide +kernel
theorem dX11_luck_148 : decode cX11_luck 148 = .ok (.getfield 10, 3) := by decide +kernel
theorem dX11_luck_151 : decode cX11_luck 151 = .ok (.iload 4, 2) := by decide +kernel
theorem dX11_luck_153 : decode cX11_luck 153 = .ok (.iload 7, 2) := by decide +kernel
theorem dX11_luck_155 : decode cX11_luck 155 = .ok (.iconst (-1), 1) := by decide +kernel
theorem dX11_luck_156 : decode cX11_luck 156 = .ok (.ixor, 1) := by decide +kernel
theorem dX11_luck_157 : decode cX11_luck 157 = .ok (.iand, 1) := by decide +kernel
theorem dX11_luck_158 : decode cX11_luck 158 = .ok (.invokevirtual 240, 3) := by decide +kernel
theorem dX11_luck_161 : decode cX11_luck 161 = .ok (.aload_n 0, 1) := by decide +kernel
theorem dX11_luck_162 : decode cX11_luck 162 = .ok (.getfield 10, 3) := by decide +kernel
theorem dX11_luck_165 : decode cX11_luck 165 = .ok (.getfield 89, 3) := by decide +kernel
theorem dX11_luck_168 : decode cX11_luck 168 = .ok (.iload_n 1, 1) := by decide +kernel
theorem dX11_luck_169 : decode cX11_luck 169 = .ok (.iaload, 1) := by decide +kernel
theorem dX11_luck_170 : decode cX11_luck 170 = .ok (.if_icmp .gt 17, 3) := by decide +kernel
theorem dX11_luck_173 : decode cX11_luck 173 = .ok (.iload 5, 2) := by decide +kernel
theorem dX11_luck_175 : decode cX11_luck 175 = .ok (.aload_n 0, 1) := by decide +kernel
theorem dX11_luck_176 : decode cX11_luck 176 = .ok (.iload 4, 2) := by decide +kernel
theorem dX11_luck_178 : decode cX11_luck 178 = .ok (.iload 7, 2) := by decide +kernel
theorem dX11_luck_180 : decode cX11_luck 180 = .ok (.iload_n 2, 1) := by decide +kernel
theorem dX11_luck_181 : decode cX11_luck 181 = .ok (.invokevirtual 243, 3) := by decide +kernel
theorem dX11_luck_184 : decode cX11_luck 184 = .ok (.iadd, 1) := by decide +kernel
theorem dX11_luck_185 : decode cX11_luck 185 = .ok (.istore 5, 2) := by decide +kernel
theorem dX11_luck_187 : decode cX11_luck 187 = .ok (.iinc 7 1, 3) := by decide +kernel
theorem dX11_luck_190 : decode cX11_luck 190 = .ok (.goto (-79), 3) := by decide +kernel
theorem dX11_luck_193 : decode cX11_luck 193 = .ok (.iload 5, 2) := by decide +kernel
theorem dX11_luck_195 : decode cX11_luck 195 = .ok (.iload 6, 2) := by decide +kernel
theorem dX11_luck_197 : decode cX11_luck 197 = .ok (.invokestatic 246, 3) := by decide +kernel
theorem dX11_luck_200 : decode cX11_luck 200 = .ok (.istore 7, 2) := by decide +kernel
theorem dX11_luck_202 : decode cX11_luck 202 = .ok (.iload_n 3, 1) := by decide +kernel
theorem dX11_luck_203 : decode cX11_luck 203 = .ok (.ifCond .ne 8, 3) := by decide +kernel
theorem dX11_luck_206 : decode cX11_luck 206 = .ok (.iload 5, 2) := by decide +kernel
theorem dX11_luck_208 : decode cX11_luck 208 = .ok (.goto 5, 3) := by decide +kernel
theorem dX11_luck_211 : decode cX11_luck 211 = .ok (.iload 6, 2) := by decide +kernel
theorem dX11_luck_213 : decode cX11_luck 213 = .ok (.iload 7, 2) := by decide +kernel
theorem dX11_luck_215 : decode cX11_luck 215 = .ok (.idiv, 1) := by decide +kernel
theorem dX11_luck_216 : decode cX11_luck 216 = .ok (.ireturn, 1) := by decide +kernel
theorem dX11_thanked_0 : decode cX11_thanked 0 = .ok (.iload_n 1, 1) := by decide +kernel
theorem dX11_thanked_1 : decode cX11_thanked 1 = .ok (.invokestatic 72, 3) := by decide +kernel
theorem dX11_thanked_4 : decode cX11_thanked 4 = .ok (.ifCond .ne 5, 3) := by decide +kernel
theorem dX11_thanked_7 : decode cX11_thanked 7 = .ok (.iconst (-1), 1) := by decide +kernel
theorem dX11_thanked_8 : decode cX11_thanked 8 = .ok (.ireturn, 1) := by decide +kernel
theorem dX11_thanked_9 : decode cX11_thanked 9 = .ok (.aload_n 0, 1) := by decide +kernel
theorem dX11_thanked_10 : decode cX11_thanked 10 = .ok (.getfield 10, 3) := by decide +kernel
theorem dX11_thanked_13 : decode cX11_thanked 13 = .ok (.aload_n 0, 1) := by decide +kernel
theorem dX11_thanked_14 : decode cX11_thanked 14 = .ok (.getfield 10, 3) := by decide +kernel
theorem dX11_thanked_17 : decode cX11_thanked 17 = .ok (.iload_n 1, 1) := by decide +kernel
theorem dX11_thanked_18 : decode cX11_thanked 18 = .ok (.invokevirtual 249, 3) := by decide +kernel
theorem dX11_thanked_21 : decode cX11_thanked 21 = .ok (.invokevirtual 240, 3) := by decide +kernel
theorem dX11_thanked_24 : decode cX11_thanked 24 = .ok (.ireturn, 1) := by decide +kernel
theorem dX11_image_0 : decode cX11_image 0 = .ok (.aload_n 0, 1) := by decide +kernel
theorem dX11_image_1 : decode cX11_image 1 = .ok (.getfield 23, 3) := by decide +kernel
theorem dX11_image_4 : decode cX11_image 4 = .ok (.aload_n 0, 1) := by decide +kernel
theorem dX11_image_5 : decode cX11_image 5 = .ok (.getfield 10, 3) := by decide +kernel
theorem dX11_image_8 : decode cX11_image 8 = .ok (.invokevirtual 164, 3) := by decide +kernel
theorem dX11_image_11 : decode cX11_image 11 = .ok (.aload_n 0, 1) := by decide +kernel
theorem dX11_image_12 : decode cX11_image 12 = .ok (.getfield 26, 3) := by decide +kernel
theorem dX11_image_15 : decode cX11_image 15 = .ok (.aload_n 0, 1) := by decide +kernel
theorem dX11_image_16 : decode cX11_image 16 = .ok (.getfield 19, 3) := by decide +kernel
theorem dX11_image_19 : decode cX11_image 19 = .ok (.invokevirtual 252, 3) := by decide +kernel
theorem dX11_image_22 : decode cX11_image 22 = .ok (.aload_n 0, 1) := by decide +kernel
theorem dX11_image_23 : decode cX11_image 23 = .ok (.iconst 1, 1) := by decide +kernel
theorem dX11_image_24 : decode cX11_image 24 = .ok (.putfield 255, 3) := by decide +kernel
theorem dX11_image_27 : decode cX11_image 27 = .ok (.iconst 1, 1) := by decide +kernel
theorem dX11_image_28 : decode cX11_image 28 = .ok (.ireturn, 1) := by decide +kernel
theorem dX11_restore_0 : decode cX11_restore 0 = .ok (.aload_n 0, 1) := by decide +kernel
theorem dX11_restore_1 : decode cX11_restore 1 = .ok (.getfield 255, 3) := by decide +kernel
theorem dX11_restore_4 : decode cX11_restore 4 = .ok (.ifCond .ne 6, 3) := by decide +kernel
theorem dX11_restore_7 : decode cX11_restore 7 = .ok (.bipush (-4), 2) := by decide +kernel
theorem dX11_restore_9 : decode cX11_restore 9 = .ok (.ireturn, 1) := by decide +kernel
theorem dX11_restore_10 : decode cX11_restore 10 = .ok (.aload_n 0, 1) := by decide +kernel
theorem dX11_restore_11 : decode cX11_restore 11 = .ok (.getfield 10, 3) := by decide +kernel
theorem dX11_restore_14 : decode cX11_restore 14 = .ok (.aload_n 0, 1) := by decide +kernel
theorem dX11_restore_15 : decode cX11_restore 15 = .ok (.getfield 23, 3) := by decide +kernel
theorem dX11_restore_18 : decode cX11_restore 18 = .ok (.invokevirtual 164, 3) := by decide +kernel
theorem dX11_restore_21 : decode cX11_restore 21 = .ok (.aload_n 0, 1) := by decide +kernel
theorem dX11_restore_22 : decode cX11_restore 22 = .ok (.getfield 19, 3) := by decide +kernel
theorem dX11_restore_25 : decode cX11_restore 25 = .ok (.aload_n 0, 1) := by decide +kernel
theorem dX11_restore_26 : decode cX11_restore 26 = .ok (.getfield 26, 3) := by decide +kernel
theorem dX11_restore_29 : decode cX11_restore 29 = .ok (.invokevirtual 252, 3) := by decide +kernel
theorem dX11_restore_32 : decode cX11_restore 32 = .ok (.iconst 1, 1) := by decide +kernel
theorem dX11_restore_33 : decode cX11_restore 33 = .ok (.ireturn, 1) := by decide +kernel
theorem dX11_heard_0 : decode cX11_heard 0 = .ok (.aload_n 0, 1) := by decide +kernel
theorem dX11_heard_1 : decode cX11_heard 1 = .ok (.getfield 10, 3) := by decide +kernel
theorem dX11_heard_4 : decode cX11_heard 4 = .ok (.iload_n 1, 1) := by decide +kernel
theorem dX11_heard_5 : decode cX11_heard 5 = .ok (.invokevirtual 110, 3) := by decide +kernel
theorem dX11_heard_8 : decode cX11_heard 8 = .ok (.ifCond .eq 38, 3) := by decide +kernel
theorem dX11_heard_11 : decode cX11_heard 11 = .ok (.iload_n 2, 1) := by decide +kernel
theorem dX11_heard_12 : decode cX11_heard 12 = .ok (.invokestatic 259, 3) := by decide +kernel
theorem dX11_heard_15 : decode cX11_heard 15 = .ok (.ifCond .eq 31, 3) := by decide +kernel
theorem dX11_heard_18 : decode cX11_heard 18 = .ok (.iload_n 3, 1) := by decide +kernel
theorem dX11_heard_19 : decode cX11_heard 19 = .ok (.invokestatic 262, 3) := by decide +kernel
theorem dX11_heard_22 : decode cX11_heard 22 = .ok (.ifCond .eq 24, 3) := by decide +kernel
theorem dX11_heard_25 : decode cX11_heard 25 = .ok (.iload 5, 2) := by decide +kernel
theorem dX11_heard_27 : decode cX11_heard 27 = .ok (.iconst 1, 1) := by decide +kernel
theorem dX11_heard_28 : decode cX11_heard 28 = .ok (.bipush 8, 2) := by decide +kernel
theorem dX11_heard_30 : decode cX11_heard 30 = .ok (.invokestatic 57, 3) := by decide +kernel
theorem dX11_heard_33 : decode cX11_heard 33 = .ok (.ifCond .eq 13, 3) := by decide +kernel
theorem dX11_heard_36 : decode cX11_heard 36 = .ok (.iload 6, 2) := by decide +kernel
theorem dX11_heard_38 : decode cX11_heard 38 = .ok (.iconst 0, 1) := by decide +kernel
theorem dX11_heard_39 : decode cX11_heard 39 = .ok (.iconst 1, 1) := by decide +kernel
theorem dX11_heard_40 : decode cX11_heard 40 = .ok (.invokestatic 57, 3) := by decide +kernel
theorem dX11_heard_43 : decode cX11_heard 43 = .ok (.ifCond .ne 5, 3) := by decide +kernel
theorem dX11_heard_46 : decode cX11_heard 46 = .ok (.iconst (-1), 1) := by decide +kernel
theorem dX11_heard_47 : decode cX11_heard 47 = .ok (.ireturn, 1) := by decide +kernel
theorem dX11_heard_48 : decode cX11_heard 48 = .ok (.aload_n 0, 1) := by decide +kernel
theorem dX11_heard_49 : decode cX11_heard 49 = .ok (.getfield 49, 3) := by decide +kernel
theorem dX11_heard_52 : decode cX11_heard 52 = .ok (.iload_n 2, 1) := by decide +kernel
theorem dX11_heard_53 : decode cX11_heard 53 = .ok (.aaload, 1) := by decide +kernel
theorem dX11_heard_54 : decode cX11_heard 54 = .ok (.iload_n 3, 1) := by decide +kernel
theorem dX11_heard_55 : decode cX11_heard 55 = .ok (.iload 4, 2) := by decide +kernel
theorem dX11_heard_57 : decode cX11_heard 57 = .ok (.iload 5, 2) := by decide +kernel
theorem dX11_heard_59 : decode cX11_heard 59 = .ok (.invokevirtual 265, 3) := by decide +kernel
theorem dX11_heard_62 : decode cX11_heard 62 = .ok (.istore 7, 2) := by decide +kernel
theorem dX11_heard_64 : decode cX11_heard 64 = .ok (.iload 7, 2) := by decide +kernel
theorem dX11_heard_66 : decode cX11_heard 66 = .ok (.ifCond .eq 6, 3) := by decide +kernel
theorem dX11_heard_69 : decode cX11_heard 69 = .ok (.iload 7, 2) := by decide +kernel
theorem dX11_heard_71 : decode cX11_heard 71 = .ok (.ireturn, 1) := by decide +kernel
theorem dX11_heard_72 : decode cX11_heard 72 = .ok (.iload 6, 2) := by decide +kernel
theorem dX11_heard_74 : decode cX11_heard 74 = .ok (.ifCond .ne 21, 3) := by decide +kernel
theorem dX11_heard_77 : decode cX11_heard 77 = .ok (.aload_n 0, 1) := by decide +kernel
theorem dX11_heard_78 : decode cX11_heard 78 = .ok (.iload_n 1, 1) := by decide +kernel
theorem dX11_heard_79 : decode cX11_heard 79 = .ok (.aload_n 0, 1) := by decide +kernel
theorem dX11_heard_80 : decode cX11_heard 80 = .ok (.getfield 49, 3) := by decide +kernel
theorem dX11_heard_83 : decode cX11_heard 83 = .ok (.iload_n 2, 1) := by decide +kernel
theorem dX11_heard_84 : decode cX11_heard 84 = .ok (.aaload, 1) := by decide +kernel
theorem dX11_heard_85 : decode cX11_heard 85 = .ok (.iload 4, 2) := by decide +kernel
theorem dX11_heard_87 : decode cX11_heard 87 = .ok (.iload 5, 2) := by decide +kernel
theorem dX11_heard_89 : decode cX11_heard 89 = .ok (.invokevirtual 268, 3) := by decide +kernel
theorem dX11_heard_92 : decode cX11_heard 92 = .ok (.goto 18, 3) := by decide +kernel
theorem dX11_heard_95 : decode cX11_heard 95 = .ok (.aload_n 0, 1) := by decide +kernel
theorem dX11_heard_96 : decode cX11_heard 96 = .ok (.iload_n 1, 1) := by decide +kernel
theorem dX11_heard_97 : decode cX11_heard 97 = .ok (.aload_n 0, 1) := by decide +kernel
theorem dX11_heard_98 : decode cX11_heard 98 = .ok (.getfield 49, 3) := by decide +kernel
theorem dX11_heard_101 : decode cX11_heard 101 = .ok (.iload_n 2, 1) := by decide +kernel
theorem dX11_heard_102 : decode cX11_heard 102 = .ok (.aaload, 1) := by decide +kernel
theorem dX11_heard_103 : decode cX11_heard 103 = .ok (.iload 4, 2) := by decide +kernel
theorem dX11_heard_105 : decode cX11_heard 105 = .ok (.iload 5, 2) := by decide +kernel
theorem dX11_heard_107 : decode cX11_heard 107 = .ok (.invokevirtual 272, 3) := by decide +kernel
theorem dX11_heard_110 : decode cX11_heard 110 = .ok (.ireturn, 1) := by decide +kernel
theorem dX11_film_0 : decode cX11_film 0 = .ok (.aload_n 0, 1) := by decide +kernel
theorem dX11_film_1 : decode cX11_film 1 = .ok (.getfield 10, 3) := by decide +kernel
theorem dX11_film_4 : decode cX11_film 4 = .ok (.iload_n 1, 1) := by decide +kernel
theorem dX11_film_5 : decode cX11_film 5 = .ok (.invokevirtual 110, 3) := by decide +kernel
theorem dX11_film_8 : decode cX11_film 8 = .ok (.ifCond .eq 28, 3) := by decide +kernel
theorem dX11_film_11 : decode cX11_film 11 = .ok (.iload_n 2, 1) := by decide +kernel
theorem dX11_film_12 : decode cX11_film 12 = .ok (.iconst 1, 1) := by decide +kernel
theorem dX11_film_13 : decode cX11_film 13 = .ok (.bipush 24, 2) := by decide +kernel
theorem dX11_film_15 : decode cX11_film 15 = .ok (.invokestatic 57, 3) := by decide +kernel
theorem dX11_film_18 : decode cX11_film 18 = .ok (.ifCond .eq 18, 3) := by decide +kernel
theorem dX11_film_21 : decode cX11_film 21 = .ok (.iload_n 3, 1) := by decide +kernel
theorem dX11_film_22 : decode cX11_film 22 = .ok (.invokestatic 259, 3) := by decide +kernel
theorem dX11_film_25 : decode cX11_film 25 = .ok (.ifCond .eq 11, 3) := by decide +kernel
theorem dX11_film_28 : decode cX11_film 28 = .ok (.iload 4, 2) := by decide +kernel
theorem dX11_film_30 : decode cX11_film 30 = .ok (.invokestatic 262, 3) := by decide +kernel
theorem dX11_film_33 : decode cX11_film 33 = .ok (.ifCond .ne 5, 3) := by decide +kernel
theorem dX11_film_36 : decode cX11_film 36 = .ok (.iconst (-1), 1) := by decide +kernel
theorem dX11_film_37 : decode cX11_film 37 = .ok (.ireturn, 1) := by decide +kernel
theorem dX11_film_38 : decode cX11_film 38 = .ok (.aload_n 0, 1) := by decide +kernel
theorem dX11_film_39 : decode cX11_film 39 = .ok (.getfield 49, 3) := by decide +kernel
theorem dX11_film_42 : decode cX11_film 42 = .ok (.iload_n 3, 1) := by decide +kernel
theorem dX11_film_43 : decode cX11_film 43 = .ok (.aaload, 1) := by decide +kernel
theorem dX11_film_44 : decode cX11_film 44 = .ok (.iload 4, 2) := by decide +kernel
theorem dX11_film_46 : decode cX11_film 46 = .ok (.iload 5, 2) := by decide +kernel
theorem dX11_film_48 : decode cX11_film 48 = .ok (.iload_n 2, 1) := by decide +kernel
theorem dX11_film_49 : decode cX11_film 49 = .ok (.invokevirtual 265, 3) := by decide +kernel
theorem dX11_film_52 : decode cX11_film 52 = .ok (.istore 6, 2) := by decide +kernel
theorem dX11_film_54 : decode cX11_film 54 = .ok (.iload 6, 2) := by decide +kernel
theorem dX11_film_56 : decode cX11_film 56 = .ok (.ifCond .eq 6, 3) := by decide +kernel
theorem dX11_film_59 : decode cX11_film 59 = .ok (.iload 6, 2) := by decide +kernel
theorem dX11_film_61 : decode cX11_film 61 = .ok (.ireturn, 1) := by decide +kernel
theorem dX11_film_62 : decode cX11_film 62 = .ok (.aload_n 0, 1) := by decide +kernel
theorem dX11_film_63 : decode cX11_film 63 = .ok (.getfield 10, 3) := by decide +kernel
theorem dX11_film_66 : decode cX11_film 66 = .ok (.getfield 92, 3) := by decide +kernel
theorem dX11_film_69 : decode cX11_film 69 = .ok (.getfield 125, 3) := by decide +kernel
theorem dX11_film_72 : decode cX11_film 72 = .ok (.iload_n 1, 1) := by decide +kernel
theorem dX11_film_73 : decode cX11_film 73 = .ok (.iaload, 1) := by decide +kernel
theorem dX11_film_74 : decode cX11_film 74 = .ok (.istore 7, 2) := by decide +kernel
theorem dX11_film_76 : decode cX11_film 76 = .ok (.iconst 0, 1) := by decide +kernel
theorem dX11_film_77 : decode cX11_film 77 = .ok (.istore 8, 2) := by decide +kernel
theorem dX11_film_79 : decode cX11_film 79 = .ok (.iload 8, 2) := by decide +kernel
theorem dX11_film_81 : decode cX11_film 81 = .ok (.iload_n 2, 1) := by decide +kernel
theorem dX11_film_82 : decode cX11_film 82 = .ok (.if_icmp .ge 57, 3) := by decide +kernel
theorem dX11_film_85 : decode cX11_film 85 = .ok (.aload_n 0, 1) := by decide +kernel
theorem dX11_film_86 : decode cX11_film 86 = .ok (.getfield 10, 3) := by decide +kernel
theorem dX11_film_89 : decode cX11_film 89 = .ok (.aload_n 0, 1) := by decide +kernel
theorem dX11_film_90 : decode cX11_film 90 = .ok (.getfield 10, 3) := by decide +kernel
theorem dX11_film_93 : decode cX11_film 93 = .ok (.getfield 113, 3) := by decide +kernel
theorem dX11_film_96 : decode cX11_film 96 = .ok (.iload_n 1, 1) := by decide +kernel
theorem dX11_film_97 : decode cX11_film 97 = .ok (.iaload, 1) := by decide +kernel
theorem dX11_film_98 : decode cX11_film 98 = .ok (.aload_n 0, 1) := by decide +kernel
theorem dX11_film_99 : decode cX11_film 99 = .ok (.getfield 10, 3) := by decide +kernel
theorem dX11_film_102 : decode cX11_film 102 = .ok (.getfield 119, 3) := by decide +kernel
theorem dX11_film_105 : decode cX11_film 105 = .ok (.iload_n 1, 1) := by decide +kernel
theorem dX11_film_106 : decode cX11_film 106 = .ok (.iaload, 1) := by decide +kernel
theorem dX11_film_107 : decode cX11_film 107 = .ok (.iload 7, 2) := by decide +kernel
theorem dX11_film_109 : decode cX11_film 109 = .ok (.iload 8, 2) := by decide +kernel
theorem dX11_film_111 : decode cX11_film 111 = .ok (.invokevirtual 199, 3) := by decide +kernel
theorem dX11_film_114 : decode cX11_film 114 = .ok (.istore 7, 2) := by decide +kernel
theorem dX11_film_116 : decode cX11_film 116 = .ok (.aload_n 0, 1) := by decide +kernel
theorem dX11_film_117 : decode cX11_film 117 = .ok (.getfield 49, 3) := by decide +kernel
theorem dX11_film_120 : decode cX11_film 120 = .ok (.iload_n 3, 1) := by decide +kernel
theorem dX11_film_121 : decode cX11_film 121 = .ok (.aaload, 1) := by decide +kernel
theorem dX11_film_122 : decode cX11_film 122 = .ok (.iload 5, 2) := by decide +kernel
theorem dX11_film_124 : decode cX11_film 124 = .ok (.iload 8, 2) := by decide +kernel
theorem dX11_film_126 : decode cX11_film 126 = .ok (.iadd, 1) := by decide +kernel
theorem dX11_film_127 : decode cX11_film 127 = .ok (.iload 7, 2) := by decide +kernel
theorem dX11_film_129 : decode cX11_film 129 = .ok (.i2l, 1) := by decide +kernel
theorem dX11_film_130 : decode cX11_film 130 = .ok (.invokevirtual 275, 3) := by decide +kernel
theorem dX11_film_133 : decode cX11_film 133 = .ok (.iinc 8 1, 3) := by decide +kernel
theorem dX11_film_136 : decode cX11_film 136 = .ok (.goto (-57), 3) := by decide +kernel
theorem dX11_film_139 : decode cX11_film 139 = .ok (.iload_n 2, 1) := by decide +kernel
theorem dX11_film_140 : decode cX11_film 140 = .ok (.ireturn, 1) := by decide +kernel
theorem dX11_sheet_0 : decode cX11_sheet 0 = .ok (.iload_n 1, 1) := by decide +kernel
theorem dX11_sheet_1 : decode cX11_sheet 1 = .ok (.invokestatic 259, 3) := by decide +kernel
theorem dX11_sheet_4 : decode cX11_sheet 4 = .ok (.ifCond .eq 16, 3) := by decide +kernel
theorem dX11_sheet_7 : decode cX11_sheet 7 = .ok (.iload_n 2, 1) := by decide +kernel
theorem dX11_sheet_8 : decode cX11_sheet 8 = .ok (.invokestatic 262, 3) := by decide +kernel
theorem dX11_sheet_11 : decode cX11_sheet 11 = .ok (.ifCond .eq 9, 3) := by decide +kernel
theorem dX11_sheet_14 : decode cX11_sheet 14 = .ok (.iload_n 3, 1) := by decide +kernel
theorem dX11_sheet_15 : decode cX11_sheet 15 = .ok (.bipush 24, 2) := by decide +kernel
theorem dX11_sheet_17 : decode cX11_sheet 17 = .ok (.if_icmp .le 5, 3) := by decide +kernel
theorem dX11_sheet_20 : decode cX11_sheet 20 = .ok (.iconst (-1), 1) := by decide +kernel
theorem dX11_sheet_21 : decode cX11_sheet 21 = .ok (.ireturn, 1) := by decide +kernel
theorem dX11_sheet_22 : decode cX11_sheet 22 = .ok (.iload_n 3, 1) := by decide +kernel
theorem dX11_sheet_23 : decode cX11_sheet 23 = .ok (.ifCond .ge 6, 3) := by decide +kernel
theorem dX11_sheet_26 : decode cX11_sheet 26 = .ok (.bipush (-14), 2) := by decide +kernel
theorem dX11_sheet_28 : decode cX11_sheet 28 = .ok (.ireturn, 1) := by decide +kernel
theorem dX11_sheet_29 : decode cX11_sheet 29 = .ok (.aload_n 0, 1) := by decide +kernel
theorem dX11_sheet_30 : decode cX11_sheet 30 = .ok (.getfield 49, 3) := by decide +kernel
theorem dX11_sheet_33 : decode cX11_sheet 33 = .ok (.iload_n 1, 1) := by decide +kernel
theorem dX11_sheet_34 : decode cX11_sheet 34 = .ok (.aaload, 1) := by decide +kernel
theorem dX11_sheet_35 : decode cX11_sheet 35 = .ok (.iload_n 2, 1) := by decide +kernel
theorem dX11_sheet_36 : decode cX11_sheet 36 = .ok (.iload_n 3, 1) := by decide +kernel
theorem dX11_sheet_37 : decode cX11_sheet 37 = .ok (.invokevirtual 279, 3) := by decide +kernel
theorem dX11_sheet_40 : decode cX11_sheet 40 = .ok (.iload_n 3, 1) := by decide +kernel
theorem dX11_sheet_41 : decode cX11_sheet 41 = .ok (.ireturn, 1) := by decide +kernel
theorem dX11_drop_0 : decode cX11_drop 0 = .ok (.iload_n 1, 1) := by decide +kernel
theorem dX11_drop_1 : decode cX11_drop 1 = .ok (.invokestatic 259, 3) := by decide +kernel
theorem dX11_drop_4 : decode cX11_drop 4 = .ok (.ifCond .ne 5, 3) := by decide +kernel
theorem dX11_drop_7 : decode cX11_drop 7 = .ok (.iconst (-1), 1) := by decide +kernel
theorem dX11_drop_8 : decode cX11_drop 8 = .ok (.ireturn, 1) := by decide +kernel
theorem dX11_drop_9 : decode cX11_drop 9 = .ok (.aload_n 0, 1) := by decide +kernel
theorem dX11_drop_10 : decode cX11_drop 10 = .ok (.getfield 49, 3) := by decide +kernel
theorem dX11_drop_13 : decode cX11_drop 13 = .ok (.iload_n 1, 1) := by decide +kernel
theorem dX11_drop_14 : decode cX11_drop 14 = .ok (.aaload, 1) := by decide +kernel
theorem dX11_drop_15 : decode cX11_drop 15 = .ok (.getfield 282, 3) := by decide +kernel
theorem dX11_drop_18 : decode cX11_drop 18 = .ok (.ifCond .ne 6, 3) := by decide +kernel
theorem dX11_drop_21 : decode cX11_drop 21 = .ok (.bipush (-11), 2) := by decide +kernel
theorem dX11_drop_23 : decode cX11_drop 23 = .ok (.ireturn, 1) := by decide +kernel
theorem dX11_drop_24 : decode cX11_drop 24 = .ok (.aload_n 0, 1) := by decide +kernel
theorem dX11_drop_25 : decode cX11_drop 25 = .ok (.getfield 49, 3) := by decide +kernel
theorem dX11_drop_28 : decode cX11_drop 28 = .ok (.iload_n 1, 1) := by decide +kernel
theorem dX11_drop_29 : decode cX11_drop 29 = .ok (.aaload, 1) := by decide +kernel
theorem dX11_drop_30 : decode cX11_drop 30 = .ok (.iconst 0, 1) := by decide +kernel
theorem dX11_drop_31 : decode cX11_drop 31 = .ok (.putfield 282, 3) := by decide +kernel
theorem dX11_drop_34 : decode cX11_drop 34 = .ok (.aload_n 0, 1) := by decide +kernel
theorem dX11_drop_35 : decode cX11_drop 35 = .ok (.getfield 49, 3) := by decide +kernel
theorem dX11_drop_38 : decode cX11_drop 38 = .ok (.iload_n 1, 1) := by decide +kernel
theorem dX11_drop_39 : decode cX11_drop 39 = .ok (.aaload, 1) := by decide +kernel
theorem dX11_drop_40 : decode cX11_drop 40 = .ok (.getfield 285, 3) := by decide +kernel
theorem dX11_drop_43 : decode cX11_drop 43 = .ok (.ireturn, 1) := by decide +kernel
theorem dX11_item_0 : decode cX11_item 0 = .ok (.iload_n 1, 1) := by decide +kernel
theorem dX11_item_1 : decode cX11_item 1 = .ok (.invokestatic 259, 3) := by decide +kernel
theorem dX11_item_4 : decode cX11_item 4 = .ok (.ifCond .eq 10, 3) := by decide +kernel
theorem dX11_item_7 : decode cX11_item 7 = .ok (.iload_n 2, 1) := by decide +kernel
theorem dX11_item_8 : decode cX11_item 8 = .ok (.invokestatic 262, 3) := by decide +kernel
theorem dX11_item_11 : decode cX11_item 11 = .ok (.ifCond .ne 5, 3) := by decide +kernel
theorem dX11_item_14 : decode cX11_item 14 = .ok (.iconst (-1), 1) := by decide +kernel
theorem dX11_item_15 : decode cX11_item 15 = .ok (.ireturn, 1) := by decide +kernel
theorem dX11_item_16 : decode cX11_item 16 = .ok (.aload_n 0, 1) := by decide +kernel
theorem dX11_item_17 : decode cX11_item 17 = .ok (.getfield 49, 3) := by decide +kernel
theorem dX11_item_20 : decode cX11_item 20 = .ok (.iload_n 1, 1) := by decide +kernel
theorem dX11_item_21 : decode cX11_item 21 = .ok (.aaload, 1) := by decide +kernel
theorem dX11_item_22 : decode cX11_item 22 = .ok (.iload_n 2, 1) := by decide +kernel
theorem dX11_item_23 : decode cX11_item 23 = .ok (.iload_n 3, 1) := by decide +kernel
theorem dX11_item_24 : decode cX11_item 24 = .ok (.iconst 1, 1) := by decide +kernel
theorem dX11_item_25 : decode cX11_item 25 = .ok (.invokevirtual 265, 3) := by decide +kernel
theorem dX11_item_28 : decode cX11_item 28 = .ok (.istore 6, 2) := by decide +kernel
theorem dX11_item_30 : decode cX11_item 30 = .ok (.iload 6, 2) := by decide +kernel
theorem dX11_item_32 : decode cX11_item 32 = .ok (.ifCond .eq 6, 3) := by decide +kernel
theorem dX11_item_35 : decode cX11_item 35 = .ok (.iload 6, 2) := by decide +kernel
theorem dX11_item_37 : decode cX11_item 37 = .ok (.ireturn, 1) := by decide +kernel
theorem dX11_item_38 : decode cX11_item 38 = .ok (.aload_n 0, 1) := by decide +kernel
theorem dX11_item_39 : decode cX11_item 39 = .ok (.getfield 49, 3) := by decide +kernel
theorem dX11_item_42 : decode cX11_item 42 = .ok (.iload_n 1, 1) := by decide +kernel
theorem dX11_item_43 : decode cX11_item 43 = .ok (.aaload, 1) := by decide +kernel
theorem dX11_item_44 : decode cX11_item 44 = .ok (.iload_n 3, 1) := by decide +kernel
theorem dX11_item_45 : decode cX11_item 45 = .ok (.lload 4, 2) := by decide +kernel
theorem dX11_item_47 : decode cX11_item 47 = .ok (.invokevirtual 275, 3) := by decide +kernel
theorem dX11_item_50 : decode cX11_item 50 = .ok (.iconst 1, 1) := by decide +kernel
theorem dX11_item_51 : decode cX11_item 51 = .ok (.ireturn, 1) := by decide +kernel
theorem dX11_copy_0 : decode cX11_copy 0 = .ok (.iload_n 1, 1) := by decide +kernel
theorem dX11_copy_1 : decode cX11_copy 1 = .ok (.invokestatic 259, 3) := by decide +kernel
theorem dX11_copy_4 : decode cX11_copy 4 = .ok (.ifCond .eq 10, 3) := by decide +kernel
theorem dX11_copy_7 : decode cX11_copy 7 = .ok (.iload_n 3, 1) := by decide +kernel
theorem dX11_copy_8 : decode cX11_copy 8 = .ok (.invokestatic 259, 3) := by decide +kernel
theorem dX11_copy_11 : decode cX11_copy 11 = .ok (.ifCond .ne 5, 3) := by decide +kernel
theorem dX11_copy_14 : decode cX11_copy 14 = .ok (.iconst (-1), 1) := by decide +kernel
theorem dX11_copy_15 : decode cX11_copy 15 = .ok (.ireturn, 1) := by decide +kernel
theorem dX11_copy_16 : decode cX11_copy 16 = .ok (.aload_n 0, 1) := by decide +kernel
theorem dX11_copy_17 : decode cX11_copy 17 = .ok (.getfield 49, 3) := by decide +kernel
theorem dX11_copy_20 : decode cX11_copy 20 = .ok (.iload_n 1, 1) := by decide +kernel
theorem dX11_copy_21 : decode cX11_copy 21 = .ok (.aaload, 1) := by decide +kernel
theorem dX11_copy_22 : decode cX11_copy 22 = .ok (.astore 6, 2) := by decide +kernel
theorem dX11_copy_24 : decode cX11_copy 24 = .ok (.aload_n 0, 1) := by decide +kernel
theorem dX11_copy_25 : decode cX11_copy 25 = .ok (.getfield 49, 3) := by decide +kernel
theorem dX11_copy_28 : decode cX11_copy 28 = .ok (.iload_n 3, 1) := by decide +kernel
theorem dX11_copy_29 : decode cX11_copy 29 = .ok (.aaload, 1) := by decide +kernel
theorem dX11_copy_30 : decode cX11_copy 30 = .ok (.astore 7, 2) := by decide +kernel
theorem dX11_copy_32 : decode cX11_copy 32 = .ok (.aload 6, 2) := by decide +kernel
theorem dX11_copy_34 : decode cX11_copy 34 = .ok (.getfield 282, 3) := by decide +kernel
theorem dX11_copy_37 : decode cX11_copy 37 = .ok (.ifCond .eq 11, 3) := by decide +kernel
theorem dX11_copy_40 : decode cX11_copy 40 = .ok (.aload 7, 2) := by decide +kernel
theorem dX11_copy_42 : decode cX11_copy 42 = .ok (.getfield 282, 3) := by decide +kernel
theorem dX11_copy_45 : decode cX11_copy 45 = .ok (.ifCond .ne 6, 3) := by decide +kernel
theorem dX11_copy_48 : decode cX11_copy 48 = .ok (.bipush (-11), 2) := by decide +kernel
theorem dX11_copy_50 : decode cX11_copy 50 = .ok (.ireturn, 1) := by decide +kernel
theorem dX11_copy_51 : decode cX11_copy 51 = .ok (.aload 6, 2) := by decide +kernel
theorem dX11_copy_53 : decode cX11_copy 53 = .ok (.getfield 286, 3) := by decide +kernel
theorem dX11_copy_56 : decode cX11_copy 56 = .ok (.aload 7, 2) := by decide +kernel
theorem dX11_copy_58 : decode cX11_copy 58 = .ok (.getfield 286, 3) := by decide +kernel
theorem dX11_copy_61 : decode cX11_copy 61 = .ok (.if_icmp .eq 6, 3) := by decide +kernel
theorem dX11_copy_64 : decode cX11_copy 64 = .ok (.bipush (-12), 2) := by decide +kernel
theorem dX11_copy_66 : decode cX11_copy 66 = .ok (.ireturn, 1) := by decide +kernel
theorem dX11_copy_67 : decode cX11_copy 67 = .ok (.aload 6, 2) := by decide +kernel
theorem dX11_copy_69 : decode cX11_copy 69 = .ok (.iload_n 2, 1) := by decide +kernel
theorem dX11_copy_70 : decode cX11_copy 70 = .ok (.iload 5, 2) := by decide +kernel
theorem dX11_copy_72 : decode cX11_copy 72 = .ok (.invokevirtual 289, 3) := by decide +kernel
theorem dX11_copy_75 : decode cX11_copy 75 = .ok (.ifCond .eq 15, 3) := by decide +kernel
theorem dX11_copy_78 : decode cX11_copy 78 = .ok (.aload 7, 2) := by decide +kernel
theorem dX11_copy_80 : decode cX11_copy 80 = .ok (.iload 4, 2) := by decide +kernel
theorem dX11_copy_82 : decode cX11_copy 82 = .ok (.iload 5, 2) := by decide +kernel
theorem dX11_copy_84 : decode cX11_copy 84 = .ok (.invokevirtual 289, 3) := by decide +kernel
theorem dX11_copy_87 : decode cX11_copy 87 = .ok (.ifCond .ne 6, 3) := by decide +kernel
theorem dX11_copy_90 : decode cX11_copy 90 = .ok (.bipush (-13), 2) := by decide +kernel
theorem dX11_copy_92 : decode cX11_copy 92 = .ok (.ireturn, 1) := by decide +kernel
theorem dX11_copy_93 : decode cX11_copy 93 = .ok (.aload 6, 2) := by decide +kernel
theorem dX11_copy_95 : decode cX11_copy 95 = .ok (.getfield 292, 3) := by decide +kernel
theorem dX11_copy_98 : decode cX11_copy 98 = .ok (.iload_n 2, 1) := by decide +kernel
theorem dX11_copy_99 : decode cX11_copy 99 = .ok (.aload 7, 2) := by decide +kernel
theorem dX11_copy_101 : decode cX11_copy 101 = .ok (.getfield 292, 3) := by decide +kernel
theorem dX11_copy_104 : decode cX11_copy 104 = .ok (.iload 4, 2) := by decide +kernel
theorem dX11_copy_106 : decode cX11_copy 106 = .ok (.iload 5, 2) := by decide +kernel
theorem dX11_copy_108 : decode cX11_copy 108 = .ok (.invokestatic 296, 3) := by decide +kernel
theorem dX11_copy_111 : decode cX11_copy 111 = .ok (.iload 5, 2) := by decide +kernel
theorem dX11_copy_113 : decode cX11_copy 113 = .ok (.ireturn, 1) := by decide +kernel
theorem dX11_spendNights_0 : decode cX11_spendNights 0 = .ok (.iload_n 1, 1) := by decide +kernel
theorem dX11_spendNights_1 : decode cX11_spendNights 1 = .ok (.iconst 1, 1) := by decide +kernel
theorem dX11_spendNights_2 : decode cX11_spendNights 2 = .ok (.bipush 40, 2) := by decide +kernel
theorem dX11_spendNights_4 : decode cX11_spendNights 4 = .ok (.invokestatic 57, 3) := by decide +kernel
theorem dX11_spendNights_7 : decode cX11_spendNights 7 = .ok (.ifCond .ne 5, 3) := by decide +kernel
theorem dX11_spendNights_10 : decode cX11_spendNights 10 = .ok (.iconst (-1), 1) := by decide +kernel
theorem dX11_spendNights_11 : decode cX11_spendNights 11 = .ok (.ireturn, 1) := by decide +kernel
theorem dX11_spendNights_12 : decode cX11_spendNights 12 = .ok (.aload_n 0, 1) := by decide +kernel
theorem dX11_spendNights_13 : decode cX11_spendNights 13 = .ok (.getfield 10, 3) := by decide +kernel
theorem dX11_spendNights_16 : decode cX11_spendNights 16 = .ok (.getfield 92, 3) := by decide +kernel
theorem dX11_spendNights_19 : decode cX11_spendNights 19 = .ok (.getfield 168, 3) := by decide +kernel
theorem dX11_spendNights_22 : decode cX11_spendNights 22 = .ok (.iload_n 1, 1) := by decide +kernel
theorem dX11_spendNights_23 : decode cX11_spendNights 23 = .ok (.iadd, 1) := by decide +kernel
theorem dX11_spendNights_24 : decode cX11_spendNights 24 = .ok (.sipush 9999, 3) := by decide +kernel
theorem dX11_spendNights_27 : decode cX11_spendNights 27 = .ok (.if_icmp .le 6, 3) := by decide +kernel
theorem dX11_spendNights_30 : decode cX11_spendNights 30 = .ok (.bipush (-3), 2) := by decide +kernel
theorem dX11_spendNights_32 : decode cX11_spendNights 32 = .ok (.ireturn, 1) := by decide +kernel
theorem dX11_spendNights_33 : decode cX11_spendNights 33 = .ok (.iconst 0, 1) := by decide +kernel
theorem dX11_spendNights_34 : decode cX11_spendNights 34 = .ok (.istore_n 3, 1) := by decide +kernel
theorem dX11_spendNights_35 : decode cX11_spendNights 35 = .ok (.iconst 0, 1) := by decide +kernel
theorem dX11_spendNights_36 : decode cX11_spendNights 36 = .ok (.istore 4, 2) := by decide +kernel
theorem dX11_spendNights_38 : decode cX11_spendNights 38 = .ok (.iload 4, 2) := by decide +kernel
theorem dX11_spendNights_40 : decode cX11_spendNights 40 = .ok (.iload_n 1, 1) := by decide +kernel
theorem dX11_spendNights_41 : decode cX11_spendNights 41 = .ok (.if_icmp .ge 44, 3) := by decide +kernel
theorem dX11_spendNights_44 : decode cX11_spendNights 44 = .ok (.aload_n 0, 1) := by decide +kernel
theorem dX11_spendNights_45 : decode cX11_spendNights 45 = .ok (.getfield 19, 3) := by decide +kernel
theorem dX11_spendNights_48 : decode cX11_spendNights 48 = .ok (.aload_n 0, 1) := by decide +kernel
theorem dX11_spendNights_49 : decode cX11_spendNights 49 = .ok (.getfield 10, 3) := by decide +kernel
theorem dX11_spendNights_52 : decode cX11_spendNights 52 = .ok (.getfield 92, 3) := by decide +kernel
theorem dX11_spendNights_55 : decode cX11_spendNights 55 = .ok (.invokevirtual 189, 3) := by decide +kernel
theorem dX11_spendNights_58 : decode cX11_spendNights 58 = .ok (.iload_n 2, 1) := by decide +kernel
theorem dX11_spendNights_59 : decode cX11_spendNights 59 = .ok (.ifCond .eq 10, 3) := by decide +kernel
theorem dX11_spendNights_62 : decode cX11_spendNights 62 = .ok (.aload_n 0, 1) := by decide +kernel
theorem dX11_spendNights_63 : decode cX11_spendNights 63 = .ok (.getfield 10, 3) := by decide +kernel
theorem dX11_spendNights_66 : decode cX11_spendNights 66 = .ok (.invokevirtual 302, 3) := by decide +kernel
theorem dX11_spendNights_69 : decode cX11_spendNights 69 = .ok (.iload_n 3, 1) := by decide +kernel
theorem dX11_spendNights_70 : decode cX11_spendNights 70 = .ok (.aload_n 0, 1) := by decide +kernel
theorem dX11_spendNights_71 : decode cX11_spendNights 71 = .ok (.getfield 10, 3) := by decide +kernel
theorem dX11_spendNights_74 : decode cX11_spendNights 74 = .ok (.invokevirtual 305, 3) := by decide +kernel
theorem dX11_spendNights_77 : decode cX11_spendNights 77 = .ok (.iadd, 1) := by decide +kernel
theorem dX11_spendNights_78 : decode cX11_spendNights 78 = .ok (.istore_n 3, 1) := by decide +kernel
theorem dX11_spendNights_79 : decode cX11_spendNights 79 = .ok (.iinc 4 1, 3) := by decide +kernel
theorem dX11_spendNights_82 : decode cX11_spendNights 82 = .ok (.goto (-44), 3) := by decide +kernel
theorem dX11_spendNights_85 : decode cX11_spendNights 85 = .ok (.iload_n 3, 1) := by decide +kernel
theorem dX11_spendNights_86 : decode cX11_spendNights 86 = .ok (.ireturn, 1) := by decide +kernel
theorem dX11_kindsHeard_0 : decode cX11_kindsHeard 0 = .ok (.iconst 0, 1) := by decide +kernel
theorem dX11_kindsHeard_1 : decode cX11_kindsHeard 1 = .ok (.istore 5, 2) := by decide +kernel
theorem dX11_kindsHeard_3 : decode cX11_kindsHeard 3 = .ok (.iconst 0, 1) := by decide +kernel
theorem dX11_kindsHeard_4 : decode cX11_kindsHeard 4 = .ok (.istore 6, 2) := by decide +kernel
theorem dX11_kindsHeard_6 : decode cX11_kindsHeard 6 = .ok (.iload 6, 2) := by decide +kernel
theorem dX11_kindsHeard_8 : decode cX11_kindsHeard 8 = .ok (.iconst 5, 1) := by decide +kernel
theorem dX11_kindsHeard_9 : decode cX11_kindsHeard 9 = .ok (.if_icmp .ge 52, 3) := by decide +kernel
theorem dX11_kindsHeard_12 : decode cX11_kindsHeard 12 = .ok (.aload_n 0, 1) := by decide +kernel
theorem dX11_kindsHeard_13 : decode cX11_kindsHeard 13 = .ok (.iload 6, 2) := by decide +kernel
theorem dX11_kindsHeard_15 : decode cX11_kindsHeard 15 = .ok (.aload_n 0, 1) := by decide +kernel
theorem dX11_kindsHeard_16 : decode cX11_kindsHeard 16 = .ok (.getfield 10, 3) := by decide +kernel
theorem dX11_kindsHeard_19 : decode cX11_kindsHeard 19 = .ok (.getfield 119, 3) := by decide +kernel
theorem dX11_kindsHeard_22 : decode cX11_kindsHeard 22 = .ok (.iload_n 1, 1) := by decide +kernel
theorem dX11_kindsHeard_23 : decode cX11_kindsHeard 23 = .ok (.iaload, 1) := by decide +kernel
theorem dX11_kindsHeard_24 : decode cX11_kindsHeard 24 = .ok (.aload_n 0, 1) := by decide +kernel
theorem dX11_kindsHeard_25 : decode cX11_kindsHeard 25 = .ok (.getfield 10, 3) := by decide +kernel
theorem dX11_kindsHeard_28 : decode cX11_kindsHeard 28 = .ok (.getfield 92, 3) := by decide +kernel
theorem dX11_kindsHeard_31 : decode cX11_kindsHeard 31 = .ok (.getfield 125, 3) := by decide +kernel
theorem dX11_kindsHeard_34 : decode cX11_kindsHeard 34 = .ok (.iload_n 1, 1) := by decide +kernel
theorem dX11_kindsHeard_35 : decode cX11_kindsHeard 35 = .ok (.iaload, 1) := by decide +kernel
theorem dX11_kindsHeard_36 : decode cX11_kindsHeard 36 = .ok (.aload_n 2, 1) := by decide +kernel
theorem dX11_kindsHeard_37 : decode cX11_kindsHeard 37 = .ok (.iload_n 3, 1) := by decide +kernel
theorem dX11_kindsHeard_38 : decode cX11_kindsHeard 38 = .ok (.iload 4, 2) := by decide +kernel
theorem dX11_kindsHeard_40 : decode cX11_kindsHeard 40 = .ok (.invokevirtual 308, 3) := by decide +kernel
theorem dX11_kindsHeard_43 : decode cX11_kindsHeard 43 = .ok (.ifCond .eq 12, 3) := by decide +kernel
theorem dX11_kindsHeard_46 : decode cX11_kindsHeard 46 = .ok (.iload 5, 2) := by decide +kernel
theorem dX11_kindsHeard_48 : decode cX11_kindsHeard 48 = .ok (.iconst 1, 1) := by decide +kernel
theorem dX11_kindsHeard_49 : decode cX11_kindsHeard 49 = .ok (.iload 6, 2) := by decide +kernel
theorem dX11_kindsHeard_51 : decode cX11_kindsHeard 51 = .ok (.ishl, 1) := by decide +kernel
theorem dX11_kindsHeard_52 : decode cX11_kindsHeard 52 = .ok (.ior, 1) := by decide +kernel
theorem dX11_kindsHeard_53 : decode cX11_kindsHeard 53 = .ok (.istore 5, 2) := by decide +kernel
theorem dX11_kindsHeard_55 : decode cX11_kindsHeard 55 = .ok (.iinc 6 1, 3) := by decide +kernel
theorem dX11_kindsHeard_58 : decode cX11_kindsHeard 58 = .ok (.goto (-52), 3) := by decide +kernel
theorem dX11_kindsHeard_61 : decode cX11_kindsHeard 61 = .ok (.iload 5, 2) := by decide +kernel
theorem dX11_kindsHeard_63 : decode cX11_kindsHeard 63 = .ok (.ireturn, 1) := by decide +kernel
theorem dX11_dearsHeard_0 : decode cX11_dearsHeard 0 = .ok (.iconst 0, 1) := by decide +kernel
theorem dX11_dearsHeard_1 : decode cX11_dearsHeard 1 = .ok (.istore 5, 2) := by decide +kernel
theorem dX11_dearsHeard_3 : decode cX11_dearsHeard 3 = .ok (.iconst 1, 1) := by decide +kernel
theorem dX11_dearsHeard_4 : decode cX11_dearsHeard 4 = .ok (.istore 6, 2) := by decide +kernel
theorem dX11_dearsHeard_6 : decode cX11_dearsHeard 6 = .ok (.iload 6, 2) := by decide +kernel
theorem dX11_dearsHeard_8 : decode cX11_dearsHeard 8 = .ok (.bipush 9, 2) := by decide +kernel
theorem dX11_dearsHeard_10 : decode cX11_dearsHeard 10 = .ok (.if_icmp .gt 52, 3) := by decide +kernel
theorem dX11_dearsHeard_13 : decode cX11_dearsHeard 13 = .ok (.aload_n 0, 1) := by decide +kernel
theorem dX11_dearsHeard_14 : decode cX11_dearsHeard 14 = .ok (.aload_n 0, 1) := by decide +kernel
theorem dX11_dearsHeard_15 : decode cX11_dearsHeard 15 = .ok (.getfield 10, 3) := by decide +kernel
theorem dX11_dearsHeard_18 : decode cX11_dearsHeard 18 = .ok (.getfield 113, 3) := by decide +kernel
theorem dX11_dearsHeard_21 : decode cX11_dearsHeard 21 = .ok (.iload_n 1, 1) := by decide +kernel
theorem dX11_dearsHeard_22 : decode cX11_dearsHeard 22 = .ok (.iaload, 1) := by decide +kernel
theorem dX11_dearsHeard_23 : decode cX11_dearsHeard 23 = .ok (.iload 6, 2) := by decide +kernel
theorem dX11_dearsHeard_25 : decode cX11_dearsHeard 25 = .ok (.aload_n 0, 1) := by decide +kernel
theorem dX11_dearsHeard_26 : decode cX11_dearsHeard 26 = .ok (.getfield 10, 3) := by decide +kernel
theorem dX11_dearsHeard_29 : decode cX11_dearsHeard 29 = .ok (.getfield 92, 3) := by decide +kernel
theorem dX11_dearsHeard_32 : decode cX11_dearsHeard 32 = .ok (.getfield 125, 3) := by decide +kernel
theorem dX11_dearsHeard_35 : decode cX11_dearsHeard 35 = .ok (.iload_n 1, 1) := by decide +kernel
theorem dX11_dearsHeard_36 : decode cX11_dearsHeard 36 = .ok (.iaload, 1) := by decide +kernel
theorem dX11_dearsHeard_37 : decode cX11_dearsHeard 37 = .ok (.aload_n 2, 1) := by decide +kernel
theorem dX11_dearsHeard_38 : decode cX11_dearsHeard 38 = .ok (.iload_n 3, 1) := by decide +kernel
theorem dX11_dearsHeard_39 : decode cX11_dearsHeard 39 = .ok (.iload 4, 2) := by decide +kernel
theorem dX11_dearsHeard_41 : decode cX11_dearsHeard 41 = .ok (.invokevirtual 308, 3) := by decide +kernel
theorem dX11_dearsHeard_44 : decode cX11_dearsHeard 44 = .ok (.ifCond .eq 12, 3) := by decide +kernel
theorem dX11_dearsHeard_47 : decode cX11_dearsHeard 47 = .ok (.iload 5, 2) := by decide +kernel
theorem dX11_dearsHeard_49 : decode cX11_dearsHeard 49 = .ok (.iconst 1, 1) := by decide +kernel
theorem dX11_dearsHeard_50 : decode cX11_dearsHeard 50 = .ok (.iload 6, 2) := by decide +kernel
theorem dX11_dearsHeard_52 : decode cX11_dearsHeard 52 = .ok (.ishl, 1) := by decide +kernel
theorem dX11_dearsHeard_53 : decode cX11_dearsHeard 53 = .ok (.ior, 1) := by decide +kernel
theorem dX11_dearsHeard_54 : decode cX11_dearsHeard 54 = .ok (.istore 5, 2) := by decide +kernel
theorem dX11_dearsHeard_56 : decode cX11_dearsHeard 56 = .ok (.iinc 6 1, 3) := by decide +kernel
theorem dX11_dearsHeard_59 : decode cX11_dearsHeard 59 = .ok (.goto (-53), 3) := by decide +kernel
theorem dX11_dearsHeard_62 : decode cX11_dearsHeard 62 = .ok (.iload 5, 2) := by decide +kernel
theorem dX11_dearsHeard_64 : decode cX11_dearsHeard 64 = .ok (.ireturn, 1) := by decide +kernel
theorem dX11_isHeardAs_0 : decode cX11_isHeardAs 0 = .ok (.iload_n 3, 1) := by decide +kernel
theorem dX11_isHeardAs_1 : decode cX11_isHeardAs 1 = .ok (.istore 7, 2) := by decide +kernel
theorem dX11_isHeardAs_3 : decode cX11_isHeardAs 3 = .ok (.iconst 0, 1) := by decide +kernel
theorem dX11_isHeardAs_4 : decode cX11_isHeardAs 4 = .ok (.istore 8, 2) := by decide +kernel
theorem dX11_isHeardAs_6 : decode cX11_isHeardAs 6 = .ok (.iload 8, 2) := by decide +kernel
theorem dX11_isHeardAs_8 : decode cX11_isHeardAs 8 = .ok (.iload 6, 2) := by decide +kernel
theorem dX11_isHeardAs_10 : decode cX11_isHeardAs 10 = .ok (.if_icmp .ge 44, 3) := by decide +kernel
theorem dX11_isHeardAs_13 : decode cX11_isHeardAs 13 = .ok (.aload_n 0, 1) := by decide +kernel
theorem dX11_isHeardAs_14 : decode cX11_isHeardAs 14 = .ok (.getfield 10, 3) := by decide +kernel
theorem dX11_isHeardAs_17 : decode cX11_isHeardAs 17 = .ok (.iload_n 1, 1) := by decide +kernel
theorem dX11_isHeardAs_18 : decode cX11_isHeardAs 18 = .ok (.iload_n 2, 1) := by decide +kernel
theorem dX11_isHeardAs_19 : decode cX11_isHeardAs 19 = .ok (.iload 7, 2) := by decide +kernel
theorem dX11_isHeardAs_21 : decode cX11_isHeardAs 21 = .ok (.iload 8, 2) := by decide +kernel
theorem dX11_isHeardAs_23 : decode cX11_isHeardAs 23 = .ok (.invokevirtual 199, 3) := by decide +kernel
theorem dX11_isHeardAs_26 : decode cX11_isHeardAs 26 = .ok (.istore 7, 2) := by decide +kernel
theorem dX11_isHeardAs_28 : decode cX11_isHeardAs 28 = .ok (.aload 4, 2) := by decide +kernel
theorem dX11_isHeardAs_30 : decode cX11_isHeardAs 30 = .ok (.getfield 292, 3) := by decide +kernel
theorem dX11_isHeardAs_33 : decode cX11_isHeardAs 33 = .ok (.iload 5, 2) := by decide +kernel
theorem dX11_isHeardAs_35 : decode cX11_isHeardAs 35 = .ok (.iload 8, 2) := by decide +kernel
theorem dX11_isHeardAs_37 : decode cX11_isHeardAs 37 = .ok (.iadd, 1) := by decide +kernel
theorem dX11_isHeardAs_38 : decode cX11_isHeardAs 38 = .ok (.laload, 1) := by decide +kernel
theorem dX11_isHeardAs_39 : decode cX11_isHeardAs 39 = .ok (.iload 7, 2) := by decide +kernel
theorem dX11_isHeardAs_41 : decode cX11_isHeardAs 41 = .ok (.i2l, 1) := by decide +kernel
theorem dX11_isHeardAs_42 : decode cX11_isHeardAs 42 = .ok (.lcmp, 1) := by decide +kernel
theorem dX11_isHeardAs_43 : decode cX11_isHeardAs 43 = .ok (.ifCond .eq 5, 3) := by decide +kernel
theorem dX11_isHeardAs_46 : decode cX11_isHeardAs 46 = .ok (.iconst 0, 1) := by decide +kernel
theorem dX11_isHeardAs_47 : decode cX11_isHeardAs 47 = .ok (.ireturn, 1) := by decide +kernel
theorem dX11_isHeardAs_48 : decode cX11_isHeardAs 48 = .ok (.iinc 8 1, 3) := by decide +kernel
theorem dX11_isHeardAs_51 : decode cX11_isHeardAs 51 = .ok (.goto (-45), 3) := by decide +kernel
theorem dX11_isHeardAs_54 : decode cX11_isHeardAs 54 = .ok (.iconst 1, 1) := by decide +kernel
theorem dX11_isHeardAs_55 : decode cX11_isHeardAs 55 = .ok (.ireturn, 1) := by decide +kernel
theorem dX11_ways_0 : decode cX11_ways 0 = .ok (.iconst 1, 1) := by decide +kernel
theorem dX11_ways_1 : decode cX11_ways 1 = .ok (.istore 4, 2) := by decide +kernel
theorem dX11_ways_3 : decode cX11_ways 3 = .ok (.iconst 0, 1) := by decide +kernel
theorem dX11_ways_4 : decode cX11_ways 4 = .ok (.istore 5, 2) := by decide +kernel
theorem dX11_ways_6 : decode cX11_ways 6 = .ok (.iload 5, 2) := by decide +kernel
theorem dX11_ways_8 : decode cX11_ways 8 = .ok (.bipush 8, 2) := by decide +kernel
theorem dX11_ways_10 : decode cX11_ways 10 = .ok (.if_icmp .ge 40, 3) := by decide +kernel
theorem dX11_ways_13 : decode cX11_ways 13 = .ok (.iload_n 1, 1) := by decide +kernel
theorem dX11_ways_14 : decode cX11_ways 14 = .ok (.iload 5, 2) := by decide +kernel
theorem dX11_ways_16 : decode cX11_ways 16 = .ok (.invokestatic 236, 3) := by decide +kernel
theorem dX11_ways_19 : decode cX11_ways 19 = .ok (.ifCond .eq 25, 3) := by decide +kernel
theorem dX11_ways_22 : decode cX11_ways 22 = .ok (.iload 4, 2) := by decide +kernel
theorem dX11_ways_24 : decode cX11_ways 24 = .ok (.iload_n 2, 1) := by decide +kernel
theorem dX11_ways_25 : decode cX11_ways 25 = .ok (.iload 5, 2) := by decide +kernel
theorem dX11_ways_27 : decode cX11_ways 27 = .ok (.invokestatic 236, 3) := by decide +kernel
theorem dX11_ways_30 : decode cX11_ways 30 = .ok (.ifCond .eq 7, 3) := by decide +kernel
theorem dX11_ways_33 : decode cX11_ways 33 = .ok (.iload_n 3, 1) := by decide +kernel
theorem dX11_ways_34 : decode cX11_ways 34 = .ok (.goto 7, 3) := by decide +kernel
theorem dX11_ways_37 : decode cX11_ways 37 = .ok (.bipush 10, 2) := by decide +kernel
theorem dX11_ways_39 : decode cX11_ways 39 = .ok (.iload_n 3, 1) := by decide +kernel
theorem dX11_ways_40 : decode cX11_ways 40 = .ok (.isub, 1) := by decide +kernel
theorem dX11_ways_41 : decode cX11_ways 41 = .ok (.imul, 1) := by decide +kernel
theorem dX11_ways_42 : decode cX11_ways 42 = .ok (.istore 4, 2) := by decide +kernel
theorem dX11_ways_44 : decode cX11_ways 44 = .ok (.iinc 5 1, 3) := by decide +kernel
theorem dX11_ways_47 : decode cX11_ways 47 = .ok (.goto (-41), 3) := by decide +kernel
theorem dX11_ways_50 : decode cX11_ways 50 = .ok (.iload 4, 2) := by decide +kernel
theorem dX11_ways_52 : decode cX11_ways 52 = .ok (.ireturn, 1) := by decide +kernel
theorem dX11_greatestCommon_0 : decode cX11_greatestCommon 0 = .ok (.iload_n 1, 1) := by decide +kernel
theorem dX11_greatestCommon_1 : decode cX11_greatestCommon 1 = .ok (.istore_n 2, 1) := by decide +kernel
theorem dX11_greatestCommon_2 : decode cX11_greatestCommon 2 = .ok (.iload_n 0, 1) := by decide +kernel
theorem dX11_greatestCommon_3 : decode cX11_greatestCommon 3 = .ok (.istore_n 3, 1) := by decide +kernel
theorem dX11_greatestCommon_4 : decode cX11_greatestCommon 4 = .ok (.iconst 0, 1) := by decide +kernel
theorem dX11_greatestCommon_5 : decode cX11_greatestCommon 5 = .ok (.istore 4, 2) := by decide +kernel
theorem dX11_greatestCommon_7 : decode cX11_greatestCommon 7 = .ok (.iload 4, 2) := by decide +kernel
theorem dX11_greatestCommon_9 : decode cX11_greatestCommon 9 = .ok (.bipush 100, 2) := by decide +kernel
theorem dX11_greatestCommon_11 : decode cX11_greatestCommon 11 = .ok (.if_icmp .ge 23, 3) := by decide +kernel
theorem dX11_greatestCommon_14 : decode cX11_greatestCommon 14 = .ok (.iload_n 3, 1) := by decide +kernel
theorem dX11_greatestCommon_15 : decode cX11_greatestCommon 15 = .ok (.ifCond .eq 19, 3) := by decide +kernel
theorem dX11_greatestCommon_18 : decode cX11_greatestCommon 18 = .ok (.iload_n 2, 1) := by decide +kernel
theorem dX11_greatestCommon_19 : decode cX11_greatestCommon 19 = .ok (.iload_n 3, 1) := by decide +kernel
theorem dX11_greatestCommon_20 : decode cX11_greatestCommon 20 = .ok (.irem, 1) := by decide +kernel
theorem dX11_greatestCommon_21 : decode cX11_greatestCommon 21 = .ok (.istore 5, 2) := by decide +kernel
theorem dX11_greatestCommon_23 : decode cX11_greatestCommon 23 = .ok (.iload_n 3, 1) := by decide +kernel
theorem dX11_greatestCommon_24 : decode cX11_greatestCommon 24 = .ok (.istore_n 2, 1) := by decide +kernel
theorem dX11_greatestCommon_25 : decode cX11_greatestCommon 25 = .ok (.iload 5, 2) := by decide +kernel
theorem dX11_greatestCommon_27 : decode cX11_greatestCommon 27 = .ok (.istore_n 3, 1) := by decide +kernel
theorem dX11_greatestCommon_28 : decode cX11_greatestCommon 28 = .ok (.iinc 4 1, 3) := by decide +kernel
theorem dX11_greatestCommon_31 : decode cX11_greatestCommon 31 = .ok (.goto (-24), 3) := by decide +kernel
theorem dX11_greatestCommon_34 : decode cX11_greatestCommon 34 = .ok (.iload_n 2, 1) := by decide +kernel
theorem dX11_greatestCommon_35 : decode cX11_greatestCommon 35 = .ok (.ifCond .ne 7, 3) := by decide +kernel
theorem dX11_greatestCommon_38 : decode cX11_greatestCommon 38 = .ok (.iconst 1, 1) := by decide +kernel
theorem dX11_greatestCommon_39 : decode cX11_greatestCommon 39 = .ok (.goto 4, 3) := by decide +kernel
theorem dX11_greatestCommon_42 : decode cX11_greatestCommon 42 = .ok (.iload_n 2, 1) := by decide +kernel
theorem dX11_greatestCommon_43 : decode cX11_greatestCommon 43 = .ok (.ireturn, 1) := by decide +kernel
theorem dX11_within_0 : decode cX11_within 0 = .ok (.iload_n 0, 1) := by decide +kernel
theorem dX11_within_1 : decode cX11_within 1 = .ok (.iload_n 1, 1) := by decide +kernel
theorem dX11_within_2 : decode cX11_within 2 = .ok (.if_icmp .lt 12, 3) := by decide +kernel
theorem dX11_within_5 : decode cX11_within 5 = .ok (.iload_n 0, 1) := by decide +kernel
theorem dX11_within_6 : decode cX11_within 6 = .ok (.iload_n 2, 1) := by decide +kernel
theorem dX11_within_7 : decode cX11_within 7 = .ok (.if_icmp .gt 7, 3) := by decide +kernel
theorem dX11_within_10 : decode cX11_within 10 = .ok (.iconst 1, 1) := by decide +kernel
theorem dX11_within_11 : decode cX11_within 11 = .ok (.goto 4, 3) := by decide +kernel
theorem dX11_within_14 : decode cX11_within 14 = .ok (.iconst 0, 1) := by decide +kernel
theorem dX11_within_15 : decode cX11_within 15 = .ok (.ireturn, 1) := by decide +kernel
theorem dX11_isRoom_0 : decode cX11_isRoom 0 = .ok (.iload_n 0, 1) := by decide +kernel
theorem dX11_isRoom_1 : decode cX11_isRoom 1 = .ok (.iconst 0, 1) := by decide +kernel
theorem dX11_isRoom_2 : decode cX11_isRoom 2 = .ok (.iconst 3, 1) := by decide +kernel
theorem dX11_isRoom_3 : decode cX11_isRoom 3 = .ok (.invokestatic 57, 3) := by decide +kernel
theorem dX11_isRoom_6 : decode cX11_isRoom 6 = .ok (.ireturn, 1) := by decide +kernel
theorem dX11_isGiver_0 : decode cX11_isGiver 0 = .ok (.iload_n 0, 1) := by decide +kernel
theorem dX11_isGiver_1 : decode cX11_isGiver 1 = .ok (.iconst 0, 1) := by decide +kernel
theorem dX11_isGiver_2 : decode cX11_isGiver 2 = .ok (.bipush 9, 2) := by decide +kernel
theorem dX11_isGiver_4 : decode cX11_isGiver 4 = .ok (.invokestatic 57, 3) := by decide +kernel
theorem dX11_isGiver_7 : decode cX11_isGiver 7 = .ok (.ireturn, 1) := by decide +kernel
theorem dX11_isSheet_0 : decode cX11_isSheet 0 = .ok (.iload_n 0, 1) := by decide +kernel
theorem dX11_isSheet_1 : decode cX11_isSheet 1 = .ok (.iconst 0, 1) := by decide +kernel
theorem dX11_isSheet_2 : decode cX11_isSheet 2 = .ok (.iconst 3, 1) := by decide +kernel
theorem dX11_isSheet_3 : decode cX11_isSheet 3 = .ok (.invokestatic 57, 3) := by decide +kernel
theorem dX11_isSheet_6 : decode cX11_isSheet 6 = .ok (.ireturn, 1) := by decide +kernel
theorem dX11_isLane_0 : decode cX11_isLane 0 = .ok (.iload_n 0, 1) := by decide +kernel
theorem dX11_isLane_1 : decode cX11_isLane 1 = .ok (.iconst 0, 1) := by decide +kernel
theorem dX11_isLane_2 : decode cX11_isLane 2 = .ok (.iconst 3, 1) := by decide +kernel
theorem dX11_isLane_3 : decode cX11_isLane 3 = .ok (.invokestatic 57, 3) := by decide +kernel
theorem dX11_isLane_6 : decode cX11_isLane 6 = .ok (.ireturn, 1) := by decide +kernel
theorem dX11_isIn_0 : decode cX11_isIn 0 = .ok (.iload_n 0, 1) := by decide +kernel
theorem dX11_isIn_1 : decode cX11_isIn 1 = .ok (.iload_n 1, 1) := by decide +kernel
theorem dX11_isIn_2 : decode cX11_isIn 2 = .ok (.ishr, 1) := by decide +kernel
theorem dX11_isIn_3 : decode cX11_isIn 3 = .ok (.iconst 1, 1) := by decide +kernel
theorem dX11_isIn_4 : decode cX11_isIn 4 = .ok (.iand, 1) := by decide +kernel
theorem dX11_isIn_5 : decode cX11_isIn 5 = .ok (.iconst 1, 1) := by decide +kernel
theorem dX11_isIn_6 : decode cX11_isIn 6 = .ok (.if_icmp .ne 7, 3) := by decide +kernel
theorem dX11_isIn_9 : decode cX11_isIn 9 = .ok (.iconst 1, 1) := by decide +kernel
theorem dX11_isIn_10 : decode cX11_isIn 10 = .ok (.goto 4, 3) := by decide +kernel
theorem dX11_isIn_13 : decode cX11_isIn 13 = .ok (.iconst 0, 1) := by decide +kernel
theorem dX11_isIn_14 : decode cX11_isIn 14 = .ok (.ireturn, 1) := by decide +kernel
theorem dX11_leftAtFirst_0 : decode cX11_leftAtFirst 0 = .ok (.bipush 10, 2) := by decide +kernel
theorem dX11_leftAtFirst_2 : decode cX11_leftAtFirst 2 = .ok (.iload_n 0, 1) := by decide +kernel
theorem dX11_leftAtFirst_3 : decode cX11_leftAtFirst 3 = .ok (.imul, 1) := by decide +kernel
theorem dX11_leftAtFirst_4 : decode cX11_leftAtFirst 4 = .ok (.bipush 99, 2) := by decide +kernel
theorem dX11_leftAtFirst_6 : decode cX11_leftAtFirst 6 = .ok (.invokestatic 312, 3) := by decide +kernel
theorem dX11_leftAtFirst_9 : decode cX11_leftAtFirst 9 = .ok (.ireturn, 1) := by decide +kernel
theorem dX11_sum_0 : decode cX11_sum 0 = .ok (.iconst 0, 1) := by decide +kernel
theorem dX11_sum_1 : decode cX11_sum 1 = .ok (.istore_n 2, 1) := by decide +kernel
theorem dX11_sum_2 : decode cX11_sum 2 = .ok (.iconst 0, 1) := by decide +kernel
theorem dX11_sum_3 : decode cX11_sum 3 = .ok (.istore_n 3, 1) := by decide +kernel
theorem dX11_sum_4 : decode cX11_sum 4 = .ok (.iload_n 3, 1) := by decide +kernel
theorem dX11_sum_5 : decode cX11_sum 5 = .ok (.iload_n 1, 1) := by decide +kernel
theorem dX11_sum_6 : decode cX11_sum 6 = .ok (.if_icmp .ge 21, 3) := by decide +kernel
theorem dX11_sum_9 : decode cX11_sum 9 = .ok (.iload_n 3, 1) := by decide +kernel
theorem dX11_sum_10 : decode cX11_sum 10 = .ok (.aload_n 0, 1) := by decide +kernel
theorem dX11_sum_11 : decode cX11_sum 11 = .ok (.arraylength, 1) := by decide +kernel
theorem dX11_sum_12 : decode cX11_sum 12 = .ok (.if_icmp .ge 15, 3) := by decide +kernel
theorem dX11_sum_15 : decode cX11_sum 15 = .ok (.iload_n 2, 1) := by decide +kernel
theorem dX11_sum_16 : decode cX11_sum 16 = .ok (.aload_n 0, 1) := by decide +kernel
theorem dX11_sum_17 : decode cX11_sum 17 = .ok (.iload_n 3, 1) := by decide +kernel
theorem dX11_sum_18 : decode cX11_sum 18 = .ok (.iaload, 1) := by decide +kernel
theorem dX11_sum_19 : decode cX11_sum 19 = .ok (.iadd, 1) := by decide +kernel
theorem dX11_sum_20 : decode cX11_sum 20 = .ok (.istore_n 2, 1) := by decide +kernel
theorem dX11_sum_21 : decode cX11_sum 21 = .ok (.iinc 3 1, 3) := by decide +kernel
theorem dX11_sum_24 : decode cX11_sum 24 = .ok (.goto (-20), 3) := by decide +kernel
theorem dX11_sum_27 : decode cX11_sum 27 = .ok (.iload_n 2, 1) := by decide +kernel
theorem dX11_sum_28 : decode cX11_sum 28 = .ok (.ireturn, 1) := by decide +kernel
