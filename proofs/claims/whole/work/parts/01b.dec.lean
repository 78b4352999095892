theorem dX0_init_0 : decode cX0_init 0 = .ok (.aload_n 0, 1) := by decide +kernel
theorem dX0_init_1 : decode cX0_init 1 = .ok (.invokespecial 3, 3) := by decide +kernel
theorem dX0_init_4 : decode cX0_init 4 = .ok (.aload_n 0, 1) := by decide +kernel
theorem dX0_init_5 : decode cX0_init 5 = .ok (.bipush 12, 2) := by decide +kernel
theorem dX0_init_7 : decode cX0_init 7 = .ok (.anewarray 9, 3) := by decide +kernel
theorem dX0_init_10 : decode cX0_init 10 = .ok (.putfield 11, 3) := by decide +kernel
theorem dX0_init_13 : decode cX0_init 13 = .ok (.aload_n 0, 1) := by decide +kernel
theorem dX0_init_14 : decode cX0_init 14 = .ok (.iconst 5, 1) := by decide +kernel
theorem dX0_init_15 : decode cX0_init 15 = .ok (.anewarray 17, 3) := by decide +kernel
theorem dX0_init_18 : decode cX0_init 18 = .ok (.putfield 19, 3) := by decide +kernel
theorem dX0_init_21 : decode cX0_init 21 = .ok (.aload_n 0, 1) := by decide +kernel
theorem dX0_init_22 : decode cX0_init 22 = .ok (.new 23, 3) := by decide +kernel
theorem dX0_init_25 : decode cX0_init 25 = .ok (.dup, 1) := by decide +kernel
theorem dX0_init_26 : decode cX0_init 26 = .ok (.invokespecial 25, 3) := by decide +kernel
theorem dX0_init_29 : decode cX0_init 29 = .ok (.putfield 26, 3) := by decide +kernel
theorem dX0_init_32 : decode cX0_init 32 = .ok (.aload_n 0, 1) := by decide +kernel
theorem dX0_init_33 : decode cX0_init 33 = .ok (.new 30, 3) := by decide +kernel
theorem dX0_init_36 : decode cX0_init 36 = .ok (.dup, 1) := by decide +kernel
theorem dX0_init_37 : decode cX0_init 37 = .ok (.invokespecial 32, 3) := by decide +kernel
theorem dX0_init_40 : decode cX0_init 40 = .ok (.putfield 33, 3) := by decide +kernel
theorem dX0_init_43 : decode cX0_init 43 = .ok (.aload_n 0, 1) := by decide +kernel
theorem dX0_init_44 : decode cX0_init 44 = .ok (.iconst 3, 1) := by decide +kernel
theorem dX0_init_45 : decode cX0_init 45 = .ok (.newarray .int, 2) := by decide +kernel
theorem dX0_init_47 : decode cX0_init 47 = .ok (.dup, 1) := by decide +kernel
theorem dX0_init_48 : decode cX0_init 48 = .ok (.iconst 0, 1) := by decide +kernel
theorem dX0_init_49 : decode cX0_init 49 = .ok (.bipush 20, 2) := by decide +kernel
theorem dX0_init_51 : decode cX0_init 51 = .ok (.iastore, 1) := by decide +kernel
theorem dX0_init_52 : decode cX0_init 52 = .ok (.dup, 1) := by decide +kernel
theorem dX0_init_53 : decode cX0_init 53 = .ok (.iconst 1, 1) := by decide +kernel
theorem dX0_init_54 : decode cX0_init 54 = .ok (.iconst 5, 1) := by decide +kernel
theorem dX0_init_55 : decode cX0_init 55 = .ok (.iastore, 1) := by decide +kernel
theorem dX0_init_56 : decode cX0_init 56 = .ok (.dup, 1) := by decide +kernel
theorem dX0_init_57 : decode cX0_init 57 = .ok (.iconst 2, 1) := by decide +kernel
theorem dX0_init_58 : decode cX0_init 58 = .ok (.bipush 10, 2) := by decide +kernel
theorem dX0_init_60 : decode cX0_init 60 = .ok (.iastore, 1) := by decide +kernel
theorem dX0_init_61 : decode cX0_init 61 = .ok (.putfield 37, 3) := by decide +kernel
theorem dX0_init_64 : decode cX0_init 64 = .ok (.aload_n 0, 1) := by decide +kernel
theorem dX0_init_65 : decode cX0_init 65 = .ok (.iconst 0, 1) := by decide +kernel
theorem dX0_init_66 : decode cX0_init 66 = .ok (.putfield 41, 3) := by decide +kernel
theorem dX0_init_69 : decode cX0_init 69 = .ok (.aload_n 0, 1) := by decide +kernel
theorem dX0_init_70 : decode cX0_init 70 = .ok (.iconst 0, 1) := by decide +kernel
theorem dX0_init_71 : decode cX0_init 71 = .ok (.putfield 45, 3) := by decide +kernel
theorem dX0_init_74 : decode cX0_init 74 = .ok (.aload_n 0, 1) := by decide +kernel
theorem dX0_init_75 : decode cX0_init 75 = .ok (.iconst 0, 1) := by decide +kernel
theorem dX0_init_76 : decode cX0_init 76 = .ok (.putfield 48, 3) := by decide +kernel
theorem dX0_init_79 : decode cX0_init 79 = .ok (.aload_n 0, 1) := by decide +kernel
theorem dX0_init_80 : decode cX0_init 80 = .ok (.iconst (-1), 1) := by decide +kernel
theorem dX0_init_81 : decode cX0_init 81 = .ok (.putfield 51, 3) := by decide +kernel
theorem dX0_init_84 : decode cX0_init 84 = .ok (.aload_n 0, 1) := by decide +kernel
theorem dX0_init_85 : decode cX0_init 85 = .ok (.iconst 0, 1) := by decide +kernel
theorem dX0_init_86 : decode cX0_init 86 = .ok (.putfield 54, 3) := by decide +kernel
theorem dX0_init_89 : decode cX0_init 89 = .ok (.aload_n 0, 1) := by decide +kernel
theorem dX0_init_90 : decode cX0_init 90 = .ok (.iconst 0, 1) := by decide +kernel
theorem dX0_init_91 : decode cX0_init 91 = .ok (.putfield 58, 3) := by decide +kernel
theorem dX0_init_94 : decode cX0_init 94 = .ok (.iconst 0, 1) := by decide +kernel
theorem dX0_init_95 : decode cX0_init 95 = .ok (.istore_n 1, 1) := by decide +kernel
theorem dX0_init_96 : decode cX0_init 96 = .ok (.iload_n 1, 1) := by decide +kernel
theorem dX0_init_97 : decode cX0_init 97 = .ok (.bipush 12, 2) := by decide +kernel
theorem dX0_init_99 : decode cX0_init 99 = .ok (.if_icmp .ge 22, 3) := by decide +kernel
theorem dX0_init_102 : decode cX0_init 102 = .ok (.aload_n 0, 1) := by decide +kernel
theorem dX0_init_103 : decode cX0_init 103 = .ok (.getfield 11, 3) := by decide +kernel
theorem dX0_init_106 : decode cX0_init 106 = .ok (.iload_n 1, 1) := by decide +kernel
theorem dX0_init_107 : decode cX0_init 107 = .ok (.new 9, 3) := by decide +kernel
theorem dX0_init_110 : decode cX0_init 110 = .ok (.dup, 1) := by decide +kernel
theorem dX0_init_111 : decode cX0_init 111 = .ok (.invokespecial 61, 3) := by decide +kernel
theorem dX0_init_114 : decode cX0_init 114 = .ok (.aastore, 1) := by decide +kernel
theorem dX0_init_115 : decode cX0_init 115 = .ok (.iinc 1 1, 3) := by decide +kernel
theorem dX0_init_118 : decode cX0_init 118 = .ok (.goto (-22), 3) := by decide +kernel
theorem dX0_init_121 : decode cX0_init 121 = .ok (.iconst 0, 1) := by decide +kernel
theorem dX0_init_122 : decode cX0_init 122 = .ok (.istore_n 1, 1) := by decide +kernel
theorem dX0_init_123 : decode cX0_init 123 = .ok (.iload_n 1, 1) := by decide +kernel
theorem dX0_init_124 : decode cX0_init 124 = .ok (.iconst 5, 1) := by decide +kernel
theorem dX0_init_125 : decode cX0_init 125 = .ok (.if_icmp .ge 22, 3) := by decide +kernel
theorem dX0_init_128 : decode cX0_init 128 = .ok (.aload_n 0, 1) := by decide +kernel
theorem dX0_init_129 : decode cX0_init 129 = .ok (.getfield 19, 3) := by decide +kernel
theorem dX0_init_132 : decode cX0_init 132 = .ok (.iload_n 1, 1) := by decide +kernel
theorem dX0_init_133 : decode cX0_init 133 = .ok (.new 17, 3) := by decide +kernel
theorem dX0_init_136 : decode cX0_init 136 = .ok (.dup, 1) := by decide +kernel
theorem dX0_init_137 : decode cX0_init 137 = .ok (.invokespecial 62, 3) := by decide +kernel
theorem dX0_init_140 : decode cX0_init 140 = .ok (.aastore, 1) := by decide +kernel
theorem dX0_init_141 : decode cX0_init 141 = .ok (.iinc 1 1, 3) := by decide +kernel
theorem dX0_init_144 : decode cX0_init 144 = .ok (.goto (-21), 3) := by decide +kernel
theorem dX0_init_147 : decode cX0_init 147 = .ok (.return_, 1) := by decide +kernel
theorem dX0_queueUp_0 : decode cX0_queueUp 0 = .ok (.iload_n 2, 1) := by decide +kernel
theorem dX0_queueUp_1 : decode cX0_queueUp 1 = .ok (.aload_n 0, 1) := by decide +kernel
theorem dX0_queueUp_2 : decode cX0_queueUp 2 = .ok (.getfield 51, 3) := by decide +kernel
theorem dX0_queueUp_5 : decode cX0_queueUp 5 = .ok (.if_icmp .eq 36, 3) := by decide +kernel
theorem dX0_queueUp_8 : decode cX0_queueUp 8 = .ok (.aload_n 0, 1) := by decide +kernel
theorem dX0_queueUp_9 : decode cX0_queueUp 9 = .ok (.iload_n 2, 1) := by decide +kernel
theorem dX0_queueUp_10 : decode cX0_queueUp 10 = .ok (.invokevirtual 63, 3) := by decide +kernel
theorem dX0_queueUp_13 : decode cX0_queueUp 13 = .ok (.ifCond .ne 28, 3) := by decide +kernel
theorem dX0_queueUp_16 : decode cX0_queueUp 16 = .ok (.aload_n 0, 1) := by decide +kernel
theorem dX0_queueUp_17 : decode cX0_queueUp 17 = .ok (.getfield 19, 3) := by decide +kernel
theorem dX0_queueUp_20 : decode cX0_queueUp 20 = .ok (.iload_n 2, 1) := by decide +kernel
theorem dX0_queueUp_21 : decode cX0_queueUp 21 = .ok (.aaload, 1) := by decide +kernel
theorem dX0_queueUp_22 : decode cX0_queueUp 22 = .ok (.aload_n 0, 1) := by decide +kernel
theorem dX0_queueUp_23 : decode cX0_queueUp 23 = .ok (.getfield 19, 3) := by decide +kernel
theorem dX0_queueUp_26 : decode cX0_queueUp 26 = .ok (.iload_n 2, 1) := by decide +kernel
theorem dX0_queueUp_27 : decode cX0_queueUp 27 = .ok (.aaload, 1) := by decide +kernel
theorem dX0_queueUp_28 : decode cX0_queueUp 28 = .ok (.getfield 67, 3) := by decide +kernel
theorem dX0_queueUp_31 : decode cX0_queueUp 31 = .ok (.aload_n 0, 1) := by decide +kernel
theorem dX0_queueUp_32 : decode cX0_queueUp 32 = .ok (.getfield 45, 3) := by decide +kernel
theorem dX0_queueUp_35 : decode cX0_queueUp 35 = .ok (.invokestatic 70, 3) := by decide +kernel
theorem dX0_queueUp_38 : decode cX0_queueUp 38 = .ok (.putfield 67, 3) := by decide +kernel
theorem dX0_queueUp_41 : decode cX0_queueUp 41 = .ok (.aload_n 0, 1) := by decide +kernel
theorem dX0_queueUp_42 : decode cX0_queueUp 42 = .ok (.getfield 11, 3) := by decide +kernel
theorem dX0_queueUp_45 : decode cX0_queueUp 45 = .ok (.iload_n 1, 1) := by decide +kernel
theorem dX0_queueUp_46 : decode cX0_queueUp 46 = .ok (.aaload, 1) := by decide +kernel
theorem dX0_queueUp_47 : decode cX0_queueUp 47 = .ok (.iconst 1, 1) := by decide +kernel
theorem dX0_queueUp_48 : decode cX0_queueUp 48 = .ok (.iload_n 2, 1) := by decide +kernel
theorem dX0_queueUp_49 : decode cX0_queueUp 49 = .ok (.aload_n 0, 1) := by decide +kernel
theorem dX0_queueUp_50 : decode cX0_queueUp 50 = .ok (.getfield 41, 3) := by decide +kernel
theorem dX0_queueUp_53 : decode cX0_queueUp 53 = .ok (.iload_n 3, 1) := by decide +kernel
theorem dX0_queueUp_54 : decode cX0_queueUp 54 = .ok (.invokevirtual 76, 3) := by decide +kernel
theorem dX0_queueUp_57 : decode cX0_queueUp 57 = .ok (.aload_n 0, 1) := by decide +kernel
theorem dX0_queueUp_58 : decode cX0_queueUp 58 = .ok (.getfield 26, 3) := by decide +kernel
theorem dX0_queueUp_61 : decode cX0_queueUp 61 = .ok (.iload_n 1, 1) := by decide +kernel
theorem dX0_queueUp_62 : decode cX0_queueUp 62 = .ok (.invokevirtual 80, 3) := by decide +kernel
theorem dX0_queueUp_65 : decode cX0_queueUp 65 = .ok (.return_, 1) := by decide +kernel
theorem dX0_giveUp_0 : decode cX0_giveUp 0 = .ok (.aload_n 0, 1) := by decide +kernel
theorem dX0_giveUp_1 : decode cX0_giveUp 1 = .ok (.getfield 26, 3) := by decide +kernel
theorem dX0_giveUp_4 : decode cX0_giveUp 4 = .ok (.iload_n 1, 1) := by decide +kernel
theorem dX0_giveUp_5 : decode cX0_giveUp 5 = .ok (.invokevirtual 84, 3) := by decide +kernel
theorem dX0_giveUp_8 : decode cX0_giveUp 8 = .ok (.aload_n 0, 1) := by decide +kernel
theorem dX0_giveUp_9 : decode cX0_giveUp 9 = .ok (.getfield 11, 3) := by decide +kernel
theorem dX0_giveUp_12 : decode cX0_giveUp 12 = .ok (.iload_n 1, 1) := by decide +kernel
theorem dX0_giveUp_13 : decode cX0_giveUp 13 = .ok (.aaload, 1) := by decide +kernel
theorem dX0_giveUp_14 : decode cX0_giveUp 14 = .ok (.iconst 0, 1) := by decide +kernel
theorem dX0_giveUp_15 : decode cX0_giveUp 15 = .ok (.iconst (-1), 1) := by decide +kernel
theorem dX0_giveUp_16 : decode cX0_giveUp 16 = .ok (.iconst (-1), 1) := by decide +kernel
theorem dX0_giveUp_17 : decode cX0_giveUp 17 = .ok (.iconst 0, 1) := by decide +kernel
theorem dX0_giveUp_18 : decode cX0_giveUp 18 = .ok (.invokevirtual 76, 3) := by decide +kernel
theorem dX0_giveUp_21 : decode cX0_giveUp 21 = .ok (.return_, 1) := by decide +kernel
theorem dX0_goOut_0 : decode cX0_goOut 0 = .ok (.aload_n 0, 1) := by decide +kernel
theorem dX0_goOut_1 : decode cX0_goOut 1 = .ok (.getfield 11, 3) := by decide +kernel
theorem dX0_goOut_4 : decode cX0_goOut 4 = .ok (.iload_n 1, 1) := by decide +kernel
theorem dX0_goOut_5 : decode cX0_goOut 5 = .ok (.aaload, 1) := by decide +kernel
theorem dX0_goOut_6 : decode cX0_goOut 6 = .ok (.getfield 87, 3) := by decide +kernel
theorem dX0_goOut_9 : decode cX0_goOut 9 = .ok (.istore_n 3, 1) := by decide +kernel
theorem dX0_goOut_10 : decode cX0_goOut 10 = .ok (.aload_n 0, 1) := by decide +kernel
theorem dX0_goOut_11 : decode cX0_goOut 11 = .ok (.getfield 33, 3) := by decide +kernel
theorem dX0_goOut_14 : decode cX0_goOut 14 = .ok (.aload_n 0, 1) := by decide +kernel
theorem dX0_goOut_15 : decode cX0_goOut 15 = .ok (.getfield 41, 3) := by decide +kernel
theorem dX0_goOut_18 : decode cX0_goOut 18 = .ok (.iload_n 2, 1) := by decide +kernel
theorem dX0_goOut_19 : decode cX0_goOut 19 = .ok (.iload_n 1, 1) := by decide +kernel
theorem dX0_goOut_20 : decode cX0_goOut 20 = .ok (.iload_n 3, 1) := by decide +kernel
theorem dX0_goOut_21 : decode cX0_goOut 21 = .ok (.invokevirtual 90, 3) := by decide +kernel
theorem dX0_goOut_24 : decode cX0_goOut 24 = .ok (.aload_n 0, 1) := by decide +kernel
theorem dX0_goOut_25 : decode cX0_goOut 25 = .ok (.getfield 11, 3) := by decide +kernel
theorem dX0_goOut_28 : decode cX0_goOut 28 = .ok (.iload_n 1, 1) := by decide +kernel
theorem dX0_goOut_29 : decode cX0_goOut 29 = .ok (.aaload, 1) := by decide +kernel
theorem dX0_goOut_30 : decode cX0_goOut 30 = .ok (.iconst 0, 1) := by decide +kernel
theorem dX0_goOut_31 : decode cX0_goOut 31 = .ok (.iconst (-1), 1) := by decide +kernel
theorem dX0_goOut_32 : decode cX0_goOut 32 = .ok (.iconst (-1), 1) := by decide +kernel
theorem dX0_goOut_33 : decode cX0_goOut 33 = .ok (.iconst 0, 1) := by decide +kernel
theorem dX0_goOut_34 : decode cX0_goOut 34 = .ok (.invokevirtual 76, 3) := by decide +kernel
theorem dX0_goOut_37 : decode cX0_goOut 37 = .ok (.aload_n 0, 1) := by decide +kernel
theorem dX0_goOut_38 : decode cX0_goOut 38 = .ok (.getfield 19, 3) := by decide +kernel
theorem dX0_goOut_41 : decode cX0_goOut 41 = .ok (.iload_n 3, 1) := by decide +kernel
theorem dX0_goOut_42 : decode cX0_goOut 42 = .ok (.aaload, 1) := by decide +kernel
theorem dX0_goOut_43 : decode cX0_goOut 43 = .ok (.dup, 1) := by decide +kernel
theorem dX0_goOut_44 : decode cX0_goOut 44 = .ok (.getfield 93, 3) := by decide +kernel
theorem dX0_goOut_47 : decode cX0_goOut 47 = .ok (.iconst 1, 1) := by decide +kernel
theorem dX0_goOut_48 : decode cX0_goOut 48 = .ok (.isub, 1) := by decide +kernel
theorem dX0_goOut_49 : decode cX0_goOut 49 = .ok (.putfield 93, 3) := by decide +kernel
theorem dX0_goOut_52 : decode cX0_goOut 52 = .ok (.aload_n 0, 1) := by decide +kernel
theorem dX0_goOut_53 : decode cX0_goOut 53 = .ok (.getfield 19, 3) := by decide +kernel
theorem dX0_goOut_56 : decode cX0_goOut 56 = .ok (.iload_n 3, 1) := by decide +kernel
theorem dX0_goOut_57 : decode cX0_goOut 57 = .ok (.aaload, 1) := by decide +kernel
theorem dX0_goOut_58 : decode cX0_goOut 58 = .ok (.getfield 93, 3) := by decide +kernel
theorem dX0_goOut_61 : decode cX0_goOut 61 = .ok (.ifCond .ne 18, 3) := by decide +kernel
theorem dX0_goOut_64 : decode cX0_goOut 64 = .ok (.aload_n 0, 1) := by decide +kernel
theorem dX0_goOut_65 : decode cX0_goOut 65 = .ok (.iconst (-1), 1) := by decide +kernel
theorem dX0_goOut_66 : decode cX0_goOut 66 = .ok (.putfield 51, 3) := by decide +kernel
theorem dX0_goOut_69 : decode cX0_goOut 69 = .ok (.aload_n 0, 1) := by decide +kernel
theorem dX0_goOut_70 : decode cX0_goOut 70 = .ok (.iconst 0, 1) := by decide +kernel
theorem dX0_goOut_71 : decode cX0_goOut 71 = .ok (.putfield 54, 3) := by decide +kernel
theorem dX0_goOut_74 : decode cX0_goOut 74 = .ok (.aload_n 0, 1) := by decide +kernel
theorem dX0_goOut_75 : decode cX0_goOut 75 = .ok (.iconst 0, 1) := by decide +kernel
theorem dX0_goOut_76 : decode cX0_goOut 76 = .ok (.putfield 58, 3) := by decide +kernel
theorem dX0_goOut_79 : decode cX0_goOut 79 = .ok (.return_, 1) := by decide +kernel
theorem dX0_tick_0 : decode cX0_tick 0 = .ok (.aload_n 0, 1) := by decide +kernel
theorem dX0_tick_1 : decode cX0_tick 1 = .ok (.dup, 1) := by decide +kernel
theorem dX0_tick_2 : decode cX0_tick 2 = .ok (.getfield 41, 3) := by decide +kernel
theorem dX0_tick_5 : decode cX0_tick 5 = .ok (.iconst 1, 1) := by decide +kernel
theorem dX0_tick_6 : decode cX0_tick 6 = .ok (.iadd, 1) := by decide +kernel
theorem dX0_tick_7 : decode cX0_tick 7 = .ok (.putfield 41, 3) := by decide +kernel
theorem dX0_tick_10 : decode cX0_tick 10 = .ok (.iconst 0, 1) := by decide +kernel
theorem dX0_tick_11 : decode cX0_tick 11 = .ok (.istore_n 1, 1) := by decide +kernel
theorem dX0_tick_12 : decode cX0_tick 12 = .ok (.iload_n 1, 1) := by decide +kernel
theorem dX0_tick_13 : decode cX0_tick 13 = .ok (.bipush 12, 2) := by decide +kernel
theorem dX0_tick_15 : decode cX0_tick 15 = .ok (.if_icmp .ge 64, 3) := by decide +kernel
theorem dX0_tick_18 : decode cX0_tick 18 = .ok (.aload_n 0, 1) := by decide +kernel
theorem dX0_tick_19 : decode cX0_tick 19 = .ok (.getfield 11, 3) := by decide +kernel
theorem dX0_tick_22 : decode cX0_tick 22 = .ok (.iload_n 1, 1) := by decide +kernel
theorem dX0_tick_23 : decode cX0_tick 23 = .ok (.aaload, 1) := by decide +kernel
theorem dX0_tick_24 : decode cX0_tick 24 = .ok (.astore_n 2, 1) := by decide +kernel
theorem dX0_tick_25 : decode cX0_tick 25 = .ok (.aload_n 2, 1) := by decide +kernel
theorem dX0_tick_26 : decode cX0_tick 26 = .ok (.getfield 96, 3) := by decide +kernel
theorem dX0_tick_29 : decode cX0_tick 29 = .ok (.iconst 2, 1) := by decide +kernel
theorem dX0_tick_30 : decode cX0_tick 30 = .ok (.if_icmp .ne 11, 3) := by decide +kernel
theorem dX0_tick_33 : decode cX0_tick 33 = .ok (.aload_n 0, 1) := by decide +kernel
theorem dX0_tick_34 : decode cX0_tick 34 = .ok (.iload_n 1, 1) := by decide +kernel
theorem dX0_tick_35 : decode cX0_tick 35 = .ok (.invokevirtual 99, 3) := by decide +kernel
theorem dX0_tick_38 : decode cX0_tick 38 = .ok (.goto 35, 3) := by decide +kernel
theorem dX0_tick_41 : decode cX0_tick 41 = .ok (.aload_n 2, 1) := by decide +kernel
theorem dX0_tick_42 : decode cX0_tick 42 = .ok (.getfield 96, 3) := by decide +kernel
theorem dX0_tick_45 : decode cX0_tick 45 = .ok (.iconst 3, 1) := by decide +kernel
theorem dX0_tick_46 : decode cX0_tick 46 = .ok (.if_icmp .ne 27, 3) := by decide +kernel
theorem dX0_tick_49 : decode cX0_tick 49 = .ok (.aload_n 0, 1) := by decide +kernel
theorem dX0_tick_50 : decode cX0_tick 50 = .ok (.getfield 41, 3) := by decide +kernel
theorem dX0_tick_53 : decode cX0_tick 53 = .ok (.aload_n 2, 1) := by decide +kernel
theorem dX0_tick_54 : decode cX0_tick 54 = .ok (.getfield 102, 3) := by decide +kernel
theorem dX0_tick_57 : decode cX0_tick 57 = .ok (.isub, 1) := by decide +kernel
theorem dX0_tick_58 : decode cX0_tick 58 = .ok (.aload_n 0, 1) := by decide +kernel
theorem dX0_tick_59 : decode cX0_tick 59 = .ok (.getfield 37, 3) := by decide +kernel
theorem dX0_tick_62 : decode cX0_tick 62 = .ok (.iconst 2, 1) := by decide +kernel
theorem dX0_tick_63 : decode cX0_tick 63 = .ok (.iaload, 1) := by decide +kernel
theorem dX0_tick_64 : decode cX0_tick 64 = .ok (.if_icmp .lt 9, 3) := by decide +kernel
theorem dX0_tick_67 : decode cX0_tick 67 = .ok (.aload_n 0, 1) := by decide +kernel
theorem dX0_tick_68 : decode cX0_tick 68 = .ok (.iload_n 1, 1) := by decide +kernel
theorem dX0_tick_69 : decode cX0_tick 69 = .ok (.iconst 4, 1) := by decide +kernel
theorem dX0_tick_70 : decode cX0_tick 70 = .ok (.invokevirtual 105, 3) := by decide +kernel
theorem dX0_tick_73 : decode cX0_tick 73 = .ok (.iinc 1 1, 3) := by decide +kernel
theorem dX0_tick_76 : decode cX0_tick 76 = .ok (.goto (-64), 3) := by decide +kernel
theorem dX0_tick_79 : decode cX0_tick 79 = .ok (.aload_n 0, 1) := by decide +kernel
theorem dX0_tick_80 : decode cX0_tick 80 = .ok (.invokevirtual 109, 3) := by decide +kernel
theorem dX0_tick_83 : decode cX0_tick 83 = .ok (.return_, 1) := by decide +kernel
theorem dX0_spendTick_0 : decode cX0_spendTick 0 = .ok (.aload_n 0, 1) := by decide +kernel
theorem dX0_spendTick_1 : decode cX0_spendTick 1 = .ok (.getfield 11, 3) := by decide +kernel
theorem dX0_spendTick_4 : decode cX0_spendTick 4 = .ok (.iload_n 1, 1) := by decide +kernel
theorem dX0_spendTick_5 : decode cX0_spendTick 5 = .ok (.aaload, 1) := by decide +kernel
theorem dX0_spendTick_6 : decode cX0_spendTick 6 = .ok (.astore_n 2, 1) := by decide +kernel
theorem dX0_spendTick_7 : decode cX0_spendTick 7 = .ok (.aload_n 0, 1) := by decide +kernel
theorem dX0_spendTick_8 : decode cX0_spendTick 8 = .ok (.getfield 19, 3) := by decide +kernel
theorem dX0_spendTick_11 : decode cX0_spendTick 11 = .ok (.aload_n 2, 1) := by decide +kernel
theorem dX0_spendTick_12 : decode cX0_spendTick 12 = .ok (.getfield 87, 3) := by decide +kernel
theorem dX0_spendTick_15 : decode cX0_spendTick 15 = .ok (.aaload, 1) := by decide +kernel
theorem dX0_spendTick_16 : decode cX0_spendTick 16 = .ok (.dup, 1) := by decide +kernel
theorem dX0_spendTick_17 : decode cX0_spendTick 17 = .ok (.getfield 112, 3) := by decide +kernel
theorem dX0_spendTick_20 : decode cX0_spendTick 20 = .ok (.iconst 1, 1) := by decide +kernel
theorem dX0_spendTick_21 : decode cX0_spendTick 21 = .ok (.iadd, 1) := by decide +kernel
theorem dX0_spendTick_22 : decode cX0_spendTick 22 = .ok (.putfield 112, 3) := by decide +kernel
theorem dX0_spendTick_25 : decode cX0_spendTick 25 = .ok (.aload_n 2, 1) := by decide +kernel
theorem dX0_spendTick_26 : decode cX0_spendTick 26 = .ok (.dup, 1) := by decide +kernel
theorem dX0_spendTick_27 : decode cX0_spendTick 27 = .ok (.getfield 115, 3) := by decide +kernel
theorem dX0_spendTick_30 : decode cX0_spendTick 30 = .ok (.iconst 1, 1) := by decide +kernel
theorem dX0_spendTick_31 : decode cX0_spendTick 31 = .ok (.isub, 1) := by decide +kernel
theorem dX0_spendTick_32 : decode cX0_spendTick 32 = .ok (.putfield 115, 3) := by decide +kernel
theorem dX0_spendTick_35 : decode cX0_spendTick 35 = .ok (.aload_n 2, 1) := by decide +kernel
theorem dX0_spendTick_36 : decode cX0_spendTick 36 = .ok (.getfield 115, 3) := by decide +kernel
theorem dX0_spendTick_39 : decode cX0_spendTick 39 = .ok (.ifCond .gt 9, 3) := by decide +kernel
theorem dX0_spendTick_42 : decode cX0_spendTick 42 = .ok (.aload_n 0, 1) := by decide +kernel
theorem dX0_spendTick_43 : decode cX0_spendTick 43 = .ok (.iload_n 1, 1) := by decide +kernel
theorem dX0_spendTick_44 : decode cX0_spendTick 44 = .ok (.iconst 2, 1) := by decide +kernel
theorem dX0_spendTick_45 : decode cX0_spendTick 45 = .ok (.invokevirtual 105, 3) := by decide +kernel
theorem dX0_spendTick_48 : decode cX0_spendTick 48 = .ok (.return_, 1) := by decide +kernel
theorem dX0_skipQuietTicks_0 : decode cX0_skipQuietTicks 0 = .ok (.iload_n 1, 1) := by decide +kernel
theorem dX0_skipQuietTicks_1 : decode cX0_skipQuietTicks 1 = .ok (.aload_n 0, 1) := by decide +kernel
theorem dX0_skipQuietTicks_2 : decode cX0_skipQuietTicks 2 = .ok (.getfield 41, 3) := by decide +kernel
theorem dX0_skipQuietTicks_5 : decode cX0_skipQuietTicks 5 = .ok (.isub, 1) := by decide +kernel
theorem dX0_skipQuietTicks_6 : decode cX0_skipQuietTicks 6 = .ok (.istore_n 2, 1) := by decide +kernel
theorem dX0_skipQuietTicks_7 : decode cX0_skipQuietTicks 7 = .ok (.iconst 0, 1) := by decide +kernel
theorem dX0_skipQuietTicks_8 : decode cX0_skipQuietTicks 8 = .ok (.istore_n 3, 1) := by decide +kernel
theorem dX0_skipQuietTicks_9 : decode cX0_skipQuietTicks 9 = .ok (.iload_n 3, 1) := by decide +kernel
theorem dX0_skipQuietTicks_10 : decode cX0_skipQuietTicks 10 = .ok (.bipush 12, 2) := by decide +kernel
theorem dX0_skipQuietTicks_12 : decode cX0_skipQuietTicks 12 = .ok (.if_icmp .ge 21, 3) := by decide +kernel
theorem dX0_skipQuietTicks_15 : decode cX0_skipQuietTicks 15 = .ok (.iload_n 2, 1) := by decide +kernel
theorem dX0_skipQuietTicks_16 : decode cX0_skipQuietTicks 16 = .ok (.aload_n 0, 1) := by decide +kernel
theorem dX0_skipQuietTicks_17 : decode cX0_skipQuietTicks 17 = .ok (.iload_n 3, 1) := by decide +kernel
theorem dX0_skipQuietTicks_18 : decode cX0_skipQuietTicks 18 = .ok (.invokevirtual 118, 3) := by decide +kernel
theorem dX0_skipQuietTicks_21 : decode cX0_skipQuietTicks 21 = .ok (.iconst 1, 1) := by decide +kernel
theorem dX0_skipQuietTicks_22 : decode cX0_skipQuietTicks 22 = .ok (.isub, 1) := by decide +kernel
theorem dX0_skipQuietTicks_23 : decode cX0_skipQuietTicks 23 = .ok (.invokestatic 121, 3) := by decide +kernel
theorem dX0_skipQuietTicks_26 : decode cX0_skipQuietTicks 26 = .ok (.istore_n 2, 1) := by decide +kernel
theorem dX0_skipQuietTicks_27 : decode cX0_skipQuietTicks 27 = .ok (.iinc 3 1, 3) := by decide +kernel
theorem dX0_skipQuietTicks_30 : decode cX0_skipQuietTicks 30 = .ok (.goto (-21), 3) := by decide +kernel
theorem dX0_skipQuietTicks_33 : decode cX0_skipQuietTicks 33 = .ok (.iload_n 2, 1) := by decide +kernel
theorem dX0_skipQuietTicks_34 : decode cX0_skipQuietTicks 34 = .ok (.ifCond .gt 4, 3) := by decide +kernel
theorem dX0_skipQuietTicks_37 : decode cX0_skipQuietTicks 37 = .ok (.return_, 1) := by decide +kernel
theorem dX0_skipQuietTicks_38 : decode cX0_skipQuietTicks 38 = .ok (.aload_n 0, 1) := by decide +kernel
theorem dX0_skipQuietTicks_39 : decode cX0_skipQuietTicks 39 = .ok (.dup, 1) := by decide +kernel
theorem dX0_skipQuietTicks_40 : decode cX0_skipQuietTicks 40 = .ok (.getfield 41, 3) := by decide +kernel
theorem dX0_skipQuietTicks_43 : decode cX0_skipQuietTicks 43 = .ok (.iload_n 2, 1) := by decide +kernel
theorem dX0_skipQuietTicks_44 : decode cX0_skipQuietTicks 44 = .ok (.iadd, 1) := by decide +kernel
theorem dX0_skipQuietTicks_45 : decode cX0_skipQuietTicks 45 = .ok (.putfield 41, 3) := by decide +kernel
theorem dX0_skipQuietTicks_48 : decode cX0_skipQuietTicks 48 = .ok (.iconst 0, 1) := by decide +kernel
theorem dX0_skipQuietTicks_49 : decode cX0_skipQuietTicks 49 = .ok (.istore_n 3, 1) := by decide +kernel
theorem dX0_skipQuietTicks_50 : decode cX0_skipQuietTicks 50 = .ok (.iload_n 3, 1) := by decide +kernel
theorem dX0_skipQuietTicks_51 : decode cX0_skipQuietTicks 51 = .ok (.bipush 12, 2) := by decide +kernel
theorem dX0_skipQuietTicks_53 : decode cX0_skipQuietTicks 53 = .ok (.if_icmp .ge 60, 3) := by decide +kernel
theorem dX0_skipQuietTicks_56 : decode cX0_skipQuietTicks 56 = .ok (.aload_n 0, 1) := by decide +kernel
theorem dX0_skipQuietTicks_57 : decode cX0_skipQuietTicks 57 = .ok (.getfield 11, 3) := by decide +kernel
theorem dX0_skipQuietTicks_60 : decode cX0_skipQuietTicks 60 = .ok (.iload_n 3, 1) := by decide +kernel
theorem dX0_skipQuietTicks_61 : decode cX0_skipQuietTicks 61 = .ok (.aaload, 1) := by decide +kernel
theorem dX0_skipQuietTicks_62 : decode cX0_skipQuietTicks 62 = .ok (.getfield 96, 3) := by decide +kernel
theorem dX0_skipQuietTicks_65 : decode cX0_skipQuietTicks 65 = .ok (.iconst 2, 1) := by decide +kernel
theorem dX0_skipQuietTicks_66 : decode cX0_skipQuietTicks 66 = .ok (.if_icmp .ne 41, 3) := by decide +kernel
theorem dX0_skipQuietTicks_69 : decode cX0_skipQuietTicks 69 = .ok (.aload_n 0, 1) := by decide +kernel
theorem dX0_skipQuietTicks_70 : decode cX0_skipQuietTicks 70 = .ok (.getfield 11, 3) := by decide +kernel
theorem dX0_skipQuietTicks_73 : decode cX0_skipQuietTicks 73 = .ok (.iload_n 3, 1) := by decide +kernel
theorem dX0_skipQuietTicks_74 : decode cX0_skipQuietTicks 74 = .ok (.aaload, 1) := by decide +kernel
theorem dX0_skipQuietTicks_75 : decode cX0_skipQuietTicks 75 = .ok (.dup, 1) := by decide +kernel
theorem dX0_skipQuietTicks_76 : decode cX0_skipQuietTicks 76 = .ok (.getfield 115, 3) := by decide +kernel
theorem dX0_skipQuietTicks_79 : decode cX0_skipQuietTicks 79 = .ok (.iload_n 2, 1) := by decide +kernel
theorem dX0_skipQuietTicks_80 : decode cX0_skipQuietTicks 80 = .ok (.isub, 1) := by decide +kernel
theorem dX0_skipQuietTicks_81 : decode cX0_skipQuietTicks 81 = .ok (.putfield 115, 3) := by decide +kernel
theorem dX0_skipQuietTicks_84 : decode cX0_skipQuietTicks 84 = .ok (.aload_n 0, 1) := by decide +kernel
theorem dX0_skipQuietTicks_85 : decode cX0_skipQuietTicks 85 = .ok (.getfield 19, 3) := by decide +kernel
theorem dX0_skipQuietTicks_88 : decode cX0_skipQuietTicks 88 = .ok (.aload_n 0, 1) := by decide +kernel
theorem dX0_skipQuietTicks_89 : decode cX0_skipQuietTicks 89 = .ok (.getfield 11, 3) := by decide +kernel
theorem dX0_skipQuietTicks_92 : decode cX0_skipQuietTicks 92 = .ok (.iload_n 3, 1) := by decide +kernel
theorem dX0_skipQuietTicks_93 : decode cX0_skipQuietTicks 93 = .ok (.aaload, 1) := by decide +kernel
theorem dX0_skipQuietTicks_94 : decode cX0_skipQuietTicks 94 = .ok (.getfield 87, 3) := by decide +kernel
theorem dX0_skipQuietTicks_97 : decode cX0_skipQuietTicks 97 = .ok (.aaload, 1) := by decide +kernel
theorem dX0_skipQuietTicks_98 : decode cX0_skipQuietTicks 98 = .ok (.dup, 1) := by decide +kernel
theorem dX0_skipQuietTicks_99 : decode cX0_skipQuietTicks 99 = .ok (.getfield 112, 3) := by decide +kernel
theorem dX0_skipQuietTicks_102 : decode cX0_skipQuietTicks 102 = .ok (.iload_n 2, 1) := by decide +kernel
theorem dX0_skipQuietTicks_103 : decode cX0_skipQuietTicks 103 = .ok (.iadd, 1) := by decide +kernel
theorem dX0_skipQuietTicks_104 : decode cX0_skipQuietTicks 104 = .ok (.putfield 112, 3) := by decide +kernel
theorem dX0_skipQuietTicks_107 : decode cX0_skipQuietTicks 107 = .ok (.iinc 3 1, 3) := by decide +kernel
theorem dX0_skipQuietTicks_110 : decode cX0_skipQuietTicks 110 = .ok (.goto (-60), 3) := by decide +kernel
theorem dX0_skipQuietTicks_113 : decode cX0_skipQuietTicks 113 = .ok (.return_, 1) := by decide +kernel
theorem dX0_ticksToChange_0 : decode cX0_ticksToChange 0 = .ok (.aload_n 0, 1) := by decide +kernel
theorem dX0_ticksToChange_1 : decode cX0_ticksToChange 1 = .ok (.getfield 11, 3) := by decide +kernel
theorem dX0_ticksToChange_4 : decode cX0_ticksToChange 4 = .ok (.iload_n 1, 1) := by decide +kernel
theorem dX0_ticksToChange_5 : decode cX0_ticksToChange 5 = .ok (.aaload, 1) := by decide +kernel
theorem dX0_ticksToChange_6 : decode cX0_ticksToChange 6 = .ok (.astore_n 2, 1) := by decide +kernel
theorem dX0_ticksToChange_7 : decode cX0_ticksToChange 7 = .ok (.aload_n 2, 1) := by decide +kernel
theorem dX0_ticksToChange_8 : decode cX0_ticksToChange 8 = .ok (.getfield 96, 3) := by decide +kernel
theorem dX0_ticksToChange_11 : decode cX0_ticksToChange 11 = .ok (.lookupswitch 47 #[(2, 25), (3, 30)], 25) := by decide +kernel
theorem dX0_ticksToChange_36 : decode cX0_ticksToChange 36 = .ok (.aload_n 2, 1) := by decide +kernel
theorem dX0_ticksToChange_37 : decode cX0_ticksToChange 37 = .ok (.getfield 115, 3) := by decide +kernel
theorem dX0_ticksToChange_40 : decode cX0_ticksToChange 40 = .ok (.ireturn, 1) := by decide +kernel
theorem dX0_ticksToChange_41 : decode cX0_ticksToChange 41 = .ok (.aload_n 2, 1) := by decide +kernel
theorem dX0_ticksToChange_42 : decode cX0_ticksToChange 42 = .ok (.getfield 102, 3) := by decide +kernel
theorem dX0_ticksToChange_45 : decode cX0_ticksToChange 45 = .ok (.aload_n 0, 1) := by decide +kernel
theorem dX0_ticksToChange_46 : decode cX0_ticksToChange 46 = .ok (.getfield 37, 3) := by decide +kernel
theorem dX0_ticksToChange_49 : decode cX0_ticksToChange 49 = .ok (.iconst 2, 1) := by decide +kernel
theorem dX0_ticksToChange_50 : decode cX0_ticksToChange 50 = .ok (.iaload, 1) := by decide +kernel
theorem dX0_ticksToChange_51 : decode cX0_ticksToChange 51 = .ok (.iadd, 1) := by decide +kernel
theorem dX0_ticksToChange_52 : decode cX0_ticksToChange 52 = .ok (.aload_n 0, 1) := by decide +kernel
theorem dX0_ticksToChange_53 : decode cX0_ticksToChange 53 = .ok (.getfield 41, 3) := by decide +kernel
theorem dX0_ticksToChange_56 : decode cX0_ticksToChange 56 = .ok (.isub, 1) := by decide +kernel
theorem dX0_ticksToChange_57 : decode cX0_ticksToChange 57 = .ok (.ireturn, 1) := by decide +kernel
theorem dX0_ticksToChange_58 : decode cX0_ticksToChange 58 = .ok (.ldc 124, 2) := by decide +kernel
theorem dX0_ticksToChange_60 : decode cX0_ticksToChange 60 = .ok (.ireturn, 1) := by decide +kernel
theorem dX0_act_0 : decode cX0_act 0 = .ok (.iconst 0, 1) := by decide +kernel
theorem dX0_act_1 : decode cX0_act 1 = .ok (.istore_n 1, 1) := by decide +kernel
theorem dX0_act_2 : decode cX0_act 2 = .ok (.iload_n 1, 1) := by decide +kernel
theorem dX0_act_3 : decode cX0_act 3 = .ok (.bipush 12, 2) := by decide +kernel
theorem dX0_act_5 : decode cX0_act 5 = .ok (.if_icmp .ge 63, 3) := by decide +kernel
theorem dX0_act_8 : decode cX0_act 8 = .ok (.aload_n 0, 1) := by decide +kernel
theorem dX0_act_9 : decode cX0_act 9 = .ok (.getfield 51, 3) := by decide +kernel
theorem dX0_act_12 : decode cX0_act 12 = .ok (.iconst (-1), 1) := by decide +kernel
theorem dX0_act_13 : decode cX0_act 13 = .ok (.if_icmp .ne 14, 3) := by decide +kernel
theorem dX0_act_16 : decode cX0_act 16 = .ok (.aload_n 0, 1) := by decide +kernel
theorem dX0_act_17 : decode cX0_act 17 = .ok (.aload_n 0, 1) := by decide +kernel
theorem dX0_act_18 : decode cX0_act 18 = .ok (.invokevirtual 125, 3) := by decide +kernel
theorem dX0_act_21 : decode cX0_act 21 = .ok (.invokevirtual 129, 3) := by decide +kernel
theorem dX0_act_24 : decode cX0_act 24 = .ok (.goto 22, 3) := by decide +kernel
theorem dX0_act_27 : decode cX0_act 27 = .ok (.aload_n 0, 1) := by decide +kernel
theorem dX0_act_28 : decode cX0_act 28 = .ok (.invokevirtual 132, 3) := by decide +kernel
theorem dX0_act_31 : decode cX0_act 31 = .ok (.iconst (-1), 1) := by decide +kernel
theorem dX0_act_32 : decode cX0_act 32 = .ok (.if_icmp .eq 14, 3) := by decide +kernel
theorem dX0_act_35 : decode cX0_act 35 = .ok (.aload_n 0, 1) := by decide +kernel
theorem dX0_act_36 : decode cX0_act 36 = .ok (.invokevirtual 135, 3) := by decide +kernel
theorem dX0_act_39 : decode cX0_act 39 = .ok (.ifCond .eq 7, 3) := by decide +kernel
theorem dX0_act_42 : decode cX0_act 42 = .ok (.aload_n 0, 1) := by decide +kernel
theorem dX0_act_43 : decode cX0_act 43 = .ok (.invokevirtual 139, 3) := by decide +kernel
theorem dX0_act_46 : decode cX0_act 46 = .ok (.aload_n 0, 1) := by decide +kernel
theorem dX0_act_47 : decode cX0_act 47 = .ok (.invokevirtual 132, 3) := by decide +kernel
theorem dX0_act_50 : decode cX0_act 50 = .ok (.istore_n 2, 1) := by decide +kernel
theorem dX0_act_51 : decode cX0_act 51 = .ok (.iload_n 2, 1) := by decide +kernel
theorem dX0_act_52 : decode cX0_act 52 = .ok (.iconst (-1), 1) := by decide +kernel
theorem dX0_act_53 : decode cX0_act 53 = .ok (.if_icmp .ne 4, 3) := by decide +kernel
theorem dX0_act_56 : decode cX0_act 56 = .ok (.return_, 1) := by decide +kernel
theorem dX0_act_57 : decode cX0_act 57 = .ok (.aload_n 0, 1) := by decide +kernel
theorem dX0_act_58 : decode cX0_act 58 = .ok (.iload_n 2, 1) := by decide +kernel
theorem dX0_act_59 : decode cX0_act 59 = .ok (.invokevirtual 142, 3) := by decide +kernel
theorem dX0_act_62 : decode cX0_act 62 = .ok (.iinc 1 1, 3) := by decide +kernel
theorem dX0_act_65 : decode cX0_act 65 = .ok (.goto (-63), 3) := by decide +kernel
theorem dX0_act_68 : decode cX0_act 68 = .ok (.return_, 1) := by decide +kernel
theorem dX0_nextRoom_0 : decode cX0_nextRoom 0 = .ok (.aload_n 0, 1) := by decide +kernel
theorem dX0_nextRoom_1 : decode cX0_nextRoom 1 = .ok (.getfield 26, 3) := by decide +kernel
theorem dX0_nextRoom_4 : decode cX0_nextRoom 4 = .ok (.getfield 145, 3) := by decide +kernel
theorem dX0_nextRoom_7 : decode cX0_nextRoom 7 = .ok (.ifCond .ne 5, 3) := by decide +kernel
theorem dX0_nextRoom_10 : decode cX0_nextRoom 10 = .ok (.iconst (-1), 1) := by decide +kernel
theorem dX0_nextRoom_11 : decode cX0_nextRoom 11 = .ok (.ireturn, 1) := by decide +kernel
theorem dX0_nextRoom_12 : decode cX0_nextRoom 12 = .ok (.aload_n 0, 1) := by decide +kernel
theorem dX0_nextRoom_13 : decode cX0_nextRoom 13 = .ok (.getfield 26, 3) := by decide +kernel
theorem dX0_nextRoom_16 : decode cX0_nextRoom 16 = .ok (.getfield 148, 3) := by decide +kernel
theorem dX0_nextRoom_19 : decode cX0_nextRoom 19 = .ok (.iconst 0, 1) := by decide +kernel
theorem dX0_nextRoom_20 : decode cX0_nextRoom 20 = .ok (.iaload, 1) := by decide +kernel
theorem dX0_nextRoom_21 : decode cX0_nextRoom 21 = .ok (.istore_n 1, 1) := by decide +kernel
theorem dX0_nextRoom_22 : decode cX0_nextRoom 22 = .ok (.aload_n 0, 1) := by decide +kernel
theorem dX0_nextRoom_23 : decode cX0_nextRoom 23 = .ok (.iload_n 1, 1) := by decide +kernel
theorem dX0_nextRoom_24 : decode cX0_nextRoom 24 = .ok (.invokevirtual 151, 3) := by decide +kernel
theorem dX0_nextRoom_27 : decode cX0_nextRoom 27 = .ok (.ifCond .eq 13, 3) := by decide +kernel
theorem dX0_nextRoom_30 : decode cX0_nextRoom 30 = .ok (.aload_n 0, 1) := by decide +kernel
theorem dX0_nextRoom_31 : decode cX0_nextRoom 31 = .ok (.getfield 11, 3) := by decide +kernel
theorem dX0_nextRoom_34 : decode cX0_nextRoom 34 = .ok (.iload_n 1, 1) := by decide +kernel
theorem dX0_nextRoom_35 : decode cX0_nextRoom 35 = .ok (.aaload, 1) := by decide +kernel
theorem dX0_nextRoom_36 : decode cX0_nextRoom 36 = .ok (.getfield 87, 3) := by decide +kernel
theorem dX0_nextRoom_39 : decode cX0_nextRoom 39 = .ok (.ireturn, 1) := by decide +kernel
theorem dX0_nextRoom_40 : decode cX0_nextRoom 40 = .ok (.iconst (-1), 1) := by decide +kernel
theorem dX0_nextRoom_41 : decode cX0_nextRoom 41 = .ok (.istore_n 2, 1) := by decide +kernel
theorem dX0_nextRoom_42 : decode cX0_nextRoom 42 = .ok (.iconst 0, 1) := by decide +kernel
theorem dX0_nextRoom_43 : decode cX0_nextRoom 43 = .ok (.istore_n 3, 1) := by decide +kernel
theorem dX0_nextRoom_44 : decode cX0_nextRoom 44 = .ok (.iload_n 3, 1) := by decide +kernel
theorem dX0_nextRoom_45 : decode cX0_nextRoom 45 = .ok (.aload_n 0, 1) := by decide +kernel
theorem dX0_nextRoom_46 : decode cX0_nextRoom 46 = .ok (.getfield 26, 3) := by decide +kernel
theorem dX0_nextRoom_49 : decode cX0_nextRoom 49 = .ok (.getfield 145, 3) := by decide +kernel
theorem dX0_nextRoom_52 : decode cX0_nextRoom 52 = .ok (.if_icmp .ge 46, 3) := by decide +kernel
theorem dX0_nextRoom_55 : decode cX0_nextRoom 55 = .ok (.aload_n 0, 1) := by decide +kernel
theorem dX0_nextRoom_56 : decode cX0_nextRoom 56 = .ok (.getfield 11, 3) := by decide +kernel
theorem dX0_nextRoom_59 : decode cX0_nextRoom 59 = .ok (.aload_n 0, 1) := by decide +kernel
theorem dX0_nextRoom_60 : decode cX0_nextRoom 60 = .ok (.getfield 26, 3) := by decide +kernel
theorem dX0_nextRoom_63 : decode cX0_nextRoom 63 = .ok (.getfield 148, 3) := by decide +kernel
theorem dX0_nextRoom_66 : decode cX0_nextRoom 66 = .ok (.iload_n 3, 1) := by decide +kernel
theorem dX0_nextRoom_67 : decode cX0_nextRoom 67 = .ok (.iaload, 1) := by decide +kernel
theorem dX0_nextRoom_68 : decode cX0_nextRoom 68 = .ok (.aaload, 1) := by decide +kernel
theorem dX0_nextRoom_69 : decode cX0_nextRoom 69 = .ok (.getfield 87, 3) := by decide +kernel
theorem dX0_nextRoom_72 : decode cX0_nextRoom 72 = .ok (.istore 4, 2) := by decide +kernel
theorem dX0_nextRoom_74 : decode cX0_nextRoom 74 = .ok (.iload_n 2, 1) := by decide +kernel
theorem dX0_nextRoom_75 : decode cX0_nextRoom 75 = .ok (.iconst (-1), 1) := by decide +kernel
theorem dX0_nextRoom_76 : decode cX0_nextRoom 76 = .ok (.if_icmp .eq 13, 3) := by decide +kernel
theorem dX0_nextRoom_79 : decode cX0_nextRoom 79 = .ok (.aload_n 0, 1) := by decide +kernel
theorem dX0_nextRoom_80 : decode cX0_nextRoom 80 = .ok (.iload 4, 2) := by decide +kernel
theorem dX0_nextRoom_82 : decode cX0_nextRoom 82 = .ok (.iload_n 2, 1) := by decide +kernel
theorem dX0_nextRoom_83 : decode cX0_nextRoom 83 = .ok (.invokevirtual 155, 3) := by decide +kernel
theorem dX0_nextRoom_86 : decode cX0_nextRoom 86 = .ok (.ifCond .eq 6, 3) := by decide +kernel
theorem dX0_nextRoom_89 : decode cX0_nextRoom 89 = .ok (.iload 4, 2) := by decide +kernel
theorem dX0_nextRoom_91 : decode cX0_nextRoom 91 = .ok (.istore_n 2, 1) := by decide +kernel
theorem dX0_nextRoom_92 : decode cX0_nextRoom 92 = .ok (.iinc 3 1, 3) := by decide +kernel
theorem dX0_nextRoom_95 : decode cX0_nextRoom 95 = .ok (.goto (-51), 3) := by decide +kernel
theorem dX0_nextRoom_98 : decode cX0_nextRoom 98 = .ok (.iload_n 2, 1) := by decide +kernel
theorem dX0_nextRoom_99 : decode cX0_nextRoom 99 = .ok (.ireturn, 1) := by decide +kernel
theorem dX0_goesBefore_0 : decode cX0_goesBefore 0 = .ok (.aload_n 0, 1) := by decide +kernel
theorem dX0_goesBefore_1 : decode cX0_goesBefore 1 = .ok (.getfield 19, 3) := by decide +kernel
theorem dX0_goesBefore_4 : decode cX0_goesBefore 4 = .ok (.iload_n 1, 1) := by decide +kernel
theorem dX0_goesBefore_5 : decode cX0_goesBefore 5 = .ok (.aaload, 1) := by decide +kernel
theorem dX0_goesBefore_6 : decode cX0_goesBefore 6 = .ok (.getfield 67, 3) := by decide +kernel
theorem dX0_goesBefore_9 : decode cX0_goesBefore 9 = .ok (.istore_n 3, 1) := by decide +kernel
theorem dX0_goesBefore_10 : decode cX0_goesBefore 10 = .ok (.aload_n 0, 1) := by decide +kernel
theorem dX0_goesBefore_11 : decode cX0_goesBefore 11 = .ok (.getfield 19, 3) := by decide +kernel
theorem dX0_goesBefore_14 : decode cX0_goesBefore 14 = .ok (.iload_n 2, 1) := by decide +kernel
theorem dX0_goesBefore_15 : decode cX0_goesBefore 15 = .ok (.aaload, 1) := by decide +kernel
theorem dX0_goesBefore_16 : decode cX0_goesBefore 16 = .ok (.getfield 67, 3) := by decide +kernel
theorem dX0_goesBefore_19 : decode cX0_goesBefore 19 = .ok (.istore 4, 2) := by decide +kernel
theorem dX0_goesBefore_21 : decode cX0_goesBefore 21 = .ok (.iload_n 3, 1) := by decide +kernel
theorem dX0_goesBefore_22 : decode cX0_goesBefore 22 = .ok (.iload 4, 2) := by decide +kernel
theorem dX0_goesBefore_24 : decode cX0_goesBefore 24 = .ok (.if_icmp .lt 14, 3) := by decide +kernel
theorem dX0_goesBefore_27 : decode cX0_goesBefore 27 = .ok (.iload_n 3, 1) := by decide +kernel
theorem dX0_goesBefore_28 : decode cX0_goesBefore 28 = .ok (.iload 4, 2) := by decide +kernel
theorem dX0_goesBefore_30 : decode cX0_goesBefore 30 = .ok (.if_icmp .ne 12, 3) := by decide +kernel
theorem dX0_goesBefore_33 : decode cX0_goesBefore 33 = .ok (.iload_n 1, 1) := by decide +kernel
theorem dX0_goesBefore_34 : decode cX0_goesBefore 34 = .ok (.iload_n 2, 1) := by decide +kernel
theorem dX0_goesBefore_35 : decode cX0_goesBefore 35 = .ok (.if_icmp .ge 7, 3) := by decide +kernel
theorem dX0_goesBefore_38 : decode cX0_goesBefore 38 = .ok (.iconst 1, 1) := by decide +kernel
theorem dX0_goesBefore_39 : decode cX0_goesBefore 39 = .ok (.goto 4, 3) := by decide +kernel
theorem dX0_goesBefore_42 : decode cX0_goesBefore 42 = .ok (.iconst 0, 1) := by decide +kernel
theorem dX0_goesBefore_43 : decode cX0_goesBefore 43 = .ok (.ireturn, 1) := by decide +kernel
theorem dX0_openRoom_0 : decode cX0_openRoom 0 = .ok (.iload_n 1, 1) := by decide +kernel
theorem dX0_openRoom_1 : decode cX0_openRoom 1 = .ok (.iconst (-1), 1) := by decide +kernel
theorem dX0_openRoom_2 : decode cX0_openRoom 2 = .ok (.if_icmp .ne 4, 3) := by decide +kernel
theorem dX0_openRoom_5 : decode cX0_openRoom 5 = .ok (.return_, 1) := by decide +kernel
theorem dX0_openRoom_6 : decode cX0_openRoom 6 = .ok (.aload_n 0, 1) := by decide +kernel
theorem dX0_openRoom_7 : decode cX0_openRoom 7 = .ok (.getfield 19, 3) := by decide +kernel
theorem dX0_openRoom_10 : decode cX0_openRoom 10 = .ok (.iload_n 1, 1) := by decide +kernel
theorem dX0_openRoom_11 : decode cX0_openRoom 11 = .ok (.aaload, 1) := by decide +kernel
theorem dX0_openRoom_12 : decode cX0_openRoom 12 = .ok (.astore_n 2, 1) := by decide +kernel
theorem dX0_openRoom_13 : decode cX0_openRoom 13 = .ok (.aload_n 0, 1) := by decide +kernel
theorem dX0_openRoom_14 : decode cX0_openRoom 14 = .ok (.aload_n 2, 1) := by decide +kernel
theorem dX0_openRoom_15 : decode cX0_openRoom 15 = .ok (.getfield 67, 3) := by decide +kernel
theorem dX0_openRoom_18 : decode cX0_openRoom 18 = .ok (.putfield 45, 3) := by decide +kernel
theorem dX0_openRoom_21 : decode cX0_openRoom 21 = .ok (.aload_n 2, 1) := by decide +kernel
theorem dX0_openRoom_22 : decode cX0_openRoom 22 = .ok (.dup, 1) := by decide +kernel
theorem dX0_openRoom_23 : decode cX0_openRoom 23 = .ok (.getfield 67, 3) := by decide +kernel
theorem dX0_openRoom_26 : decode cX0_openRoom 26 = .ok (.aload_n 2, 1) := by decide +kernel
theorem dX0_openRoom_27 : decode cX0_openRoom 27 = .ok (.sipush 2520, 3) := by decide +kernel
theorem dX0_openRoom_30 : decode cX0_openRoom 30 = .ok (.invokevirtual 159, 3) := by decide +kernel
theorem dX0_openRoom_33 : decode cX0_openRoom 33 = .ok (.iadd, 1) := by decide +kernel
theorem dX0_openRoom_34 : decode cX0_openRoom 34 = .ok (.putfield 67, 3) := by decide +kernel
theorem dX0_openRoom_37 : decode cX0_openRoom 37 = .ok (.aload_n 2, 1) := by decide +kernel
theorem dX0_openRoom_38 : decode cX0_openRoom 38 = .ok (.dup, 1) := by decide +kernel
theorem dX0_openRoom_39 : decode cX0_openRoom 39 = .ok (.getfield 162, 3) := by decide +kernel
theorem dX0_openRoom_42 : decode cX0_openRoom 42 = .ok (.iconst 1, 1) := by decide +kernel
theorem dX0_openRoom_43 : decode cX0_openRoom 43 = .ok (.iadd, 1) := by decide +kernel
theorem dX0_openRoom_44 : decode cX0_openRoom 44 = .ok (.putfield 162, 3) := by decide +kernel
theorem dX0_openRoom_47 : decode cX0_openRoom 47 = .ok (.aload_n 0, 1) := by decide +kernel
theorem dX0_openRoom_48 : decode cX0_openRoom 48 = .ok (.iload_n 1, 1) := by decide +kernel
theorem dX0_openRoom_49 : decode cX0_openRoom 49 = .ok (.putfield 51, 3) := by decide +kernel
theorem dX0_openRoom_52 : decode cX0_openRoom 52 = .ok (.aload_n 0, 1) := by decide +kernel
theorem dX0_openRoom_53 : decode cX0_openRoom 53 = .ok (.iconst 1, 1) := by decide +kernel
theorem dX0_openRoom_54 : decode cX0_openRoom 54 = .ok (.putfield 54, 3) := by decide +kernel
theorem dX0_openRoom_57 : decode cX0_openRoom 57 = .ok (.aload_n 0, 1) := by decide +kernel
theorem dX0_openRoom_58 : decode cX0_openRoom 58 = .ok (.iconst 0, 1) := by decide +kernel
theorem dX0_openRoom_59 : decode cX0_openRoom 59 = .ok (.putfield 58, 3) := by decide +kernel
theorem dX0_openRoom_62 : decode cX0_openRoom 62 = .ok (.aload_n 0, 1) := by decide +kernel
theorem dX0_openRoom_63 : decode cX0_openRoom 63 = .ok (.getfield 33, 3) := by decide +kernel
theorem dX0_openRoom_66 : decode cX0_openRoom 66 = .ok (.aload_n 0, 1) := by decide +kernel
theorem dX0_openRoom_67 : decode cX0_openRoom 67 = .ok (.getfield 41, 3) := by decide +kernel
theorem dX0_openRoom_70 : decode cX0_openRoom 70 = .ok (.iconst 0, 1) := by decide +kernel
theorem dX0_openRoom_71 : decode cX0_openRoom 71 = .ok (.iconst (-1), 1) := by decide +kernel
theorem dX0_openRoom_72 : decode cX0_openRoom 72 = .ok (.iload_n 1, 1) := by decide +kernel
theorem dX0_openRoom_73 : decode cX0_openRoom 73 = .ok (.invokevirtual 90, 3) := by decide +kernel
theorem dX0_openRoom_76 : decode cX0_openRoom 76 = .ok (.return_, 1) := by decide +kernel
theorem dX0_closeDoor_0 : decode cX0_closeDoor 0 = .ok (.aload_n 0, 1) := by decide +kernel
theorem dX0_closeDoor_1 : decode cX0_closeDoor 1 = .ok (.iconst 0, 1) := by decide +kernel
theorem dX0_closeDoor_2 : decode cX0_closeDoor 2 = .ok (.putfield 54, 3) := by decide +kernel
theorem dX0_closeDoor_5 : decode cX0_closeDoor 5 = .ok (.aload_n 0, 1) := by decide +kernel
theorem dX0_closeDoor_6 : decode cX0_closeDoor 6 = .ok (.getfield 33, 3) := by decide +kernel
theorem dX0_closeDoor_9 : decode cX0_closeDoor 9 = .ok (.aload_n 0, 1) := by decide +kernel
theorem dX0_closeDoor_10 : decode cX0_closeDoor 10 = .ok (.getfield 41, 3) := by decide +kernel
theorem dX0_closeDoor_13 : decode cX0_closeDoor 13 = .ok (.iconst 3, 1) := by decide +kernel
theorem dX0_closeDoor_14 : decode cX0_closeDoor 14 = .ok (.iconst (-1), 1) := by decide +kernel
theorem dX0_closeDoor_15 : decode cX0_closeDoor 15 = .ok (.aload_n 0, 1) := by decide +kernel
theorem dX0_closeDoor_16 : decode cX0_closeDoor 16 = .ok (.getfield 51, 3) := by decide +kernel
theorem dX0_closeDoor_19 : decode cX0_closeDoor 19 = .ok (.invokevirtual 90, 3) := by decide +kernel
theorem dX0_closeDoor_22 : decode cX0_closeDoor 22 = .ok (.return_, 1) := by decide +kernel
theorem dX0_firstAtDoor_0 : decode cX0_firstAtDoor 0 = .ok (.aload_n 0, 1) := by decide +kernel
theorem dX0_firstAtDoor_1 : decode cX0_firstAtDoor 1 = .ok (.getfield 51, 3) := by decide +kernel
theorem dX0_firstAtDoor_4 : decode cX0_firstAtDoor 4 = .ok (.iconst (-1), 1) := by decide +kernel
theorem dX0_firstAtDoor_5 : decode cX0_firstAtDoor 5 = .ok (.if_icmp .eq 37, 3) := by decide +kernel
theorem dX0_firstAtDoor_8 : decode cX0_firstAtDoor 8 = .ok (.aload_n 0, 1) := by decide +kernel
theorem dX0_firstAtDoor_9 : decode cX0_firstAtDoor 9 = .ok (.getfield 54, 3) := by decide +kernel
theorem dX0_firstAtDoor_12 : decode cX0_firstAtDoor 12 = .ok (.ifCond .eq 30, 3) := by decide +kernel
theorem dX0_firstAtDoor_15 : decode cX0_firstAtDoor 15 = .ok (.aload_n 0, 1) := by decide +kernel
theorem dX0_firstAtDoor_16 : decode cX0_firstAtDoor 16 = .ok (.getfield 19, 3) := by decide +kernel
theorem dX0_firstAtDoor_19 : decode cX0_firstAtDoor 19 = .ok (.aload_n 0, 1) := by decide +kernel
theorem dX0_firstAtDoor_20 : decode cX0_firstAtDoor 20 = .ok (.getfield 51, 3) := by decide +kernel
theorem dX0_firstAtDoor_23 : decode cX0_firstAtDoor 23 = .ok (.aaload, 1) := by decide +kernel
theorem dX0_firstAtDoor_24 : decode cX0_firstAtDoor 24 = .ok (.getfield 93, 3) := by decide +kernel
theorem dX0_firstAtDoor_27 : decode cX0_firstAtDoor 27 = .ok (.aload_n 0, 1) := by decide +kernel
theorem dX0_firstAtDoor_28 : decode cX0_firstAtDoor 28 = .ok (.getfield 19, 3) := by decide +kernel
theorem dX0_firstAtDoor_31 : decode cX0_firstAtDoor 31 = .ok (.aload_n 0, 1) := by decide +kernel
theorem dX0_firstAtDoor_32 : decode cX0_firstAtDoor 32 = .ok (.getfield 51, 3) := by decide +kernel
theorem dX0_firstAtDoor_35 : decode cX0_firstAtDoor 35 = .ok (.aaload, 1) := by decide +kernel
theorem dX0_firstAtDoor_36 : decode cX0_firstAtDoor 36 = .ok (.getfield 165, 3) := by decide +kernel
theorem dX0_firstAtDoor_39 : decode cX0_firstAtDoor 39 = .ok (.if_icmp .lt 5, 3) := by decide +kernel
theorem dX0_firstAtDoor_42 : decode cX0_firstAtDoor 42 = .ok (.iconst (-1), 1) := by decide +kernel
theorem dX0_firstAtDoor_43 : decode cX0_firstAtDoor 43 = .ok (.ireturn, 1) := by decide +kernel
theorem dX0_firstAtDoor_44 : decode cX0_firstAtDoor 44 = .ok (.aload_n 0, 1) := by decide +kernel
theorem dX0_firstAtDoor_45 : decode cX0_firstAtDoor 45 = .ok (.aload_n 0, 1) := by decide +kernel
theorem dX0_firstAtDoor_46 : decode cX0_firstAtDoor 46 = .ok (.getfield 51, 3) := by decide +kernel
theorem dX0_firstAtDoor_49 : decode cX0_firstAtDoor 49 = .ok (.iconst 0, 1) := by decide +kernel
theorem dX0_firstAtDoor_50 : decode cX0_firstAtDoor 50 = .ok (.invokevirtual 168, 3) := by decide +kernel
theorem dX0_firstAtDoor_53 : decode cX0_firstAtDoor 53 = .ok (.ireturn, 1) := by decide +kernel
theorem dX0_isTurnOfOthers_0 : decode cX0_isTurnOfOthers 0 = .ok (.aload_n 0, 1) := by decide +kernel
theorem dX0_isTurnOfOthers_1 : decode cX0_isTurnOfOthers 1 = .ok (.getfield 58, 3) := by decide +kernel
theorem dX0_isTurnOfOthers_4 : decode cX0_isTurnOfOthers 4 = .ok (.aload_n 0, 1) := by decide +kernel
theorem dX0_isTurnOfOthers_5 : decode cX0_isTurnOfOthers 5 = .ok (.getfield 37, 3) := by decide +kernel
theorem dX0_isTurnOfOthers_8 : decode cX0_isTurnOfOthers 8 = .ok (.iconst 1, 1) := by decide +kernel
theorem dX0_isTurnOfOthers_9 : decode cX0_isTurnOfOthers 9 = .ok (.iaload, 1) := by decide +kernel
theorem dX0_isTurnOfOthers_10 : decode cX0_isTurnOfOthers 10 = .ok (.if_icmp .lt 7, 3) := by decide +kernel
theorem dX0_isTurnOfOthers_13 : decode cX0_isTurnOfOthers 13 = .ok (.iconst 1, 1) := by decide +kernel
theorem dX0_isTurnOfOthers_14 : decode cX0_isTurnOfOthers 14 = .ok (.goto 4, 3) := by decide +kernel
theorem dX0_isTurnOfOthers_17 : decode cX0_isTurnOfOthers 17 = .ok (.iconst 0, 1) := by decide +kernel
theorem dX0_isTurnOfOthers_18 : decode cX0_isTurnOfOthers 18 = .ok (.istore_n 1, 1) := by decide +kernel
theorem dX0_isTurnOfOthers_19 : decode cX0_isTurnOfOthers 19 = .ok (.iconst 0, 1) := by decide +kernel
theorem dX0_isTurnOfOthers_20 : decode cX0_isTurnOfOthers 20 = .ok (.istore_n 2, 1) := by decide +kernel
theorem dX0_isTurnOfOthers_21 : decode cX0_isTurnOfOthers 21 = .ok (.iload_n 2, 1) := by decide +kernel
theorem dX0_isTurnOfOthers_22 : decode cX0_isTurnOfOthers 22 = .ok (.aload_n 0, 1) := by decide +kernel
theorem dX0_isTurnOfOthers_23 : decode cX0_isTurnOfOthers 23 = .ok (.getfield 26, 3) := by decide +kernel
theorem dX0_isTurnOfOthers_26 : decode cX0_isTurnOfOthers 26 = .ok (.getfield 145, 3) := by decide +kernel
theorem dX0_isTurnOfOthers_29 : decode cX0_isTurnOfOthers 29 = .ok (.if_icmp .ge 49, 3) := by decide +kernel
theorem dX0_isTurnOfOthers_32 : decode cX0_isTurnOfOthers 32 = .ok (.aload_n 0, 1) := by decide +kernel
theorem dX0_isTurnOfOthers_33 : decode cX0_isTurnOfOthers 33 = .ok (.getfield 26, 3) := by decide +kernel
theorem dX0_isTurnOfOthers_36 : decode cX0_isTurnOfOthers 36 = .ok (.getfield 148, 3) := by decide +kernel
theorem dX0_isTurnOfOthers_39 : decode cX0_isTurnOfOthers 39 = .ok (.iload_n 2, 1) := by decide +kernel
theorem dX0_isTurnOfOthers_40 : decode cX0_isTurnOfOthers 40 = .ok (.iaload, 1) := by decide +kernel
theorem dX0_isTurnOfOthers_41 : decode cX0_isTurnOfOthers 41 = .ok (.istore_n 3, 1) := by decide +kernel
theorem dX0_isTurnOfOthers_42 : decode cX0_isTurnOfOthers 42 = .ok (.aload_n 0, 1) := by decide +kernel
theorem dX0_isTurnOfOthers_43 : decode cX0_isTurnOfOthers 43 = .ok (.getfield 11, 3) := by decide +kernel
theorem dX0_isTurnOfOthers_46 : decode cX0_isTurnOfOthers 46 = .ok (.iload_n 3, 1) := by decide +kernel
theorem dX0_isTurnOfOthers_47 : decode cX0_isTurnOfOthers 47 = .ok (.aaload, 1) := by decide +kernel
theorem dX0_isTurnOfOthers_48 : decode cX0_isTurnOfOthers 48 = .ok (.getfield 87, 3) := by decide +kernel
theorem dX0_isTurnOfOthers_51 : decode cX0_isTurnOfOthers 51 = .ok (.aload_n 0, 1) := by decide +kernel
theorem dX0_isTurnOfOthers_52 : decode cX0_isTurnOfOthers 52 = .ok (.getfield 51, 3) := by decide +kernel
theorem dX0_isTurnOfOthers_55 : decode cX0_isTurnOfOthers 55 = .ok (.if_icmp .eq 17, 3) := by decide +kernel
theorem dX0_isTurnOfOthers_58 : decode cX0_isTurnOfOthers 58 = .ok (.iload_n 1, 1) := by decide +kernel
theorem dX0_isTurnOfOthers_59 : decode cX0_isTurnOfOthers 59 = .ok (.ifCond .ne 11, 3) := by decide +kernel
theorem dX0_isTurnOfOthers_62 : decode cX0_isTurnOfOthers 62 = .ok (.aload_n 0, 1) := by decide +kernel
theorem dX0_isTurnOfOthers_63 : decode cX0_isTurnOfOthers 63 = .ok (.iload_n 3, 1) := by decide +kernel
theorem dX0_isTurnOfOthers_64 : decode cX0_isTurnOfOthers 64 = .ok (.invokevirtual 151, 3) := by decide +kernel
theorem dX0_isTurnOfOthers_67 : decode cX0_isTurnOfOthers 67 = .ok (.ifCond .eq 5, 3) := by decide +kernel
theorem dX0_isTurnOfOthers_70 : decode cX0_isTurnOfOthers 70 = .ok (.iconst 1, 1) := by decide +kernel
theorem dX0_isTurnOfOthers_71 : decode cX0_isTurnOfOthers 71 = .ok (.ireturn, 1) := by decide +kernel
theorem dX0_isTurnOfOthers_72 : decode cX0_isTurnOfOthers 72 = .ok (.iinc 2 1, 3) := by decide +kernel
theorem dX0_isTurnOfOthers_75 : decode cX0_isTurnOfOthers 75 = .ok (.goto (-54), 3) := by decide +kernel
theorem dX0_isTurnOfOthers_78 : decode cX0_isTurnOfOthers 78 = .ok (.iconst 0, 1) := by decide +kernel
theorem dX0_isTurnOfOthers_79 : decode cX0_isTurnOfOthers 79 = .ok (.ireturn, 1) := by decide +kernel
theorem dX0_letIn_0 : decode cX0_letIn 0 = .ok (.aload_n 0, 1) := by decide +kernel
theorem dX0_letIn_1 : decode cX0_letIn 1 = .ok (.getfield 11, 3) := by decide +kernel
theorem dX0_letIn_4 : decode cX0_letIn 4 = .ok (.iload_n 1, 1) := by decide +kernel
theorem dX0_letIn_5 : decode cX0_letIn 5 = .ok (.aaload, 1) := by decide +kernel
theorem dX0_letIn_6 : decode cX0_letIn 6 = .ok (.astore_n 2, 1) := by decide +kernel
theorem dX0_letIn_7 : decode cX0_letIn 7 = .ok (.aload_n 0, 1) := by decide +kernel
theorem dX0_letIn_8 : decode cX0_letIn 8 = .ok (.getfield 19, 3) := by decide +kernel
theorem dX0_letIn_11 : decode cX0_letIn 11 = .ok (.aload_n 2, 1) := by decide +kernel
theorem dX0_letIn_12 : decode cX0_letIn 12 = .ok (.getfield 87, 3) := by decide +kernel
theorem dX0_letIn_15 : decode cX0_letIn 15 = .ok (.aaload, 1) := by decide +kernel
theorem dX0_letIn_16 : decode cX0_letIn 16 = .ok (.aload_n 0, 1) := by decide +kernel
theorem dX0_letIn_17 : decode cX0_letIn 17 = .ok (.getfield 41, 3) := by decide +kernel
theorem dX0_letIn_20 : decode cX0_letIn 20 = .ok (.aload_n 2, 1) := by decide +kernel
theorem dX0_letIn_21 : decode cX0_letIn 21 = .ok (.getfield 102, 3) := by decide +kernel
theorem dX0_letIn_24 : decode cX0_letIn 24 = .ok (.isub, 1) := by decide +kernel
theorem dX0_letIn_25 : decode cX0_letIn 25 = .ok (.invokevirtual 171, 3) := by decide +kernel
theorem dX0_letIn_28 : decode cX0_letIn 28 = .ok (.aload_n 0, 1) := by decide +kernel
theorem dX0_letIn_29 : decode cX0_letIn 29 = .ok (.getfield 26, 3) := by decide +kernel
theorem dX0_letIn_32 : decode cX0_letIn 32 = .ok (.iload_n 1, 1) := by decide +kernel
theorem dX0_letIn_33 : decode cX0_letIn 33 = .ok (.invokevirtual 84, 3) := by decide +kernel
theorem dX0_letIn_36 : decode cX0_letIn 36 = .ok (.aload_n 2, 1) := by decide +kernel
theorem dX0_letIn_37 : decode cX0_letIn 37 = .ok (.iconst 2, 1) := by decide +kernel
theorem dX0_letIn_38 : decode cX0_letIn 38 = .ok (.aload_n 2, 1) := by decide +kernel
theorem dX0_letIn_39 : decode cX0_letIn 39 = .ok (.getfield 87, 3) := by decide +kernel
theorem dX0_letIn_42 : decode cX0_letIn 42 = .ok (.aload_n 0, 1) := by decide +kernel
theorem dX0_letIn_43 : decode cX0_letIn 43 = .ok (.getfield 41, 3) := by decide +kernel
theorem dX0_letIn_46 : decode cX0_letIn 46 = .ok (.aload_n 2, 1) := by decide +kernel
theorem dX0_letIn_47 : decode cX0_letIn 47 = .ok (.getfield 115, 3) := by decide +kernel
theorem dX0_letIn_50 : decode cX0_letIn 50 = .ok (.invokevirtual 76, 3) := by decide +kernel
theorem dX0_letIn_53 : decode cX0_letIn 53 = .ok (.aload_n 0, 1) := by decide +kernel
theorem dX0_letIn_54 : decode cX0_letIn 54 = .ok (.dup, 1) := by decide +kernel
theorem dX0_letIn_55 : decode cX0_letIn 55 = .ok (.getfield 58, 3) := by decide +kernel
theorem dX0_letIn_58 : decode cX0_letIn 58 = .ok (.iconst 1, 1) := by decide +kernel
theorem dX0_letIn_59 : decode cX0_letIn 59 = .ok (.iadd, 1) := by decide +kernel
theorem dX0_letIn_60 : decode cX0_letIn 60 = .ok (.putfield 58, 3) := by decide +kernel
theorem dX0_letIn_63 : decode cX0_letIn 63 = .ok (.aload_n 0, 1) := by decide +kernel
theorem dX0_letIn_64 : decode cX0_letIn 64 = .ok (.getfield 33, 3) := by decide +kernel
theorem dX0_letIn_67 : decode cX0_letIn 67 = .ok (.aload_n 0, 1) := by decide +kernel
theorem dX0_letIn_68 : decode cX0_letIn 68 = .ok (.getfield 41, 3) := by decide +kernel
theorem dX0_letIn_71 : decode cX0_letIn 71 = .ok (.iconst 1, 1) := by decide +kernel
theorem dX0_letIn_72 : decode cX0_letIn 72 = .ok (.iload_n 1, 1) := by decide +kernel
theorem dX0_letIn_73 : decode cX0_letIn 73 = .ok (.aload_n 2, 1) := by decide +kernel
theorem dX0_letIn_74 : decode cX0_letIn 74 = .ok (.getfield 87, 3) := by decide +kernel
theorem dX0_letIn_77 : decode cX0_letIn 77 = .ok (.invokevirtual 90, 3) := by decide +kernel
theorem dX0_letIn_80 : decode cX0_letIn 80 = .ok (.return_, 1) := by decide +kernel
theorem dX0_isImpatient_0 : decode cX0_isImpatient 0 = .ok (.aload_n 0, 1) := by decide +kernel
theorem dX0_isImpatient_1 : decode cX0_isImpatient 1 = .ok (.getfield 41, 3) := by decide +kernel
theorem dX0_isImpatient_4 : decode cX0_isImpatient 4 = .ok (.aload_n 0, 1) := by decide +kernel
theorem dX0_isImpatient_5 : decode cX0_isImpatient 5 = .ok (.getfield 11, 3) := by decide +kernel
theorem dX0_isImpatient_8 : decode cX0_isImpatient 8 = .ok (.iload_n 1, 1) := by decide +kernel
theorem dX0_isImpatient_9 : decode cX0_isImpatient 9 = .ok (.aaload, 1) := by decide +kernel
theorem dX0_isImpatient_10 : decode cX0_isImpatient 10 = .ok (.getfield 102, 3) := by decide +kernel
theorem dX0_isImpatient_13 : decode cX0_isImpatient 13 = .ok (.isub, 1) := by decide +kernel
theorem dX0_isImpatient_14 : decode cX0_isImpatient 14 = .ok (.aload_n 0, 1) := by decide +kernel
theorem dX0_isImpatient_15 : decode cX0_isImpatient 15 = .ok (.getfield 37, 3) := by decide +kernel
theorem dX0_isImpatient_18 : decode cX0_isImpatient 18 = .ok (.iconst 0, 1) := by decide +kernel
theorem dX0_isImpatient_19 : decode cX0_isImpatient 19 = .ok (.iaload, 1) := by decide +kernel
theorem dX0_isImpatient_20 : decode cX0_isImpatient 20 = .ok (.if_icmp .lt 7, 3) := by decide +kernel
theorem dX0_isImpatient_23 : decode cX0_isImpatient 23 = .ok (.iconst 1, 1) := by decide +kernel
theorem dX0_isImpatient_24 : decode cX0_isImpatient 24 = .ok (.goto 4, 3) := by decide +kernel
theorem dX0_isImpatient_27 : decode cX0_isImpatient 27 = .ok (.iconst 0, 1) := by decide +kernel
theorem dX0_isImpatient_28 : decode cX0_isImpatient 28 = .ok (.ireturn, 1) := by decide +kernel
theorem dX0_countQueue_0 : decode cX0_countQueue 0 = .ok (.iconst 0, 1) := by decide +kernel
theorem dX0_countQueue_1 : decode cX0_countQueue 1 = .ok (.istore_n 2, 1) := by decide +kernel
theorem dX0_countQueue_2 : decode cX0_countQueue 2 = .ok (.iconst 0, 1) := by decide +kernel
theorem dX0_countQueue_3 : decode cX0_countQueue 3 = .ok (.istore_n 3, 1) := by decide +kernel
theorem dX0_countQueue_4 : decode cX0_countQueue 4 = .ok (.iload_n 3, 1) := by decide +kernel
theorem dX0_countQueue_5 : decode cX0_countQueue 5 = .ok (.aload_n 0, 1) := by decide +kernel
theorem dX0_countQueue_6 : decode cX0_countQueue 6 = .ok (.getfield 26, 3) := by decide +kernel
theorem dX0_countQueue_9 : decode cX0_countQueue 9 = .ok (.getfield 145, 3) := by decide +kernel
theorem dX0_countQueue_12 : decode cX0_countQueue 12 = .ok (.if_icmp .ge 33, 3) := by decide +kernel
theorem dX0_countQueue_15 : decode cX0_countQueue 15 = .ok (.aload_n 0, 1) := by decide +kernel
theorem dX0_countQueue_16 : decode cX0_countQueue 16 = .ok (.getfield 11, 3) := by decide +kernel
theorem dX0_countQueue_19 : decode cX0_countQueue 19 = .ok (.aload_n 0, 1) := by decide +kernel
theorem dX0_countQueue_20 : decode cX0_countQueue 20 = .ok (.getfield 26, 3) := by decide +kernel
theorem dX0_countQueue_23 : decode cX0_countQueue 23 = .ok (.getfield 148, 3) := by decide +kernel
theorem dX0_countQueue_26 : decode cX0_countQueue 26 = .ok (.iload_n 3, 1) := by decide +kernel
theorem dX0_countQueue_27 : decode cX0_countQueue 27 = .ok (.iaload, 1) := by decide +kernel
theorem dX0_countQueue_28 : decode cX0_countQueue 28 = .ok (.aaload, 1) := by decide +kernel
theorem dX0_countQueue_29 : decode cX0_countQueue 29 = .ok (.getfield 87, 3) := by decide +kernel
theorem dX0_countQueue_32 : decode cX0_countQueue 32 = .ok (.iload_n 1, 1) := by decide +kernel
theorem dX0_countQueue_33 : decode cX0_countQueue 33 = .ok (.if_icmp .ne 6, 3) := by decide +kernel
theorem dX0_countQueue_36 : decode cX0_countQueue 36 = .ok (.iinc 2 1, 3) := by decide +kernel
theorem dX0_countQueue_39 : decode cX0_countQueue 39 = .ok (.iinc 3 1, 3) := by decide +kernel
theorem dX0_countQueue_42 : decode cX0_countQueue 42 = .ok (.goto (-38), 3) := by decide +kernel
theorem dX0_countQueue_45 : decode cX0_countQueue 45 = .ok (.iload_n 2, 1) := by decide +kernel
theorem dX0_countQueue_46 : decode cX0_countQueue 46 = .ok (.ireturn, 1) := by decide +kernel
theorem dX0_inQueue_0 : decode cX0_inQueue 0 = .ok (.iconst 0, 1) := by decide +kernel
theorem dX0_inQueue_1 : decode cX0_inQueue 1 = .ok (.istore_n 3, 1) := by decide +kernel
theorem dX0_inQueue_2 : decode cX0_inQueue 2 = .ok (.iconst 0, 1) := by decide +kernel
theorem dX0_inQueue_3 : decode cX0_inQueue 3 = .ok (.istore 4, 2) := by decide +kernel
theorem dX0_inQueue_5 : decode cX0_inQueue 5 = .ok (.iload 4, 2) := by decide +kernel
theorem dX0_inQueue_7 : decode cX0_inQueue 7 = .ok (.aload_n 0, 1) := by decide +kernel
theorem dX0_inQueue_8 : decode cX0_inQueue 8 = .ok (.getfield 26, 3) := by decide +kernel
theorem dX0_inQueue_11 : decode cX0_inQueue 11 = .ok (.getfield 145, 3) := by decide +kernel
theorem dX0_inQueue_14 : decode cX0_inQueue 14 = .ok (.if_icmp .ge 46, 3) := by decide +kernel
theorem dX0_inQueue_17 : decode cX0_inQueue 17 = .ok (.aload_n 0, 1) := by decide +kernel
theorem dX0_inQueue_18 : decode cX0_inQueue 18 = .ok (.getfield 26, 3) := by decide +kernel
theorem dX0_inQueue_21 : decode cX0_inQueue 21 = .ok (.getfield 148, 3) := by decide +kernel
theorem dX0_inQueue_24 : decode cX0_inQueue 24 = .ok (.iload 4, 2) := by decide +kernel
theorem dX0_inQueue_26 : decode cX0_inQueue 26 = .ok (.iaload, 1) := by decide +kernel
theorem dX0_inQueue_27 : decode cX0_inQueue 27 = .ok (.istore 5, 2) := by decide +kernel
theorem dX0_inQueue_29 : decode cX0_inQueue 29 = .ok (.aload_n 0, 1) := by decide +kernel
theorem dX0_inQueue_30 : decode cX0_inQueue 30 = .ok (.getfield 11, 3) := by decide +kernel
theorem dX0_inQueue_33 : decode cX0_inQueue 33 = .ok (.iload 5, 2) := by decide +kernel
theorem dX0_inQueue_35 : decode cX0_inQueue 35 = .ok (.aaload, 1) := by decide +kernel
theorem dX0_inQueue_36 : decode cX0_inQueue 36 = .ok (.getfield 87, 3) := by decide +kernel
theorem dX0_inQueue_39 : decode cX0_inQueue 39 = .ok (.iload_n 1, 1) := by decide +kernel
theorem dX0_inQueue_40 : decode cX0_inQueue 40 = .ok (.if_icmp .ne 14, 3) := by decide +kernel
theorem dX0_inQueue_43 : decode cX0_inQueue 43 = .ok (.iload_n 3, 1) := by decide +kernel
theorem dX0_inQueue_44 : decode cX0_inQueue 44 = .ok (.iload_n 2, 1) := by decide +kernel
theorem dX0_inQueue_45 : decode cX0_inQueue 45 = .ok (.if_icmp .ne 6, 3) := by decide +kernel
theorem dX0_inQueue_48 : decode cX0_inQueue 48 = .ok (.iload 5, 2) := by decide +kernel
theorem dX0_inQueue_50 : decode cX0_inQueue 50 = .ok (.ireturn, 1) := by decide +kernel
theorem dX0_inQueue_51 : decode cX0_inQueue 51 = .ok (.iinc 3 1, 3) := by decide +kernel
theorem dX0_inQueue_54 : decode cX0_inQueue 54 = .ok (.iinc 4 1, 3) := by decide +kernel
theorem dX0_inQueue_57 : decode cX0_inQueue 57 = .ok (.goto (-52), 3) := by decide +kernel
theorem dX0_inQueue_60 : decode cX0_inQueue 60 = .ok (.iconst (-1), 1) := by decide +kernel
theorem dX0_inQueue_61 : decode cX0_inQueue 61 = .ok (.ireturn, 1) := by decide +kernel
theorem dX0_countBefore_0 : decode cX0_countBefore 0 = .ok (.iconst 0, 1) := by decide +kernel
theorem dX0_countBefore_1 : decode cX0_countBefore 1 = .ok (.istore_n 2, 1) := by decide +kernel
theorem dX0_countBefore_2 : decode cX0_countBefore 2 = .ok (.iconst 0, 1) := by decide +kernel
theorem dX0_countBefore_3 : decode cX0_countBefore 3 = .ok (.istore_n 3, 1) := by decide +kernel
theorem dX0_countBefore_4 : decode cX0_countBefore 4 = .ok (.iload_n 3, 1) := by decide +kernel
theorem dX0_countBefore_5 : decode cX0_countBefore 5 = .ok (.aload_n 0, 1) := by decide +kernel
theorem dX0_countBefore_6 : decode cX0_countBefore 6 = .ok (.getfield 26, 3) := by decide +kernel
theorem dX0_countBefore_9 : decode cX0_countBefore 9 = .ok (.getfield 145, 3) := by decide +kernel
theorem dX0_countBefore_12 : decode cX0_countBefore 12 = .ok (.if_icmp .ge 53, 3) := by decide +kernel
theorem dX0_countBefore_15 : decode cX0_countBefore 15 = .ok (.aload_n 0, 1) := by decide +kernel
theorem dX0_countBefore_16 : decode cX0_countBefore 16 = .ok (.getfield 26, 3) := by decide +kernel
theorem dX0_countBefore_19 : decode cX0_countBefore 19 = .ok (.getfield 148, 3) := by decide +kernel
theorem dX0_countBefore_22 : decode cX0_countBefore 22 = .ok (.iload_n 3, 1) := by decide +kernel
theorem dX0_countBefore_23 : decode cX0_countBefore 23 = .ok (.iaload, 1) := by decide +kernel
theorem dX0_countBefore_24 : decode cX0_countBefore 24 = .ok (.istore 4, 2) := by decide +kernel
theorem dX0_countBefore_26 : decode cX0_countBefore 26 = .ok (.iload 4, 2) := by decide +kernel
theorem dX0_countBefore_28 : decode cX0_countBefore 28 = .ok (.iload_n 1, 1) := by decide +kernel
theorem dX0_countBefore_29 : decode cX0_countBefore 29 = .ok (.if_icmp .ne 5, 3) := by decide +kernel
theorem dX0_countBefore_32 : decode cX0_countBefore 32 = .ok (.iload_n 2, 1) := by decide +kernel
theorem dX0_countBefore_33 : decode cX0_countBefore 33 = .ok (.ireturn, 1) := by decide +kernel
theorem dX0_countBefore_34 : decode cX0_countBefore 34 = .ok (.aload_n 0, 1) := by decide +kernel
theorem dX0_countBefore_35 : decode cX0_countBefore 35 = .ok (.getfield 11, 3) := by decide +kernel
theorem dX0_countBefore_38 : decode cX0_countBefore 38 = .ok (.iload 4, 2) := by decide +kernel
theorem dX0_countBefore_40 : decode cX0_countBefore 40 = .ok (.aaload, 1) := by decide +kernel
theorem dX0_countBefore_41 : decode cX0_countBefore 41 = .ok (.getfield 87, 3) := by decide +kernel
theorem dX0_countBefore_44 : decode cX0_countBefore 44 = .ok (.aload_n 0, 1) := by decide +kernel
theorem dX0_countBefore_45 : decode cX0_countBefore 45 = .ok (.getfield 11, 3) := by decide +kernel
theorem dX0_countBefore_48 : decode cX0_countBefore 48 = .ok (.iload_n 1, 1) := by decide +kernel
theorem dX0_countBefore_49 : decode cX0_countBefore 49 = .ok (.aaload, 1) := by decide +kernel
theorem dX0_countBefore_50 : decode cX0_countBefore 50 = .ok (.getfield 87, 3) := by decide +kernel
theorem dX0_countBefore_53 : decode cX0_countBefore 53 = .ok (.if_icmp .ne 6, 3) := by decide +kernel
theorem dX0_countBefore_56 : decode cX0_countBefore 56 = .ok (.iinc 2 1, 3) := by decide +kernel
theorem dX0_countBefore_59 : decode cX0_countBefore 59 = .ok (.iinc 3 1, 3) := by decide +kernel
theorem dX0_countBefore_62 : decode cX0_countBefore 62 = .ok (.goto (-58), 3) := by decide +kernel
theorem dX0_countBefore_65 : decode cX0_countBefore 65 = .ok (.iconst (-1), 1) := by decide +kernel
theorem dX0_countBefore_66 : decode cX0_countBefore 66 = .ok (.ireturn, 1) := by decide +kernel
theorem dX0_countImpatient_0 : decode cX0_countImpatient 0 = .ok (.iconst 0, 1) := by decide +kernel
theorem dX0_countImpatient_1 : decode cX0_countImpatient 1 = .ok (.istore_n 1, 1) := by decide +kernel
theorem dX0_countImpatient_2 : decode cX0_countImpatient 2 = .ok (.iconst 0, 1) := by decide +kernel
theorem dX0_countImpatient_3 : decode cX0_countImpatient 3 = .ok (.istore_n 2, 1) := by decide +kernel
theorem dX0_countImpatient_4 : decode cX0_countImpatient 4 = .ok (.iload_n 2, 1) := by decide +kernel
theorem dX0_countImpatient_5 : decode cX0_countImpatient 5 = .ok (.aload_n 0, 1) := by decide +kernel
theorem dX0_countImpatient_6 : decode cX0_countImpatient 6 = .ok (.getfield 26, 3) := by decide +kernel
theorem dX0_countImpatient_9 : decode cX0_countImpatient 9 = .ok (.getfield 145, 3) := by decide +kernel
theorem dX0_countImpatient_12 : decode cX0_countImpatient 12 = .ok (.if_icmp .ge 28, 3) := by decide +kernel
theorem dX0_countImpatient_15 : decode cX0_countImpatient 15 = .ok (.aload_n 0, 1) := by decide +kernel
theorem dX0_countImpatient_16 : decode cX0_countImpatient 16 = .ok (.aload_n 0, 1) := by decide +kernel
theorem dX0_countImpatient_17 : decode cX0_countImpatient 17 = .ok (.getfield 26, 3) := by decide +kernel
theorem dX0_countImpatient_20 : decode cX0_countImpatient 20 = .ok (.getfield 148, 3) := by decide +kernel
theorem dX0_countImpatient_23 : decode cX0_countImpatient 23 = .ok (.iload_n 2, 1) := by decide +kernel
theorem dX0_countImpatient_24 : decode cX0_countImpatient 24 = .ok (.iaload, 1) := by decide +kernel
theorem dX0_countImpatient_25 : decode cX0_countImpatient 25 = .ok (.invokevirtual 151, 3) := by decide +kernel
theorem dX0_countImpatient_28 : decode cX0_countImpatient 28 = .ok (.ifCond .eq 6, 3) := by decide +kernel
theorem dX0_countImpatient_31 : decode cX0_countImpatient 31 = .ok (.iinc 1 1, 3) := by decide +kernel
theorem dX0_countImpatient_34 : decode cX0_countImpatient 34 = .ok (.iinc 2 1, 3) := by decide +kernel
theorem dX0_countImpatient_37 : decode cX0_countImpatient 37 = .ok (.goto (-33), 3) := by decide +kernel
theorem dX0_countImpatient_40 : decode cX0_countImpatient 40 = .ok (.iload_n 1, 1) := by decide +kernel
theorem dX0_countImpatient_41 : decode cX0_countImpatient 41 = .ok (.ireturn, 1) := by decide +kernel
theorem dX0_countCollapsed_0 : decode cX0_countCollapsed 0 = .ok (.iconst 0, 1) := by decide +kernel
theorem dX0_countCollapsed_1 : decode cX0_countCollapsed 1 = .ok (.istore_n 1, 1) := by decide +kernel
theorem dX0_countCollapsed_2 : decode cX0_countCollapsed 2 = .ok (.iconst 0, 1) := by decide +kernel
theorem dX0_countCollapsed_3 : decode cX0_countCollapsed 3 = .ok (.istore_n 2, 1) := by decide +kernel
theorem dX0_countCollapsed_4 : decode cX0_countCollapsed 4 = .ok (.iload_n 2, 1) := by decide +kernel
theorem dX0_countCollapsed_5 : decode cX0_countCollapsed 5 = .ok (.bipush 12, 2) := by decide +kernel
theorem dX0_countCollapsed_7 : decode cX0_countCollapsed 7 = .ok (.if_icmp .ge 25, 3) := by decide +kernel
theorem dX0_countCollapsed_10 : decode cX0_countCollapsed 10 = .ok (.aload_n 0, 1) := by decide +kernel
theorem dX0_countCollapsed_11 : decode cX0_countCollapsed 11 = .ok (.getfield 11, 3) := by decide +kernel
theorem dX0_countCollapsed_14 : decode cX0_countCollapsed 14 = .ok (.iload_n 2, 1) := by decide +kernel
theorem dX0_countCollapsed_15 : decode cX0_countCollapsed 15 = .ok (.aaload, 1) := by decide +kernel
theorem dX0_countCollapsed_16 : decode cX0_countCollapsed 16 = .ok (.getfield 96, 3) := by decide +kernel
theorem dX0_countCollapsed_19 : decode cX0_countCollapsed 19 = .ok (.iconst 3, 1) := by decide +kernel
theorem dX0_countCollapsed_20 : decode cX0_countCollapsed 20 = .ok (.if_icmp .ne 6, 3) := by decide +kernel
theorem dX0_countCollapsed_23 : decode cX0_countCollapsed 23 = .ok (.iinc 1 1, 3) := by decide +kernel
theorem dX0_countCollapsed_26 : decode cX0_countCollapsed 26 = .ok (.iinc 2 1, 3) := by decide +kernel
theorem dX0_countCollapsed_29 : decode cX0_countCollapsed 29 = .ok (.goto (-25), 3) := by decide +kernel
theorem dX0_countCollapsed_32 : decode cX0_countCollapsed 32 = .ok (.iload_n 1, 1) := by decide +kernel
theorem dX0_countCollapsed_33 : decode cX0_countCollapsed 33 = .ok (.ireturn, 1) := by decide +kernel
theorem dX0_isDeserted_0 : decode cX0_isDeserted 0 = .ok (.aload_n 0, 1) := by decide +kernel
theorem dX0_isDeserted_1 : decode cX0_isDeserted 1 = .ok (.getfield 51, 3) := by decide +kernel
theorem dX0_isDeserted_4 : decode cX0_isDeserted 4 = .ok (.iconst (-1), 1) := by decide +kernel
theorem dX0_isDeserted_5 : decode cX0_isDeserted 5 = .ok (.if_icmp .ne 17, 3) := by decide +kernel
theorem dX0_isDeserted_8 : decode cX0_isDeserted 8 = .ok (.aload_n 0, 1) := by decide +kernel
theorem dX0_isDeserted_9 : decode cX0_isDeserted 9 = .ok (.getfield 26, 3) := by decide +kernel
theorem dX0_isDeserted_12 : decode cX0_isDeserted 12 = .ok (.getfield 145, 3) := by decide +kernel
theorem dX0_isDeserted_15 : decode cX0_isDeserted 15 = .ok (.ifCond .ne 7, 3) := by decide +kernel
theorem dX0_isDeserted_18 : decode cX0_isDeserted 18 = .ok (.iconst 1, 1) := by decide +kernel
theorem dX0_isDeserted_19 : decode cX0_isDeserted 19 = .ok (.goto 4, 3) := by decide +kernel
theorem dX0_isDeserted_22 : decode cX0_isDeserted 22 = .ok (.iconst 0, 1) := by decide +kernel
theorem dX0_isDeserted_23 : decode cX0_isDeserted 23 = .ok (.ireturn, 1) := by decide +kernel
theorem dX0_copyFrom_0 : decode cX0_copyFrom 0 = .ok (.iconst 0, 1) := by decide +kernel
theorem dX0_copyFrom_1 : decode cX0_copyFrom 1 = .ok (.istore_n 2, 1) := by decide +kernel
theorem dX0_copyFrom_2 : decode cX0_copyFrom 2 = .ok (.iload_n 2, 1) := by decide +kernel
theorem dX0_copyFrom_3 : decode cX0_copyFrom 3 = .ok (.bipush 12, 2) := by decide +kernel
theorem dX0_copyFrom_5 : decode cX0_copyFrom 5 = .ok (.if_icmp .ge 24, 3) := by decide +kernel
theorem dX0_copyFrom_8 : decode cX0_copyFrom 8 = .ok (.aload_n 0, 1) := by decide +kernel
theorem dX0_copyFrom_9 : decode cX0_copyFrom 9 = .ok (.getfield 11, 3) := by decide +kernel
theorem dX0_copyFrom_12 : decode cX0_copyFrom 12 = .ok (.iload_n 2, 1) := by decide +kernel
theorem dX0_copyFrom_13 : decode cX0_copyFrom 13 = .ok (.aaload, 1) := by decide +kernel
theorem dX0_copyFrom_14 : decode cX0_copyFrom 14 = .ok (.aload_n 1, 1) := by decide +kernel
theorem dX0_copyFrom_15 : decode cX0_copyFrom 15 = .ok (.getfield 11, 3) := by decide +kernel
theorem dX0_copyFrom_18 : decode cX0_copyFrom 18 = .ok (.iload_n 2, 1) := by decide +kernel
theorem dX0_copyFrom_19 : decode cX0_copyFrom 19 = .ok (.aaload, 1) := by decide +kernel
theorem dX0_copyFrom_20 : decode cX0_copyFrom 20 = .ok (.invokevirtual 174, 3) := by decide +kernel
theorem dX0_copyFrom_23 : decode cX0_copyFrom 23 = .ok (.iinc 2 1, 3) := by decide +kernel
theorem dX0_copyFrom_26 : decode cX0_copyFrom 26 = .ok (.goto (-24), 3) := by decide +kernel
theorem dX0_copyFrom_29 : decode cX0_copyFrom 29 = .ok (.iconst 0, 1) := by decide +kernel
theorem dX0_copyFrom_30 : decode cX0_copyFrom 30 = .ok (.istore_n 2, 1) := by decide +kernel
theorem dX0_copyFrom_31 : decode cX0_copyFrom 31 = .ok (.iload_n 2, 1) := by decide +kernel
theorem dX0_copyFrom_32 : decode cX0_copyFrom 32 = .ok (.iconst 5, 1) := by decide +kernel
theorem dX0_copyFrom_33 : decode cX0_copyFrom 33 = .ok (.if_icmp .ge 24, 3) := by decide +kernel
theorem dX0_copyFrom_36 : decode cX0_copyFrom 36 = .ok (.aload_n 0, 1) := by decide +kernel
theorem dX0_copyFrom_37 : decode cX0_copyFrom 37 = .ok (.getfield 19, 3) := by decide +kernel
theorem dX0_copyFrom_40 : decode cX0_copyFrom 40 = .ok (.iload_n 2, 1) := by decide +kernel
theorem dX0_copyFrom_41 : decode cX0_copyFrom 41 = .ok (.aaload, 1) := by decide +kernel
theorem dX0_copyFrom_42 : decode cX0_copyFrom 42 = .ok (.aload_n 1, 1) := by decide +kernel
theorem dX0_copyFrom_43 : decode cX0_copyFrom 43 = .ok (.getfield 19, 3) := by decide +kernel
theorem dX0_copyFrom_46 : decode cX0_copyFrom 46 = .ok (.iload_n 2, 1) := by decide +kernel
theorem dX0_copyFrom_47 : decode cX0_copyFrom 47 = .ok (.aaload, 1) := by decide +kernel
theorem dX0_copyFrom_48 : decode cX0_copyFrom 48 = .ok (.invokevirtual 178, 3) := by decide +kernel
theorem dX0_copyFrom_51 : decode cX0_copyFrom 51 = .ok (.iinc 2 1, 3) := by decide +kernel
theorem dX0_copyFrom_54 : decode cX0_copyFrom 54 = .ok (.goto (-23), 3) := by decide +kernel
theorem dX0_copyFrom_57 : decode cX0_copyFrom 57 = .ok (.aload_n 0, 1) := by decide +kernel
theorem dX0_copyFrom_58 : decode cX0_copyFrom 58 = .ok (.getfield 26, 3) := by decide +kernel
theorem dX0_copyFrom_61 : decode cX0_copyFrom 61 = .ok (.aload_n 1, 1) := by decide +kernel
theorem dX0_copyFrom_62 : decode cX0_copyFrom 62 = .ok (.getfield 26, 3) := by decide +kernel
theorem dX0_copyFrom_65 : decode cX0_copyFrom 65 = .ok (.invokevirtual 181, 3) := by decide +kernel
theorem dX0_copyFrom_68 : decode cX0_copyFrom 68 = .ok (.aload_n 0, 1) := by decide +kernel
theorem dX0_copyFrom_69 : decode cX0_copyFrom 69 = .ok (.getfield 33, 3) := by decide +kernel
theorem dX0_copyFrom_72 : decode cX0_copyFrom 72 = .ok (.aload_n 1, 1) := by decide +kernel
theorem dX0_copyFrom_73 : decode cX0_copyFrom 73 = .ok (.getfield 33, 3) := by decide +kernel
theorem dX0_copyFrom_76 : decode cX0_copyFrom 76 = .ok (.invokevirtual 184, 3) := by decide +kernel
theorem dX0_copyFrom_79 : decode cX0_copyFrom 79 = .ok (.aload_n 1, 1) := by decide +kernel
theorem dX0_copyFrom_80 : decode cX0_copyFrom 80 = .ok (.getfield 37, 3) := by decide +kernel
theorem dX0_copyFrom_83 : decode cX0_copyFrom 83 = .ok (.iconst 0, 1) := by decide +kernel
theorem dX0_copyFrom_84 : decode cX0_copyFrom 84 = .ok (.aload_n 0, 1) := by decide +kernel
theorem dX0_copyFrom_85 : decode cX0_copyFrom 85 = .ok (.getfield 37, 3) := by decide +kernel
theorem dX0_copyFrom_88 : decode cX0_copyFrom 88 = .ok (.iconst 0, 1) := by decide +kernel
theorem dX0_copyFrom_89 : decode cX0_copyFrom 89 = .ok (.aload_n 0, 1) := by decide +kernel
theorem dX0_copyFrom_90 : decode cX0_copyFrom 90 = .ok (.getfield 37, 3) := by decide +kernel
theorem dX0_copyFrom_93 : decode cX0_copyFrom 93 = .ok (.arraylength, 1) := by decide +kernel
theorem dX0_copyFrom_94 : decode cX0_copyFrom 94 = .ok (.invokestatic 187, 3) := by decide +kernel
theorem dX0_copyFrom_97 : decode cX0_copyFrom 97 = .ok (.aload_n 0, 1) := by decide +kernel
theorem dX0_copyFrom_98 : decode cX0_copyFrom 98 = .ok (.aload_n 1, 1) := by decide +kernel
theorem dX0_copyFrom_99 : decode cX0_copyFrom 99 = .ok (.getfield 41, 3) := by decide +kernel
theorem dX0_copyFrom_102 : decode cX0_copyFrom 102 = .ok (.putfield 41, 3) := by decide +kernel
theorem dX0_copyFrom_105 : decode cX0_copyFrom 105 = .ok (.aload_n 0, 1) := by decide +kernel
theorem dX0_copyFrom_106 : decode cX0_copyFrom 106 = .ok (.aload_n 1, 1) := by decide +kernel
theorem dX0_copyFrom_107 : decode cX0_copyFrom 107 = .ok (.getfield 45, 3) := by decide +kernel
theorem dX0_copyFrom_110 : decode cX0_copyFrom 110 = .ok (.putfield 45, 3) := by decide +kernel
theorem dX0_copyFrom_113 : decode cX0_copyFrom 113 = .ok (.aload_n 0, 1) := by decide +kernel
theorem dX0_copyFrom_114 : decode cX0_copyFrom 114 = .ok (.aload_n 1, 1) := by decide +kernel
theorem dX0_copyFrom_115 : decode cX0_copyFrom 115 = .ok (.getfield 48, 3) := by decide +kernel
theorem dX0_copyFrom_118 : decode cX0_copyFrom 118 = .ok (.putfield 48, 3) := by decide +kernel
theorem dX0_copyFrom_121 : decode cX0_copyFrom 121 = .ok (.aload_n 0, 1) := by decide +kernel
theorem dX0_copyFrom_122 : decode cX0_copyFrom 122 = .ok (.aload_n 1, 1) := by decide +kernel
theorem dX0_copyFrom_123 : decode cX0_copyFrom 123 = .ok (.getfield 51, 3) := by decide +kernel
theorem dX0_copyFrom_126 : decode cX0_copyFrom 126 = .ok (.putfield 51, 3) := by decide +kernel
theorem dX0_copyFrom_129 : decode cX0_copyFrom 129 = .ok (.aload_n 0, 1) := by decide +kernel
theorem dX0_copyFrom_130 : decode cX0_copyFrom 130 = .ok (.aload_n 1, 1) := by decide +kernel
theorem dX0_copyFrom_131 : decode cX0_copyFrom 131 = .ok (.getfield 54, 3) := by decide +kernel
theorem dX0_copyFrom_134 : decode cX0_copyFrom 134 = .ok (.putfield 54, 3) := by decide +kernel
theorem dX0_copyFrom_137 : decode cX0_copyFrom 137 = .ok (.aload_n 0, 1) := by decide +kernel
theorem dX0_copyFrom_138 : decode cX0_copyFrom 138 = .ok (.aload_n 1, 1) := by decide +kernel
theorem dX0_copyFrom_139 : decode cX0_copyFrom 139 = .ok (.getfield 58, 3) := by decide +kernel
theorem dX0_copyFrom_142 : decode cX0_copyFrom 142 = .ok (.putfield 58, 3) := by decide +kernel
theorem dX0_copyFrom_145 : decode cX0_copyFrom 145 = .ok (.return_, 1) := by decide +kernel
theorem dX1_init_0 : decode cX1_init 0 = .ok (.aload_n 0, 1) := by decide +kernel
theorem dX1_init_1 : decode cX1_init 1 = .ok (.invokespecial 3, 3) := by decide +kernel
theorem dX1_init_4 : decode cX1_init 4 = .ok (.aload_n 0, 1) := by decide +kernel
theorem dX1_init_5 : decode cX1_init 5 = .ok (.bipush 12, 2) := by decide +kernel
theorem dX1_init_7 : decode cX1_init 7 = .ok (.newarray .int, 2) := by decide +kernel
theorem dX1_init_9 : decode cX1_init 9 = .ok (.putfield 9, 3) := by decide +kernel
theorem dX1_init_12 : decode cX1_init 12 = .ok (.aload_n 0, 1) := by decide +kernel
theorem dX1_init_13 : decode cX1_init 13 = .ok (.iconst 0, 1) := by decide +kernel
theorem dX1_init_14 : decode cX1_init 14 = .ok (.putfield 15, 3) := by decide +kernel
theorem dX1_init_17 : decode cX1_init 17 = .ok (.return_, 1) := by decide +kernel
theorem dX1_append_0 : decode cX1_append 0 = .ok (.aload_n 0, 1) := by decide +kernel
theorem dX1_append_1 : decode cX1_append 1 = .ok (.getfield 15, 3) := by decide +kernel
theorem dX1_append_4 : decode cX1_append 4 = .ok (.bipush 12, 2) := by decide +kernel
theorem dX1_append_6 : decode cX1_append 6 = .ok (.if_icmp .ge 23, 3) := by decide +kernel
theorem dX1_append_9 : decode cX1_append 9 = .ok (.aload_n 0, 1) := by decide +kernel
theorem dX1_append_10 : decode cX1_append 10 = .ok (.getfield 9, 3) := by decide +kernel
theorem dX1_append_13 : decode cX1_append 13 = .ok (.aload_n 0, 1) := by decide +kernel
theorem dX1_append_14 : decode cX1_append 14 = .ok (.getfield 15, 3) := by decide +kernel
theorem dX1_append_17 : decode cX1_append 17 = .ok (.iload_n 1, 1) := by decide +kernel
theorem dX1_append_18 : decode cX1_append 18 = .ok (.iastore, 1) := by decide +kernel
theorem dX1_append_19 : decode cX1_append 19 = .ok (.aload_n 0, 1) := by decide +kernel
theorem dX1_append_20 : decode cX1_append 20 = .ok (.dup, 1) := by decide +kernel
theorem dX1_append_21 : decode cX1_append 21 = .ok (.getfield 15, 3) := by decide +kernel
theorem dX1_append_24 : decode cX1_append 24 = .ok (.iconst 1, 1) := by decide +kernel
theorem dX1_append_25 : decode cX1_append 25 = .ok (.iadd, 1) := by decide +kernel
theorem dX1_append_26 : decode cX1_append 26 = .ok (.putfield 15, 3) := by decide +kernel
theorem dX1_append_29 : decode cX1_append 29 = .ok (.return_, 1) := by decide +kernel
theorem dX1_remove_0 : decode cX1_remove 0 = .ok (.iconst 0, 1) := by decide +kernel
theorem dX1_remove_1 : decode cX1_remove 1 = .ok (.istore_n 2, 1) := by decide +kernel
theorem dX1_remove_2 : decode cX1_remove 2 = .ok (.iconst 0, 1) := by decide +kernel
theorem dX1_remove_3 : decode cX1_remove 3 = .ok (.istore_n 3, 1) := by decide +kernel
theorem dX1_remove_4 : decode cX1_remove 4 = .ok (.iload_n 3, 1) := by decide +kernel
theorem dX1_remove_5 : decode cX1_remove 5 = .ok (.aload_n 0, 1) := by decide +kernel
theorem dX1_remove_6 : decode cX1_remove 6 = .ok (.getfield 15, 3) := by decide +kernel
theorem dX1_remove_9 : decode cX1_remove 9 = .ok (.if_icmp .ge 34, 3) := by decide +kernel
theorem dX1_remove_12 : decode cX1_remove 12 = .ok (.aload_n 0, 1) := by decide +kernel
theorem dX1_remove_13 : decode cX1_remove 13 = .ok (.getfield 9, 3) := by decide +kernel
theorem dX1_remove_16 : decode cX1_remove 16 = .ok (.iload_n 3, 1) := by decide +kernel
theorem dX1_remove_17 : decode cX1_remove 17 = .ok (.iaload, 1) := by decide +kernel
theorem dX1_remove_18 : decode cX1_remove 18 = .ok (.iload_n 1, 1) := by decide +kernel
theorem dX1_remove_19 : decode cX1_remove 19 = .ok (.if_icmp .eq 18, 3) := by decide +kernel
theorem dX1_remove_22 : decode cX1_remove 22 = .ok (.aload_n 0, 1) := by decide +kernel
theorem dX1_remove_23 : decode cX1_remove 23 = .ok (.getfield 9, 3) := by decide +kernel
theorem dX1_remove_26 : decode cX1_remove 26 = .ok (.iload_n 2, 1) := by decide +kernel
theorem dX1_remove_27 : decode cX1_remove 27 = .ok (.aload_n 0, 1) := by decide +kernel
theorem dX1_remove_28 : decode cX1_remove 28 = .ok (.getfield 9, 3) := by decide +kernel
theorem dX1_remove_31 : decode cX1_remove 31 = .ok (.iload_n 3, 1) := by decide +kernel
theorem dX1_remove_32 : decode cX1_remove 32 = .ok (.iaload, 1) := by decide +kernel
theorem dX1_remove_33 : decode cX1_remove 33 = .ok (.iastore, 1) := by decide +kernel
theorem dX1_remove_34 : decode cX1_remove 34 = .ok (.iinc 2 1, 3) := by decide +kernel
theorem dX1_remove_37 : decode cX1_remove 37 = .ok (.iinc 3 1, 3) := by decide +kernel
theorem dX1_remove_40 : decode cX1_remove 40 = .ok (.goto (-36), 3) := by decide +kernel
theorem dX1_remove_43 : decode cX1_remove 43 = .ok (.aload_n 0, 1) := by decide +kernel
theorem dX1_remove_44 : decode cX1_remove 44 = .ok (.iload_n 2, 1) := by decide +kernel
theorem dX1_remove_45 : decode cX1_remove 45 = .ok (.putfield 15, 3) := by decide +kernel
theorem dX1_remove_48 : decode cX1_remove 48 = .ok (.return_, 1) := by decide +kernel
theorem dX1_copyFrom_0 : decode cX1_copyFrom 0 = .ok (.aload_n 0, 1) := by decide +kernel
theorem dX1_copyFrom_1 : decode cX1_copyFrom 1 = .ok (.aload_n 1, 1) := by decide +kernel
theorem dX1_copyFrom_2 : decode cX1_copyFrom 2 = .ok (.getfield 15, 3) := by decide +kernel
theorem dX1_copyFrom_5 : decode cX1_copyFrom 5 = .ok (.putfield 15, 3) := by decide +kernel
theorem dX1_copyFrom_8 : decode cX1_copyFrom 8 = .ok (.aload_n 1, 1) := by decide +kernel
theorem dX1_copyFrom_9 : decode cX1_copyFrom 9 = .ok (.getfield 9, 3) := by decide +kernel
theorem dX1_copyFrom_12 : decode cX1_copyFrom 12 = .ok (.iconst 0, 1) := by decide +kernel
theorem dX1_copyFrom_13 : decode cX1_copyFrom 13 = .ok (.aload_n 0, 1) := by decide +kernel
theorem dX1_copyFrom_14 : decode cX1_copyFrom 14 = .ok (.getfield 9, 3) := by decide +kernel
theorem dX1_copyFrom_17 : decode cX1_copyFrom 17 = .ok (.iconst 0, 1) := by decide +kernel
theorem dX1_copyFrom_18 : decode cX1_copyFrom 18 = .ok (.bipush 12, 2) := by decide +kernel
theorem dX1_copyFrom_20 : decode cX1_copyFrom 20 = .ok (.invokestatic 19, 3) := by decide +kernel
theorem dX1_copyFrom_23 : decode cX1_copyFrom 23 = .ok (.return_, 1) := by decide +kernel
theorem dX2_init_0 : decode cX2_init 0 = .ok (.aload_n 0, 1) := by decide +kernel
theorem dX2_init_1 : decode cX2_init 1 = .ok (.invokespecial 3, 3) := by decide +kernel
theorem dX2_init_4 : decode cX2_init 4 = .ok (.aload_n 0, 1) := by decide +kernel
theorem dX2_init_5 : decode cX2_init 5 = .ok (.sipush 160, 3) := by decide +kernel
theorem dX2_init_8 : decode cX2_init 8 = .ok (.newarray .int, 2) := by decide +kernel
theorem dX2_init_10 : decode cX2_init 10 = .ok (.putfield 11, 3) := by decide +kernel
theorem dX2_init_13 : decode cX2_init 13 = .ok (.aload_n 0, 1) := by decide +kernel
theorem dX2_init_14 : decode cX2_init 14 = .ok (.iconst 0, 1) := by decide +kernel
theorem dX2_init_15 : decode cX2_init 15 = .ok (.putfield 15, 3) := by decide +kernel
theorem dX2_init_18 : decode cX2_init 18 = .ok (.return_, 1) := by decide +kernel
theorem dX2_note_0 : decode cX2_note 0 = .ok (.aload_n 0, 1) := by decide +kernel
theorem dX2_note_1 : decode cX2_note 1 = .ok (.getfield 15, 3) := by decide +kernel
theorem dX2_note_4 : decode cX2_note 4 = .ok (.bipush 40, 2) := by decide +kernel
theorem dX2_note_6 : decode cX2_note 6 = .ok (.irem, 1) := by decide +kernel
theorem dX2_note_7 : decode cX2_note 7 = .ok (.iconst 4, 1) := by decide +kernel
theorem dX2_note_8 : decode cX2_note 8 = .ok (.imul, 1) := by decide +kernel
theorem dX2_note_9 : decode cX2_note 9 = .ok (.istore 5, 2) := by decide +kernel
theorem dX2_note_11 : decode cX2_note 11 = .ok (.aload_n 0, 1) := by decide +kernel
theorem dX2_note_12 : decode cX2_note 12 = .ok (.getfield 11, 3) := by decide +kernel
theorem dX2_note_15 : decode cX2_note 15 = .ok (.iload 5, 2) := by decide +kernel
theorem dX2_note_17 : decode cX2_note 17 = .ok (.iload_n 1, 1) := by decide +kernel
theorem dX2_note_18 : decode cX2_note 18 = .ok (.iastore, 1) := by decide +kernel
theorem dX2_note_19 : decode cX2_note 19 = .ok (.aload_n 0, 1) := by decide +kernel
theorem dX2_note_20 : decode cX2_note 20 = .ok (.getfield 11, 3) := by decide +kernel
theorem dX2_note_23 : decode cX2_note 23 = .ok (.iload 5, 2) := by decide +kernel
theorem dX2_note_25 : decode cX2_note 25 = .ok (.iconst 1, 1) := by decide +kernel
theorem dX2_note_26 : decode cX2_note 26 = .ok (.iadd, 1) := by decide +kernel
theorem dX2_note_27 : decode cX2_note 27 = .ok (.iload_n 2, 1) := by decide +kernel
theorem dX2_note_28 : decode cX2_note 28 = .ok (.iastore, 1) := by decide +kernel
theorem dX2_note_29 : decode cX2_note 29 = .ok (.aload_n 0, 1) := by decide +kernel
theorem dX2_note_30 : decode cX2_note 30 = .ok (.getfield 11, 3) := by decide +kernel
theorem dX2_note_33 : decode cX2_note 33 = .ok (.iload 5, 2) := by decide +kernel
theorem dX2_note_35 : decode cX2_note 35 = .ok (.iconst 2, 1) := by decide +kernel
theorem dX2_note_36 : decode cX2_note 36 = .ok (.iadd, 1) := by decide +kernel
theorem dX2_note_37 : decode cX2_note 37 = .ok (.iload_n 3, 1) := by decide +kernel
theorem dX2_note_38 : decode cX2_note 38 = .ok (.iastore, 1) := by decide +kernel
theorem dX2_note_39 : decode cX2_note 39 = .ok (.aload_n 0, 1) := by decide +kernel
theorem dX2_note_40 : decode cX2_note 40 = .ok (.getfield 11, 3) := by decide +kernel
theorem dX2_note_43 : decode cX2_note 43 = .ok (.iload 5, 2) := by decide +kernel
theorem dX2_note_45 : decode cX2_note 45 = .ok (.iconst 3, 1) := by decide +kernel
theorem dX2_note_46 : decode cX2_note 46 = .ok (.iadd, 1) := by decide +kernel
theorem dX2_note_47 : decode cX2_note 47 = .ok (.iload 4, 2) := by decide +kernel
theorem dX2_note_49 : decode cX2_note 49 = .ok (.iastore, 1) := by decide +kernel
theorem dX2_note_50 : decode cX2_note 50 = .ok (.aload_n 0, 1) := by decide +kernel
theorem dX2_note_51 : decode cX2_note 51 = .ok (.dup, 1) := by decide +kernel
theorem dX2_note_52 : decode cX2_note 52 = .ok (.getfield 15, 3) := by decide +kernel
theorem dX2_note_55 : decode cX2_note 55 = .ok (.iconst 1, 1) := by decide +kernel
theorem dX2_note_56 : decode cX2_note 56 = .ok (.iadd, 1) := by decide +kernel
theorem dX2_note_57 : decode cX2_note 57 = .ok (.putfield 15, 3) := by decide +kernel
theorem dX2_note_60 : decode cX2_note 60 = .ok (.return_, 1) := by decide +kernel
theorem dX2_kept_0 : decode cX2_kept 0 = .ok (.aload_n 0, 1) := by decide +kernel
theorem dX2_kept_1 : decode cX2_kept 1 = .ok (.getfield 15, 3) := by decide +kernel
theorem dX2_kept_4 : decode cX2_kept 4 = .ok (.bipush 40, 2) := by decide +kernel
