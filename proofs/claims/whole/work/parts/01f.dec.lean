theorem dX7_collapse_48 : decode cX7_collapse 48 = .ok (.bipush 24, 2) := by decide +kernel
theorem dX7_collapse_50 : decode cX7_collapse 50 = .ok (.iload_n 1, 1) := by decide +kernel
theorem dX7_collapse_51 : decode cX7_collapse 51 = .ok (.iadd, 1) := by decide +kernel
theorem dX7_collapse_52 : decode cX7_collapse 52 = .ok (.aload_n 0, 1) := by decide +kernel
theorem dX7_collapse_53 : decode cX7_collapse 53 = .ok (.getfield 7, 3) := by decide +kernel
theorem dX7_collapse_56 : decode cX7_collapse 56 = .ok (.bipush 103, 2) := by decide +kernel
theorem dX7_collapse_58 : decode cX7_collapse 58 = .ok (.iaload, 1) := by decide +kernel
theorem dX7_collapse_59 : decode cX7_collapse 59 = .ok (.iastore, 1) := by decide +kernel
theorem dX7_collapse_60 : decode cX7_collapse 60 = .ok (.aload_n 0, 1) := by decide +kernel
theorem dX7_collapse_61 : decode cX7_collapse 61 = .ok (.getfield 7, 3) := by decide +kernel
theorem dX7_collapse_64 : decode cX7_collapse 64 = .ok (.bipush 36, 2) := by decide +kernel
theorem dX7_collapse_66 : decode cX7_collapse 66 = .ok (.iload_n 1, 1) := by decide +kernel
theorem dX7_collapse_67 : decode cX7_collapse 67 = .ok (.iadd, 1) := by decide +kernel
theorem dX7_collapse_68 : decode cX7_collapse 68 = .ok (.iconst 0, 1) := by decide +kernel
theorem dX7_collapse_69 : decode cX7_collapse 69 = .ok (.iastore, 1) := by decide +kernel
theorem dX7_collapse_70 : decode cX7_collapse 70 = .ok (.iload_n 2, 1) := by decide +kernel
theorem dX7_collapse_71 : decode cX7_collapse 71 = .ok (.ireturn, 1) := by decide +kernel
theorem dX7_pass_0 : decode cX7_pass 0 = .ok (.iload_n 1, 1) := by decide +kernel
theorem dX7_pass_1 : decode cX7_pass 1 = .ok (.iconst 1, 1) := by decide +kernel
theorem dX7_pass_2 : decode cX7_pass 2 = .ok (.sipush 999, 3) := by decide +kernel
theorem dX7_pass_5 : decode cX7_pass 5 = .ok (.invokestatic 39, 3) := by decide +kernel
theorem dX7_pass_8 : decode cX7_pass 8 = .ok (.ifCond .ne 6, 3) := by decide +kernel
theorem dX7_pass_11 : decode cX7_pass 11 = .ok (.bipush (-2), 2) := by decide +kernel
theorem dX7_pass_13 : decode cX7_pass 13 = .ok (.ireturn, 1) := by decide +kernel
theorem dX7_pass_14 : decode cX7_pass 14 = .ok (.iload_n 1, 1) := by decide +kernel
theorem dX7_pass_15 : decode cX7_pass 15 = .ok (.sipush 20000, 3) := by decide +kernel
theorem dX7_pass_18 : decode cX7_pass 18 = .ok (.aload_n 0, 1) := by decide +kernel
theorem dX7_pass_19 : decode cX7_pass 19 = .ok (.getfield 7, 3) := by decide +kernel
theorem dX7_pass_22 : decode cX7_pass 22 = .ok (.bipush 103, 2) := by decide +kernel
theorem dX7_pass_24 : decode cX7_pass 24 = .ok (.iaload, 1) := by decide +kernel
theorem dX7_pass_25 : decode cX7_pass 25 = .ok (.isub, 1) := by decide +kernel
theorem dX7_pass_26 : decode cX7_pass 26 = .ok (.if_icmp .le 6, 3) := by decide +kernel
theorem dX7_pass_29 : decode cX7_pass 29 = .ok (.bipush (-4), 2) := by decide +kernel
theorem dX7_pass_31 : decode cX7_pass 31 = .ok (.ireturn, 1) := by decide +kernel
theorem dX7_pass_32 : decode cX7_pass 32 = .ok (.iconst 0, 1) := by decide +kernel
theorem dX7_pass_33 : decode cX7_pass 33 = .ok (.istore_n 2, 1) := by decide +kernel
theorem dX7_pass_34 : decode cX7_pass 34 = .ok (.iload_n 2, 1) := by decide +kernel
theorem dX7_pass_35 : decode cX7_pass 35 = .ok (.iload_n 1, 1) := by decide +kernel
theorem dX7_pass_36 : decode cX7_pass 36 = .ok (.if_icmp .ge 13, 3) := by decide +kernel
theorem dX7_pass_39 : decode cX7_pass 39 = .ok (.aload_n 0, 1) := by decide +kernel
theorem dX7_pass_40 : decode cX7_pass 40 = .ok (.invokevirtual 94, 3) := by decide +kernel
theorem dX7_pass_43 : decode cX7_pass 43 = .ok (.iinc 2 1, 3) := by decide +kernel
theorem dX7_pass_46 : decode cX7_pass 46 = .ok (.goto (-12), 3) := by decide +kernel
theorem dX7_pass_49 : decode cX7_pass 49 = .ok (.aload_n 0, 1) := by decide +kernel
theorem dX7_pass_50 : decode cX7_pass 50 = .ok (.getfield 7, 3) := by decide +kernel
theorem dX7_pass_53 : decode cX7_pass 53 = .ok (.bipush 103, 2) := by decide +kernel
theorem dX7_pass_55 : decode cX7_pass 55 = .ok (.iaload, 1) := by decide +kernel
theorem dX7_pass_56 : decode cX7_pass 56 = .ok (.ireturn, 1) := by decide +kernel
theorem dX7_member_0 : decode cX7_member 0 = .ok (.iload_n 1, 1) := by decide +kernel
theorem dX7_member_1 : decode cX7_member 1 = .ok (.invokestatic 91, 3) := by decide +kernel
theorem dX7_member_4 : decode cX7_member 4 = .ok (.ifCond .eq 12, 3) := by decide +kernel
theorem dX7_member_7 : decode cX7_member 7 = .ok (.iload_n 2, 1) := by decide +kernel
theorem dX7_member_8 : decode cX7_member 8 = .ok (.iconst 0, 1) := by decide +kernel
theorem dX7_member_9 : decode cX7_member 9 = .ok (.iconst 4, 1) := by decide +kernel
theorem dX7_member_10 : decode cX7_member 10 = .ok (.invokestatic 39, 3) := by decide +kernel
theorem dX7_member_13 : decode cX7_member 13 = .ok (.ifCond .ne 6, 3) := by decide +kernel
theorem dX7_member_16 : decode cX7_member 16 = .ok (.bipush (-2), 2) := by decide +kernel
theorem dX7_member_18 : decode cX7_member 18 = .ok (.ireturn, 1) := by decide +kernel
theorem dX7_member_19 : decode cX7_member 19 = .ok (.iload_n 2, 1) := by decide +kernel
theorem dX7_member_20 : decode cX7_member 20 = .ok (.tableswitch 71 0 3 #[32, 41, 51, 61], 32) := by decide +kernel
theorem dX7_member_52 : decode cX7_member 52 = .ok (.aload_n 0, 1) := by decide +kernel
theorem dX7_member_53 : decode cX7_member 53 = .ok (.getfield 7, 3) := by decide +kernel
theorem dX7_member_56 : decode cX7_member 56 = .ok (.iconst 0, 1) := by decide +kernel
theorem dX7_member_57 : decode cX7_member 57 = .ok (.iload_n 1, 1) := by decide +kernel
theorem dX7_member_58 : decode cX7_member 58 = .ok (.iadd, 1) := by decide +kernel
theorem dX7_member_59 : decode cX7_member 59 = .ok (.iaload, 1) := by decide +kernel
theorem dX7_member_60 : decode cX7_member 60 = .ok (.ireturn, 1) := by decide +kernel
theorem dX7_member_61 : decode cX7_member 61 = .ok (.aload_n 0, 1) := by decide +kernel
theorem dX7_member_62 : decode cX7_member 62 = .ok (.getfield 7, 3) := by decide +kernel
theorem dX7_member_65 : decode cX7_member 65 = .ok (.bipush 12, 2) := by decide +kernel
theorem dX7_member_67 : decode cX7_member 67 = .ok (.iload_n 1, 1) := by decide +kernel
theorem dX7_member_68 : decode cX7_member 68 = .ok (.iadd, 1) := by decide +kernel
theorem dX7_member_69 : decode cX7_member 69 = .ok (.iaload, 1) := by decide +kernel
theorem dX7_member_70 : decode cX7_member 70 = .ok (.ireturn, 1) := by decide +kernel
theorem dX7_member_71 : decode cX7_member 71 = .ok (.aload_n 0, 1) := by decide +kernel
theorem dX7_member_72 : decode cX7_member 72 = .ok (.getfield 7, 3) := by decide +kernel
theorem dX7_member_75 : decode cX7_member 75 = .ok (.bipush 24, 2) := by decide +kernel
theorem dX7_member_77 : decode cX7_member 77 = .ok (.iload_n 1, 1) := by decide +kernel
theorem dX7_member_78 : decode cX7_member 78 = .ok (.iadd, 1) := by decide +kernel
theorem dX7_member_79 : decode cX7_member 79 = .ok (.iaload, 1) := by decide +kernel
theorem dX7_member_80 : decode cX7_member 80 = .ok (.ireturn, 1) := by decide +kernel
theorem dX7_member_81 : decode cX7_member 81 = .ok (.aload_n 0, 1) := by decide +kernel
theorem dX7_member_82 : decode cX7_member 82 = .ok (.getfield 7, 3) := by decide +kernel
theorem dX7_member_85 : decode cX7_member 85 = .ok (.bipush 36, 2) := by decide +kernel
theorem dX7_member_87 : decode cX7_member 87 = .ok (.iload_n 1, 1) := by decide +kernel
theorem dX7_member_88 : decode cX7_member 88 = .ok (.iadd, 1) := by decide +kernel
theorem dX7_member_89 : decode cX7_member 89 = .ok (.iaload, 1) := by decide +kernel
theorem dX7_member_90 : decode cX7_member 90 = .ok (.ireturn, 1) := by decide +kernel
theorem dX7_member_91 : decode cX7_member 91 = .ok (.aload_n 0, 1) := by decide +kernel
theorem dX7_member_92 : decode cX7_member 92 = .ok (.getfield 7, 3) := by decide +kernel
theorem dX7_member_95 : decode cX7_member 95 = .ok (.iconst 0, 1) := by decide +kernel
theorem dX7_member_96 : decode cX7_member 96 = .ok (.iload_n 1, 1) := by decide +kernel
theorem dX7_member_97 : decode cX7_member 97 = .ok (.iadd, 1) := by decide +kernel
theorem dX7_member_98 : decode cX7_member 98 = .ok (.iaload, 1) := by decide +kernel
theorem dX7_member_99 : decode cX7_member 99 = .ok (.iconst 1, 1) := by decide +kernel
theorem dX7_member_100 : decode cX7_member 100 = .ok (.if_icmp .ne 11, 3) := by decide +kernel
theorem dX7_member_103 : decode cX7_member 103 = .ok (.aload_n 0, 1) := by decide +kernel
theorem dX7_member_104 : decode cX7_member 104 = .ok (.iload_n 1, 1) := by decide +kernel
theorem dX7_member_105 : decode cX7_member 105 = .ok (.invokevirtual 43, 3) := by decide +kernel
theorem dX7_member_108 : decode cX7_member 108 = .ok (.goto 4, 3) := by decide +kernel
theorem dX7_member_111 : decode cX7_member 111 = .ok (.iconst (-1), 1) := by decide +kernel
theorem dX7_member_112 : decode cX7_member 112 = .ok (.ireturn, 1) := by decide +kernel
theorem dX7_room_0 : decode cX7_room 0 = .ok (.iload_n 1, 1) := by decide +kernel
theorem dX7_room_1 : decode cX7_room 1 = .ok (.invokestatic 88, 3) := by decide +kernel
theorem dX7_room_4 : decode cX7_room 4 = .ok (.ifCond .eq 13, 3) := by decide +kernel
theorem dX7_room_7 : decode cX7_room 7 = .ok (.iload_n 2, 1) := by decide +kernel
theorem dX7_room_8 : decode cX7_room 8 = .ok (.iconst 0, 1) := by decide +kernel
theorem dX7_room_9 : decode cX7_room 9 = .ok (.bipush 9, 2) := by decide +kernel
theorem dX7_room_11 : decode cX7_room 11 = .ok (.invokestatic 39, 3) := by decide +kernel
theorem dX7_room_14 : decode cX7_room 14 = .ok (.ifCond .ne 6, 3) := by decide +kernel
theorem dX7_room_17 : decode cX7_room 17 = .ok (.bipush (-2), 2) := by decide +kernel
theorem dX7_room_19 : decode cX7_room 19 = .ok (.ireturn, 1) := by decide +kernel
theorem dX7_room_20 : decode cX7_room 20 = .ok (.iload_n 2, 1) := by decide +kernel
theorem dX7_room_21 : decode cX7_room 21 = .ok (.tableswitch 61 0 4 #[35, 35, 35, 49, 55], 35) := by decide +kernel
theorem dX7_room_56 : decode cX7_room 56 = .ok (.aload_n 0, 1) := by decide +kernel
theorem dX7_room_57 : decode cX7_room 57 = .ok (.getfield 7, 3) := by decide +kernel
theorem dX7_room_60 : decode cX7_room 60 = .ok (.bipush 60, 2) := by decide +kernel
theorem dX7_room_62 : decode cX7_room 62 = .ok (.iconst 5, 1) := by decide +kernel
theorem dX7_room_63 : decode cX7_room 63 = .ok (.iload_n 2, 1) := by decide +kernel
theorem dX7_room_64 : decode cX7_room 64 = .ok (.imul, 1) := by decide +kernel
theorem dX7_room_65 : decode cX7_room 65 = .ok (.iadd, 1) := by decide +kernel
theorem dX7_room_66 : decode cX7_room 66 = .ok (.iload_n 1, 1) := by decide +kernel
theorem dX7_room_67 : decode cX7_room 67 = .ok (.iadd, 1) := by decide +kernel
theorem dX7_room_68 : decode cX7_room 68 = .ok (.iaload, 1) := by decide +kernel
theorem dX7_room_69 : decode cX7_room 69 = .ok (.ireturn, 1) := by decide +kernel
theorem dX7_room_70 : decode cX7_room 70 = .ok (.aload_n 0, 1) := by decide +kernel
theorem dX7_room_71 : decode cX7_room 71 = .ok (.iload_n 1, 1) := by decide +kernel
theorem dX7_room_72 : decode cX7_room 72 = .ok (.invokevirtual 75, 3) := by decide +kernel
theorem dX7_room_75 : decode cX7_room 75 = .ok (.ireturn, 1) := by decide +kernel
theorem dX7_room_76 : decode cX7_room 76 = .ok (.aload_n 0, 1) := by decide +kernel
theorem dX7_room_77 : decode cX7_room 77 = .ok (.iload_n 1, 1) := by decide +kernel
theorem dX7_room_78 : decode cX7_room 78 = .ok (.invokevirtual 51, 3) := by decide +kernel
theorem dX7_room_81 : decode cX7_room 81 = .ok (.ireturn, 1) := by decide +kernel
theorem dX7_room_82 : decode cX7_room 82 = .ok (.aload_n 0, 1) := by decide +kernel
theorem dX7_room_83 : decode cX7_room 83 = .ok (.getfield 7, 3) := by decide +kernel
theorem dX7_room_86 : decode cX7_room 86 = .ok (.bipush 75, 2) := by decide +kernel
theorem dX7_room_88 : decode cX7_room 88 = .ok (.iconst 5, 1) := by decide +kernel
theorem dX7_room_89 : decode cX7_room 89 = .ok (.iload_n 2, 1) := by decide +kernel
theorem dX7_room_90 : decode cX7_room 90 = .ok (.iconst 5, 1) := by decide +kernel
theorem dX7_room_91 : decode cX7_room 91 = .ok (.isub, 1) := by decide +kernel
theorem dX7_room_92 : decode cX7_room 92 = .ok (.imul, 1) := by decide +kernel
theorem dX7_room_93 : decode cX7_room 93 = .ok (.iadd, 1) := by decide +kernel
theorem dX7_room_94 : decode cX7_room 94 = .ok (.iload_n 1, 1) := by decide +kernel
theorem dX7_room_95 : decode cX7_room 95 = .ok (.iadd, 1) := by decide +kernel
theorem dX7_room_96 : decode cX7_room 96 = .ok (.iaload, 1) := by decide +kernel
theorem dX7_room_97 : decode cX7_room 97 = .ok (.ireturn, 1) := by decide +kernel
theorem dX7_queue_0 : decode cX7_queue 0 = .ok (.iload_n 1, 1) := by decide +kernel
theorem dX7_queue_1 : decode cX7_queue 1 = .ok (.invokestatic 88, 3) := by decide +kernel
theorem dX7_queue_4 : decode cX7_queue 4 = .ok (.ifCond .eq 16, 3) := by decide +kernel
theorem dX7_queue_7 : decode cX7_queue 7 = .ok (.iload_n 2, 1) := by decide +kernel
theorem dX7_queue_8 : decode cX7_queue 8 = .ok (.ifCond .lt 12, 3) := by decide +kernel
theorem dX7_queue_11 : decode cX7_queue 11 = .ok (.aload_n 0, 1) := by decide +kernel
theorem dX7_queue_12 : decode cX7_queue 12 = .ok (.iload_n 1, 1) := by decide +kernel
theorem dX7_queue_13 : decode cX7_queue 13 = .ok (.iload_n 2, 1) := by decide +kernel
theorem dX7_queue_14 : decode cX7_queue 14 = .ok (.invokevirtual 54, 3) := by decide +kernel
theorem dX7_queue_17 : decode cX7_queue 17 = .ok (.goto 5, 3) := by decide +kernel
theorem dX7_queue_20 : decode cX7_queue 20 = .ok (.bipush (-2), 2) := by decide +kernel
theorem dX7_queue_22 : decode cX7_queue 22 = .ok (.ireturn, 1) := by decide +kernel
theorem dX7_event_0 : decode cX7_event 0 = .ok (.iload_n 1, 1) := by decide +kernel
theorem dX7_event_1 : decode cX7_event 1 = .ok (.ifCond .lt 12, 3) := by decide +kernel
theorem dX7_event_4 : decode cX7_event 4 = .ok (.iload_n 2, 1) := by decide +kernel
theorem dX7_event_5 : decode cX7_event 5 = .ok (.iconst 0, 1) := by decide +kernel
theorem dX7_event_6 : decode cX7_event 6 = .ok (.iconst 3, 1) := by decide +kernel
theorem dX7_event_7 : decode cX7_event 7 = .ok (.invokestatic 39, 3) := by decide +kernel
theorem dX7_event_10 : decode cX7_event 10 = .ok (.ifCond .ne 6, 3) := by decide +kernel
theorem dX7_event_13 : decode cX7_event 13 = .ok (.bipush (-2), 2) := by decide +kernel
theorem dX7_event_15 : decode cX7_event 15 = .ok (.ireturn, 1) := by decide +kernel
theorem dX7_event_16 : decode cX7_event 16 = .ok (.iload_n 1, 1) := by decide +kernel
theorem dX7_event_17 : decode cX7_event 17 = .ok (.aload_n 0, 1) := by decide +kernel
theorem dX7_event_18 : decode cX7_event 18 = .ok (.getfield 7, 3) := by decide +kernel
theorem dX7_event_21 : decode cX7_event 21 = .ok (.bipush 108, 2) := by decide +kernel
theorem dX7_event_23 : decode cX7_event 23 = .ok (.iaload, 1) := by decide +kernel
theorem dX7_event_24 : decode cX7_event 24 = .ok (.if_icmp .ge 19, 3) := by decide +kernel
theorem dX7_event_27 : decode cX7_event 27 = .ok (.aload_n 0, 1) := by decide +kernel
theorem dX7_event_28 : decode cX7_event 28 = .ok (.getfield 7, 3) := by decide +kernel
theorem dX7_event_31 : decode cX7_event 31 = .ok (.bipush 111, 2) := by decide +kernel
theorem dX7_event_33 : decode cX7_event 33 = .ok (.iconst 4, 1) := by decide +kernel
theorem dX7_event_34 : decode cX7_event 34 = .ok (.iload_n 1, 1) := by decide +kernel
theorem dX7_event_35 : decode cX7_event 35 = .ok (.imul, 1) := by decide +kernel
theorem dX7_event_36 : decode cX7_event 36 = .ok (.iadd, 1) := by decide +kernel
theorem dX7_event_37 : decode cX7_event 37 = .ok (.iload_n 2, 1) := by decide +kernel
theorem dX7_event_38 : decode cX7_event 38 = .ok (.iadd, 1) := by decide +kernel
theorem dX7_event_39 : decode cX7_event 39 = .ok (.iaload, 1) := by decide +kernel
theorem dX7_event_40 : decode cX7_event 40 = .ok (.goto 4, 3) := by decide +kernel
theorem dX7_event_43 : decode cX7_event 43 = .ok (.iconst (-1), 1) := by decide +kernel
theorem dX7_event_44 : decode cX7_event 44 = .ok (.ireturn, 1) := by decide +kernel
theorem dX7_unfairness_0 : decode cX7_unfairness 0 = .ok (.iconst 0, 1) := by decide +kernel
theorem dX7_unfairness_1 : decode cX7_unfairness 1 = .ok (.istore_n 1, 1) := by decide +kernel
theorem dX7_unfairness_2 : decode cX7_unfairness 2 = .ok (.iconst 0, 1) := by decide +kernel
theorem dX7_unfairness_3 : decode cX7_unfairness 3 = .ok (.istore_n 2, 1) := by decide +kernel
theorem dX7_unfairness_4 : decode cX7_unfairness 4 = .ok (.iconst 0, 1) := by decide +kernel
theorem dX7_unfairness_5 : decode cX7_unfairness 5 = .ok (.istore_n 3, 1) := by decide +kernel
theorem dX7_unfairness_6 : decode cX7_unfairness 6 = .ok (.iconst 0, 1) := by decide +kernel
theorem dX7_unfairness_7 : decode cX7_unfairness 7 = .ok (.istore 4, 2) := by decide +kernel
theorem dX7_unfairness_9 : decode cX7_unfairness 9 = .ok (.iload 4, 2) := by decide +kernel
theorem dX7_unfairness_11 : decode cX7_unfairness 11 = .ok (.iconst 5, 1) := by decide +kernel
theorem dX7_unfairness_12 : decode cX7_unfairness 12 = .ok (.if_icmp .ge 86, 3) := by decide +kernel
theorem dX7_unfairness_15 : decode cX7_unfairness 15 = .ok (.aload_n 0, 1) := by decide +kernel
theorem dX7_unfairness_16 : decode cX7_unfairness 16 = .ok (.getfield 7, 3) := by decide +kernel
theorem dX7_unfairness_19 : decode cX7_unfairness 19 = .ok (.bipush 75, 2) := by decide +kernel
theorem dX7_unfairness_21 : decode cX7_unfairness 21 = .ok (.iload 4, 2) := by decide +kernel
theorem dX7_unfairness_23 : decode cX7_unfairness 23 = .ok (.iadd, 1) := by decide +kernel
theorem dX7_unfairness_24 : decode cX7_unfairness 24 = .ok (.iaload, 1) := by decide +kernel
theorem dX7_unfairness_25 : decode cX7_unfairness 25 = .ok (.ifCond .le 67, 3) := by decide +kernel
theorem dX7_unfairness_28 : decode cX7_unfairness 28 = .ok (.aload_n 0, 1) := by decide +kernel
theorem dX7_unfairness_29 : decode cX7_unfairness 29 = .ok (.getfield 7, 3) := by decide +kernel
theorem dX7_unfairness_32 : decode cX7_unfairness 32 = .ok (.bipush 85, 2) := by decide +kernel
theorem dX7_unfairness_34 : decode cX7_unfairness 34 = .ok (.iload 4, 2) := by decide +kernel
theorem dX7_unfairness_36 : decode cX7_unfairness 36 = .ok (.iadd, 1) := by decide +kernel
theorem dX7_unfairness_37 : decode cX7_unfairness 37 = .ok (.iaload, 1) := by decide +kernel
theorem dX7_unfairness_38 : decode cX7_unfairness 38 = .ok (.sipush 2520, 3) := by decide +kernel
theorem dX7_unfairness_41 : decode cX7_unfairness 41 = .ok (.imul, 1) := by decide +kernel
theorem dX7_unfairness_42 : decode cX7_unfairness 42 = .ok (.aload_n 0, 1) := by decide +kernel
theorem dX7_unfairness_43 : decode cX7_unfairness 43 = .ok (.getfield 7, 3) := by decide +kernel
theorem dX7_unfairness_46 : decode cX7_unfairness 46 = .ok (.bipush 65, 2) := by decide +kernel
theorem dX7_unfairness_48 : decode cX7_unfairness 48 = .ok (.iload 4, 2) := by decide +kernel
theorem dX7_unfairness_50 : decode cX7_unfairness 50 = .ok (.iadd, 1) := by decide +kernel
theorem dX7_unfairness_51 : decode cX7_unfairness 51 = .ok (.iaload, 1) := by decide +kernel
theorem dX7_unfairness_52 : decode cX7_unfairness 52 = .ok (.idiv, 1) := by decide +kernel
theorem dX7_unfairness_53 : decode cX7_unfairness 53 = .ok (.istore 5, 2) := by decide +kernel
theorem dX7_unfairness_55 : decode cX7_unfairness 55 = .ok (.iload_n 1, 1) := by decide +kernel
theorem dX7_unfairness_56 : decode cX7_unfairness 56 = .ok (.ifCond .eq 9, 3) := by decide +kernel
theorem dX7_unfairness_59 : decode cX7_unfairness 59 = .ok (.iload 5, 2) := by decide +kernel
theorem dX7_unfairness_61 : decode cX7_unfairness 61 = .ok (.iload_n 2, 1) := by decide +kernel
theorem dX7_unfairness_62 : decode cX7_unfairness 62 = .ok (.if_icmp .ge 8, 3) := by decide +kernel
theorem dX7_unfairness_65 : decode cX7_unfairness 65 = .ok (.iload 5, 2) := by decide +kernel
theorem dX7_unfairness_67 : decode cX7_unfairness 67 = .ok (.goto 4, 3) := by decide +kernel
theorem dX7_unfairness_70 : decode cX7_unfairness 70 = .ok (.iload_n 2, 1) := by decide +kernel
theorem dX7_unfairness_71 : decode cX7_unfairness 71 = .ok (.istore_n 2, 1) := by decide +kernel
theorem dX7_unfairness_72 : decode cX7_unfairness 72 = .ok (.iload_n 1, 1) := by decide +kernel
theorem dX7_unfairness_73 : decode cX7_unfairness 73 = .ok (.ifCond .eq 9, 3) := by decide +kernel
theorem dX7_unfairness_76 : decode cX7_unfairness 76 = .ok (.iload 5, 2) := by decide +kernel
theorem dX7_unfairness_78 : decode cX7_unfairness 78 = .ok (.iload_n 3, 1) := by decide +kernel
theorem dX7_unfairness_79 : decode cX7_unfairness 79 = .ok (.if_icmp .le 8, 3) := by decide +kernel
theorem dX7_unfairness_82 : decode cX7_unfairness 82 = .ok (.iload 5, 2) := by decide +kernel
theorem dX7_unfairness_84 : decode cX7_unfairness 84 = .ok (.goto 4, 3) := by decide +kernel
theorem dX7_unfairness_87 : decode cX7_unfairness 87 = .ok (.iload_n 3, 1) := by decide +kernel
theorem dX7_unfairness_88 : decode cX7_unfairness 88 = .ok (.istore_n 3, 1) := by decide +kernel
theorem dX7_unfairness_89 : decode cX7_unfairness 89 = .ok (.iinc 1 1, 3) := by decide +kernel
theorem dX7_unfairness_92 : decode cX7_unfairness 92 = .ok (.iinc 4 1, 3) := by decide +kernel
theorem dX7_unfairness_95 : decode cX7_unfairness 95 = .ok (.goto (-86), 3) := by decide +kernel
theorem dX7_unfairness_98 : decode cX7_unfairness 98 = .ok (.iload_n 3, 1) := by decide +kernel
theorem dX7_unfairness_99 : decode cX7_unfairness 99 = .ok (.iload_n 2, 1) := by decide +kernel
theorem dX7_unfairness_100 : decode cX7_unfairness 100 = .ok (.isub, 1) := by decide +kernel
theorem dX7_unfairness_101 : decode cX7_unfairness 101 = .ok (.ireturn, 1) := by decide +kernel
theorem dX7_keeps_0 : decode cX7_keeps 0 = .ok (.iconst 0, 1) := by decide +kernel
theorem dX7_keeps_1 : decode cX7_keeps 1 = .ok (.istore_n 1, 1) := by decide +kernel
theorem dX7_keeps_2 : decode cX7_keeps 2 = .ok (.iload_n 1, 1) := by decide +kernel
theorem dX7_keeps_3 : decode cX7_keeps 3 = .ok (.sipush 271, 3) := by decide +kernel
theorem dX7_keeps_6 : decode cX7_keeps 6 = .ok (.if_icmp .ge 21, 3) := by decide +kernel
theorem dX7_keeps_9 : decode cX7_keeps 9 = .ok (.aload_n 0, 1) := by decide +kernel
theorem dX7_keeps_10 : decode cX7_keeps 10 = .ok (.getfield 13, 3) := by decide +kernel
theorem dX7_keeps_13 : decode cX7_keeps 13 = .ok (.iload_n 1, 1) := by decide +kernel
theorem dX7_keeps_14 : decode cX7_keeps 14 = .ok (.aload_n 0, 1) := by decide +kernel
theorem dX7_keeps_15 : decode cX7_keeps 15 = .ok (.getfield 7, 3) := by decide +kernel
theorem dX7_keeps_18 : decode cX7_keeps 18 = .ok (.iload_n 1, 1) := by decide +kernel
theorem dX7_keeps_19 : decode cX7_keeps 19 = .ok (.iaload, 1) := by decide +kernel
theorem dX7_keeps_20 : decode cX7_keeps 20 = .ok (.iastore, 1) := by decide +kernel
theorem dX7_keeps_21 : decode cX7_keeps 21 = .ok (.iinc 1 1, 3) := by decide +kernel
theorem dX7_keeps_24 : decode cX7_keeps 24 = .ok (.goto (-22), 3) := by decide +kernel
theorem dX7_keeps_27 : decode cX7_keeps 27 = .ok (.return_, 1) := by decide +kernel
theorem dX7_returns_0 : decode cX7_returns 0 = .ok (.iconst 0, 1) := by decide +kernel
theorem dX7_returns_1 : decode cX7_returns 1 = .ok (.istore_n 1, 1) := by decide +kernel
theorem dX7_returns_2 : decode cX7_returns 2 = .ok (.iload_n 1, 1) := by decide +kernel
theorem dX7_returns_3 : decode cX7_returns 3 = .ok (.sipush 271, 3) := by decide +kernel
theorem dX7_returns_6 : decode cX7_returns 6 = .ok (.if_icmp .ge 21, 3) := by decide +kernel
theorem dX7_returns_9 : decode cX7_returns 9 = .ok (.aload_n 0, 1) := by decide +kernel
theorem dX7_returns_10 : decode cX7_returns 10 = .ok (.getfield 7, 3) := by decide +kernel
theorem dX7_returns_13 : decode cX7_returns 13 = .ok (.iload_n 1, 1) := by decide +kernel
theorem dX7_returns_14 : decode cX7_returns 14 = .ok (.aload_n 0, 1) := by decide +kernel
theorem dX7_returns_15 : decode cX7_returns 15 = .ok (.getfield 13, 3) := by decide +kernel
theorem dX7_returns_18 : decode cX7_returns 18 = .ok (.iload_n 1, 1) := by decide +kernel
theorem dX7_returns_19 : decode cX7_returns 19 = .ok (.iaload, 1) := by decide +kernel
theorem dX7_returns_20 : decode cX7_returns 20 = .ok (.iastore, 1) := by decide +kernel
theorem dX7_returns_21 : decode cX7_returns 21 = .ok (.iinc 1 1, 3) := by decide +kernel
theorem dX7_returns_24 : decode cX7_returns 24 = .ok (.goto (-22), 3) := by decide +kernel
theorem dX7_returns_27 : decode cX7_returns 27 = .ok (.return_, 1) := by decide +kernel
theorem dX7_entersIn_0 : decode cX7_entersIn 0 = .ok (.aload_n 0, 1) := by decide +kernel
theorem dX7_entersIn_1 : decode cX7_entersIn 1 = .ok (.invokevirtual 97, 3) := by decide +kernel
theorem dX7_entersIn_4 : decode cX7_entersIn 4 = .ok (.aload_n 0, 1) := by decide +kernel
theorem dX7_entersIn_5 : decode cX7_entersIn 5 = .ok (.getfield 7, 3) := by decide +kernel
theorem dX7_entersIn_8 : decode cX7_entersIn 8 = .ok (.bipush 101, 2) := by decide +kernel
theorem dX7_entersIn_10 : decode cX7_entersIn 10 = .ok (.iload_n 2, 1) := by decide +kernel
theorem dX7_entersIn_11 : decode cX7_entersIn 11 = .ok (.iastore, 1) := by decide +kernel
theorem dX7_entersIn_12 : decode cX7_entersIn 12 = .ok (.iconst 0, 1) := by decide +kernel
theorem dX7_entersIn_13 : decode cX7_entersIn 13 = .ok (.istore_n 3, 1) := by decide +kernel
theorem dX7_entersIn_14 : decode cX7_entersIn 14 = .ok (.iload_n 3, 1) := by decide +kernel
theorem dX7_entersIn_15 : decode cX7_entersIn 15 = .ok (.sipush 500, 3) := by decide +kernel
theorem dX7_entersIn_18 : decode cX7_entersIn 18 = .ok (.if_icmp .ge 25, 3) := by decide +kernel
theorem dX7_entersIn_21 : decode cX7_entersIn 21 = .ok (.aload_n 0, 1) := by decide +kernel
theorem dX7_entersIn_22 : decode cX7_entersIn 22 = .ok (.getfield 7, 3) := by decide +kernel
theorem dX7_entersIn_25 : decode cX7_entersIn 25 = .ok (.iconst 0, 1) := by decide +kernel
theorem dX7_entersIn_26 : decode cX7_entersIn 26 = .ok (.iload_n 1, 1) := by decide +kernel
theorem dX7_entersIn_27 : decode cX7_entersIn 27 = .ok (.iadd, 1) := by decide +kernel
theorem dX7_entersIn_28 : decode cX7_entersIn 28 = .ok (.iaload, 1) := by decide +kernel
theorem dX7_entersIn_29 : decode cX7_entersIn 29 = .ok (.iconst 1, 1) := by decide +kernel
theorem dX7_entersIn_30 : decode cX7_entersIn 30 = .ok (.if_icmp .ne 13, 3) := by decide +kernel
theorem dX7_entersIn_33 : decode cX7_entersIn 33 = .ok (.aload_n 0, 1) := by decide +kernel
theorem dX7_entersIn_34 : decode cX7_entersIn 34 = .ok (.invokevirtual 94, 3) := by decide +kernel
theorem dX7_entersIn_37 : decode cX7_entersIn 37 = .ok (.iinc 3 1, 3) := by decide +kernel
theorem dX7_entersIn_40 : decode cX7_entersIn 40 = .ok (.goto (-26), 3) := by decide +kernel
theorem dX7_entersIn_43 : decode cX7_entersIn 43 = .ok (.aload_n 0, 1) := by decide +kernel
theorem dX7_entersIn_44 : decode cX7_entersIn 44 = .ok (.getfield 7, 3) := by decide +kernel
theorem dX7_entersIn_47 : decode cX7_entersIn 47 = .ok (.iconst 0, 1) := by decide +kernel
theorem dX7_entersIn_48 : decode cX7_entersIn 48 = .ok (.iload_n 1, 1) := by decide +kernel
theorem dX7_entersIn_49 : decode cX7_entersIn 49 = .ok (.iadd, 1) := by decide +kernel
theorem dX7_entersIn_50 : decode cX7_entersIn 50 = .ok (.iaload, 1) := by decide +kernel
theorem dX7_entersIn_51 : decode cX7_entersIn 51 = .ok (.iconst 1, 1) := by decide +kernel
theorem dX7_entersIn_52 : decode cX7_entersIn 52 = .ok (.if_icmp .eq 7, 3) := by decide +kernel
theorem dX7_entersIn_55 : decode cX7_entersIn 55 = .ok (.iconst 1, 1) := by decide +kernel
theorem dX7_entersIn_56 : decode cX7_entersIn 56 = .ok (.goto 4, 3) := by decide +kernel
theorem dX7_entersIn_59 : decode cX7_entersIn 59 = .ok (.iconst 0, 1) := by decide +kernel
theorem dX7_entersIn_60 : decode cX7_entersIn 60 = .ok (.istore 4, 2) := by decide +kernel
theorem dX7_entersIn_62 : decode cX7_entersIn 62 = .ok (.aload_n 0, 1) := by decide +kernel
theorem dX7_entersIn_63 : decode cX7_entersIn 63 = .ok (.invokevirtual 100, 3) := by decide +kernel
theorem dX7_entersIn_66 : decode cX7_entersIn 66 = .ok (.iload 4, 2) := by decide +kernel
theorem dX7_entersIn_68 : decode cX7_entersIn 68 = .ok (.ifCond .eq 7, 3) := by decide +kernel
theorem dX7_entersIn_71 : decode cX7_entersIn 71 = .ok (.iload_n 3, 1) := by decide +kernel
theorem dX7_entersIn_72 : decode cX7_entersIn 72 = .ok (.goto 4, 3) := by decide +kernel
theorem dX7_entersIn_75 : decode cX7_entersIn 75 = .ok (.iconst (-1), 1) := by decide +kernel
theorem dX7_entersIn_76 : decode cX7_entersIn 76 = .ok (.ireturn, 1) := by decide +kernel
theorem dX7_foretell_0 : decode cX7_foretell 0 = .ok (.iload_n 1, 1) := by decide +kernel
theorem dX7_foretell_1 : decode cX7_foretell 1 = .ok (.invokestatic 91, 3) := by decide +kernel
theorem dX7_foretell_4 : decode cX7_foretell 4 = .ok (.ifCond .ne 6, 3) := by decide +kernel
theorem dX7_foretell_7 : decode cX7_foretell 7 = .ok (.bipush (-2), 2) := by decide +kernel
theorem dX7_foretell_9 : decode cX7_foretell 9 = .ok (.ireturn, 1) := by decide +kernel
theorem dX7_foretell_10 : decode cX7_foretell 10 = .ok (.aload_n 0, 1) := by decide +kernel
theorem dX7_foretell_11 : decode cX7_foretell 11 = .ok (.getfield 7, 3) := by decide +kernel
theorem dX7_foretell_14 : decode cX7_foretell 14 = .ok (.iconst 0, 1) := by decide +kernel
theorem dX7_foretell_15 : decode cX7_foretell 15 = .ok (.iload_n 1, 1) := by decide +kernel
theorem dX7_foretell_16 : decode cX7_foretell 16 = .ok (.iadd, 1) := by decide +kernel
theorem dX7_foretell_17 : decode cX7_foretell 17 = .ok (.iaload, 1) := by decide +kernel
theorem dX7_foretell_18 : decode cX7_foretell 18 = .ok (.iconst 1, 1) := by decide +kernel
theorem dX7_foretell_19 : decode cX7_foretell 19 = .ok (.if_icmp .ne 18, 3) := by decide +kernel
theorem dX7_foretell_22 : decode cX7_foretell 22 = .ok (.aload_n 0, 1) := by decide +kernel
theorem dX7_foretell_23 : decode cX7_foretell 23 = .ok (.iload_n 1, 1) := by decide +kernel
theorem dX7_foretell_24 : decode cX7_foretell 24 = .ok (.aload_n 0, 1) := by decide +kernel
theorem dX7_foretell_25 : decode cX7_foretell 25 = .ok (.getfield 7, 3) := by decide +kernel
theorem dX7_foretell_28 : decode cX7_foretell 28 = .ok (.bipush 101, 2) := by decide +kernel
theorem dX7_foretell_30 : decode cX7_foretell 30 = .ok (.iaload, 1) := by decide +kernel
theorem dX7_foretell_31 : decode cX7_foretell 31 = .ok (.invokevirtual 103, 3) := by decide +kernel
theorem dX7_foretell_34 : decode cX7_foretell 34 = .ok (.goto 5, 3) := by decide +kernel
theorem dX7_foretell_37 : decode cX7_foretell 37 = .ok (.bipush (-3), 2) := by decide +kernel
theorem dX7_foretell_39 : decode cX7_foretell 39 = .ok (.ireturn, 1) := by decide +kernel
theorem dX7_present_0 : decode cX7_present 0 = .ok (.iconst 0, 1) := by decide +kernel
theorem dX7_present_1 : decode cX7_present 1 = .ok (.istore_n 1, 1) := by decide +kernel
theorem dX7_present_2 : decode cX7_present 2 = .ok (.iconst 0, 1) := by decide +kernel
theorem dX7_present_3 : decode cX7_present 3 = .ok (.istore_n 2, 1) := by decide +kernel
theorem dX7_present_4 : decode cX7_present 4 = .ok (.iload_n 2, 1) := by decide +kernel
theorem dX7_present_5 : decode cX7_present 5 = .ok (.bipush 12, 2) := by decide +kernel
theorem dX7_present_7 : decode cX7_present 7 = .ok (.if_icmp .ge 28, 3) := by decide +kernel
theorem dX7_present_10 : decode cX7_present 10 = .ok (.iload_n 1, 1) := by decide +kernel
theorem dX7_present_11 : decode cX7_present 11 = .ok (.aload_n 0, 1) := by decide +kernel
theorem dX7_present_12 : decode cX7_present 12 = .ok (.getfield 7, 3) := by decide +kernel
theorem dX7_present_15 : decode cX7_present 15 = .ok (.iconst 0, 1) := by decide +kernel
theorem dX7_present_16 : decode cX7_present 16 = .ok (.iload_n 2, 1) := by decide +kernel
theorem dX7_present_17 : decode cX7_present 17 = .ok (.iadd, 1) := by decide +kernel
theorem dX7_present_18 : decode cX7_present 18 = .ok (.iaload, 1) := by decide +kernel
theorem dX7_present_19 : decode cX7_present 19 = .ok (.ifCond .le 7, 3) := by decide +kernel
theorem dX7_present_22 : decode cX7_present 22 = .ok (.iconst 1, 1) := by decide +kernel
theorem dX7_present_23 : decode cX7_present 23 = .ok (.goto 4, 3) := by decide +kernel
theorem dX7_present_26 : decode cX7_present 26 = .ok (.iconst 0, 1) := by decide +kernel
theorem dX7_present_27 : decode cX7_present 27 = .ok (.iadd, 1) := by decide +kernel
theorem dX7_present_28 : decode cX7_present 28 = .ok (.istore_n 1, 1) := by decide +kernel
theorem dX7_present_29 : decode cX7_present 29 = .ok (.iinc 2 1, 3) := by decide +kernel
theorem dX7_present_32 : decode cX7_present 32 = .ok (.goto (-28), 3) := by decide +kernel
theorem dX7_present_35 : decode cX7_present 35 = .ok (.iload_n 1, 1) := by decide +kernel
theorem dX7_present_36 : decode cX7_present 36 = .ok (.ireturn, 1) := by decide +kernel
theorem dX7_empties_0 : decode cX7_empties 0 = .ok (.aload_n 0, 1) := by decide +kernel
theorem dX7_empties_1 : decode cX7_empties 1 = .ok (.invokevirtual 97, 3) := by decide +kernel
theorem dX7_empties_4 : decode cX7_empties 4 = .ok (.iconst 0, 1) := by decide +kernel
theorem dX7_empties_5 : decode cX7_empties 5 = .ok (.istore_n 1, 1) := by decide +kernel
theorem dX7_empties_6 : decode cX7_empties 6 = .ok (.iload_n 1, 1) := by decide +kernel
theorem dX7_empties_7 : decode cX7_empties 7 = .ok (.sipush 500, 3) := by decide +kernel
theorem dX7_empties_10 : decode cX7_empties 10 = .ok (.if_icmp .ge 20, 3) := by decide +kernel
theorem dX7_empties_13 : decode cX7_empties 13 = .ok (.aload_n 0, 1) := by decide +kernel
theorem dX7_empties_14 : decode cX7_empties 14 = .ok (.invokevirtual 106, 3) := by decide +kernel
theorem dX7_empties_17 : decode cX7_empties 17 = .ok (.ifCond .le 13, 3) := by decide +kernel
theorem dX7_empties_20 : decode cX7_empties 20 = .ok (.aload_n 0, 1) := by decide +kernel
theorem dX7_empties_21 : decode cX7_empties 21 = .ok (.invokevirtual 94, 3) := by decide +kernel
theorem dX7_empties_24 : decode cX7_empties 24 = .ok (.iinc 1 1, 3) := by decide +kernel
theorem dX7_empties_27 : decode cX7_empties 27 = .ok (.goto (-21), 3) := by decide +kernel
theorem dX7_empties_30 : decode cX7_empties 30 = .ok (.aload_n 0, 1) := by decide +kernel
theorem dX7_empties_31 : decode cX7_empties 31 = .ok (.invokevirtual 106, 3) := by decide +kernel
theorem dX7_empties_34 : decode cX7_empties 34 = .ok (.ifCond .ne 7, 3) := by decide +kernel
theorem dX7_empties_37 : decode cX7_empties 37 = .ok (.iconst 1, 1) := by decide +kernel
theorem dX7_empties_38 : decode cX7_empties 38 = .ok (.goto 4, 3) := by decide +kernel
theorem dX7_empties_41 : decode cX7_empties 41 = .ok (.iconst 0, 1) := by decide +kernel
theorem dX7_empties_42 : decode cX7_empties 42 = .ok (.istore_n 2, 1) := by decide +kernel
theorem dX7_empties_43 : decode cX7_empties 43 = .ok (.aload_n 0, 1) := by decide +kernel
theorem dX7_empties_44 : decode cX7_empties 44 = .ok (.invokevirtual 100, 3) := by decide +kernel
theorem dX7_empties_47 : decode cX7_empties 47 = .ok (.iload_n 2, 1) := by decide +kernel
theorem dX7_empties_48 : decode cX7_empties 48 = .ok (.ifCond .eq 7, 3) := by decide +kernel
theorem dX7_empties_51 : decode cX7_empties 51 = .ok (.iload_n 1, 1) := by decide +kernel
theorem dX7_empties_52 : decode cX7_empties 52 = .ok (.goto 4, 3) := by decide +kernel
theorem dX7_empties_55 : decode cX7_empties 55 = .ok (.iconst (-1), 1) := by decide +kernel
theorem dX7_empties_56 : decode cX7_empties 56 = .ok (.ireturn, 1) := by decide +kernel
theorem dX7_bestQuota_0 : decode cX7_bestQuota 0 = .ok (.iload_n 1, 1) := by decide +kernel
theorem dX7_bestQuota_1 : decode cX7_bestQuota 1 = .ok (.invokestatic 91, 3) := by decide +kernel
theorem dX7_bestQuota_4 : decode cX7_bestQuota 4 = .ok (.ifCond .eq 12, 3) := by decide +kernel
theorem dX7_bestQuota_7 : decode cX7_bestQuota 7 = .ok (.iload_n 2, 1) := by decide +kernel
theorem dX7_bestQuota_8 : decode cX7_bestQuota 8 = .ok (.iconst 0, 1) := by decide +kernel
theorem dX7_bestQuota_9 : decode cX7_bestQuota 9 = .ok (.iconst 1, 1) := by decide +kernel
theorem dX7_bestQuota_10 : decode cX7_bestQuota 10 = .ok (.invokestatic 39, 3) := by decide +kernel
theorem dX7_bestQuota_13 : decode cX7_bestQuota 13 = .ok (.ifCond .ne 6, 3) := by decide +kernel
theorem dX7_bestQuota_16 : decode cX7_bestQuota 16 = .ok (.bipush (-2), 2) := by decide +kernel
theorem dX7_bestQuota_18 : decode cX7_bestQuota 18 = .ok (.ireturn, 1) := by decide +kernel
theorem dX7_bestQuota_19 : decode cX7_bestQuota 19 = .ok (.aload_n 0, 1) := by decide +kernel
theorem dX7_bestQuota_20 : decode cX7_bestQuota 20 = .ok (.getfield 7, 3) := by decide +kernel
theorem dX7_bestQuota_23 : decode cX7_bestQuota 23 = .ok (.iconst 0, 1) := by decide +kernel
theorem dX7_bestQuota_24 : decode cX7_bestQuota 24 = .ok (.iload_n 1, 1) := by decide +kernel
theorem dX7_bestQuota_25 : decode cX7_bestQuota 25 = .ok (.iadd, 1) := by decide +kernel
theorem dX7_bestQuota_26 : decode cX7_bestQuota 26 = .ok (.iaload, 1) := by decide +kernel
theorem dX7_bestQuota_27 : decode cX7_bestQuota 27 = .ok (.iconst 1, 1) := by decide +kernel
theorem dX7_bestQuota_28 : decode cX7_bestQuota 28 = .ok (.if_icmp .eq 6, 3) := by decide +kernel
theorem dX7_bestQuota_31 : decode cX7_bestQuota 31 = .ok (.bipush (-3), 2) := by decide +kernel
theorem dX7_bestQuota_33 : decode cX7_bestQuota 33 = .ok (.ireturn, 1) := by decide +kernel
theorem dX7_bestQuota_34 : decode cX7_bestQuota 34 = .ok (.iconst (-1), 1) := by decide +kernel
theorem dX7_bestQuota_35 : decode cX7_bestQuota 35 = .ok (.istore_n 3, 1) := by decide +kernel
theorem dX7_bestQuota_36 : decode cX7_bestQuota 36 = .ok (.iconst (-1), 1) := by decide +kernel
theorem dX7_bestQuota_37 : decode cX7_bestQuota 37 = .ok (.istore 4, 2) := by decide +kernel
theorem dX7_bestQuota_39 : decode cX7_bestQuota 39 = .ok (.iconst 1, 1) := by decide +kernel
theorem dX7_bestQuota_40 : decode cX7_bestQuota 40 = .ok (.istore 5, 2) := by decide +kernel
theorem dX7_bestQuota_42 : decode cX7_bestQuota 42 = .ok (.iload 5, 2) := by decide +kernel
theorem dX7_bestQuota_44 : decode cX7_bestQuota 44 = .ok (.bipush 20, 2) := by decide +kernel
theorem dX7_bestQuota_46 : decode cX7_bestQuota 46 = .ok (.if_icmp .gt 69, 3) := by decide +kernel
theorem dX7_bestQuota_49 : decode cX7_bestQuota 49 = .ok (.aload_n 0, 1) := by decide +kernel
theorem dX7_bestQuota_50 : decode cX7_bestQuota 50 = .ok (.iload_n 1, 1) := by decide +kernel
theorem dX7_bestQuota_51 : decode cX7_bestQuota 51 = .ok (.iload 5, 2) := by decide +kernel
theorem dX7_bestQuota_53 : decode cX7_bestQuota 53 = .ok (.invokevirtual 103, 3) := by decide +kernel
theorem dX7_bestQuota_56 : decode cX7_bestQuota 56 = .ok (.istore 6, 2) := by decide +kernel
theorem dX7_bestQuota_58 : decode cX7_bestQuota 58 = .ok (.iload 6, 2) := by decide +kernel
theorem dX7_bestQuota_60 : decode cX7_bestQuota 60 = .ok (.iconst (-1), 1) := by decide +kernel
theorem dX7_bestQuota_61 : decode cX7_bestQuota 61 = .ok (.if_icmp .eq 19, 3) := by decide +kernel
theorem dX7_bestQuota_64 : decode cX7_bestQuota 64 = .ok (.iload_n 3, 1) := by decide +kernel
theorem dX7_bestQuota_65 : decode cX7_bestQuota 65 = .ok (.iconst (-1), 1) := by decide +kernel
theorem dX7_bestQuota_66 : decode cX7_bestQuota 66 = .ok (.if_icmp .eq 10, 3) := by decide +kernel
theorem dX7_bestQuota_69 : decode cX7_bestQuota 69 = .ok (.iload 6, 2) := by decide +kernel
theorem dX7_bestQuota_71 : decode cX7_bestQuota 71 = .ok (.iload 4, 2) := by decide +kernel
theorem dX7_bestQuota_73 : decode cX7_bestQuota 73 = .ok (.if_icmp .ge 7, 3) := by decide +kernel
theorem dX7_bestQuota_76 : decode cX7_bestQuota 76 = .ok (.iconst 1, 1) := by decide +kernel
theorem dX7_bestQuota_77 : decode cX7_bestQuota 77 = .ok (.goto 4, 3) := by decide +kernel
theorem dX7_bestQuota_80 : decode cX7_bestQuota 80 = .ok (.iconst 0, 1) := by decide +kernel
theorem dX7_bestQuota_81 : decode cX7_bestQuota 81 = .ok (.istore 7, 2) := by decide +kernel
theorem dX7_bestQuota_83 : decode cX7_bestQuota 83 = .ok (.iload 7, 2) := by decide +kernel
theorem dX7_bestQuota_85 : decode cX7_bestQuota 85 = .ok (.ifCond .eq 8, 3) := by decide +kernel
theorem dX7_bestQuota_88 : decode cX7_bestQuota 88 = .ok (.iload 5, 2) := by decide +kernel
theorem dX7_bestQuota_90 : decode cX7_bestQuota 90 = .ok (.goto 4, 3) := by decide +kernel
theorem dX7_bestQuota_93 : decode cX7_bestQuota 93 = .ok (.iload_n 3, 1) := by decide +kernel
theorem dX7_bestQuota_94 : decode cX7_bestQuota 94 = .ok (.istore_n 3, 1) := by decide +kernel
theorem dX7_bestQuota_95 : decode cX7_bestQuota 95 = .ok (.iload 7, 2) := by decide +kernel
theorem dX7_bestQuota_97 : decode cX7_bestQuota 97 = .ok (.ifCond .eq 8, 3) := by decide +kernel
theorem dX7_bestQuota_100 : decode cX7_bestQuota 100 = .ok (.iload 6, 2) := by decide +kernel
theorem dX7_bestQuota_102 : decode cX7_bestQuota 102 = .ok (.goto 5, 3) := by decide +kernel
theorem dX7_bestQuota_105 : decode cX7_bestQuota 105 = .ok (.iload 4, 2) := by decide +kernel
theorem dX7_bestQuota_107 : decode cX7_bestQuota 107 = .ok (.istore 4, 2) := by decide +kernel
theorem dX7_bestQuota_109 : decode cX7_bestQuota 109 = .ok (.iinc 5 1, 3) := by decide +kernel
theorem dX7_bestQuota_112 : decode cX7_bestQuota 112 = .ok (.goto (-70), 3) := by decide +kernel
theorem dX7_bestQuota_115 : decode cX7_bestQuota 115 = .ok (.iload_n 2, 1) := by decide +kernel
theorem dX7_bestQuota_116 : decode cX7_bestQuota 116 = .ok (.ifCond .ne 7, 3) := by decide +kernel
theorem dX7_bestQuota_119 : decode cX7_bestQuota 119 = .ok (.iload_n 3, 1) := by decide +kernel
theorem dX7_bestQuota_120 : decode cX7_bestQuota 120 = .ok (.goto 5, 3) := by decide +kernel
theorem dX7_bestQuota_123 : decode cX7_bestQuota 123 = .ok (.iload 4, 2) := by decide +kernel
theorem dX7_bestQuota_125 : decode cX7_bestQuota 125 = .ok (.ireturn, 1) := by decide +kernel
theorem dX7_type_0 : decode cX7_type 0 = .ok (.iload_n 1, 1) := by decide +kernel
theorem dX7_type_1 : decode cX7_type 1 = .ok (.iconst 0, 1) := by decide +kernel
theorem dX7_type_2 : decode cX7_type 2 = .ok (.bipush 127, 2) := by decide +kernel
theorem dX7_type_4 : decode cX7_type 4 = .ok (.invokestatic 39, 3) := by decide +kernel
theorem dX7_type_7 : decode cX7_type 7 = .ok (.ifCond .ne 6, 3) := by decide +kernel
theorem dX7_type_10 : decode cX7_type 10 = .ok (.bipush (-2), 2) := by decide +kernel
theorem dX7_type_12 : decode cX7_type 12 = .ok (.ireturn, 1) := by decide +kernel
theorem dX7_type_13 : decode cX7_type 13 = .ok (.aload_n 0, 1) := by decide +kernel
theorem dX7_type_14 : decode cX7_type 14 = .ok (.getfield 109, 3) := by decide +kernel
theorem dX7_type_17 : decode cX7_type 17 = .ok (.bipush 100, 2) := by decide +kernel
theorem dX7_type_19 : decode cX7_type 19 = .ok (.if_icmp .ne 6, 3) := by decide +kernel
theorem dX7_type_22 : decode cX7_type 22 = .ok (.bipush (-4), 2) := by decide +kernel
theorem dX7_type_24 : decode cX7_type 24 = .ok (.ireturn, 1) := by decide +kernel
theorem dX7_type_25 : decode cX7_type 25 = .ok (.aload_n 0, 1) := by decide +kernel
theorem dX7_type_26 : decode cX7_type 26 = .ok (.getfield 23, 3) := by decide +kernel
theorem dX7_type_29 : decode cX7_type 29 = .ok (.aload_n 0, 1) := by decide +kernel
theorem dX7_type_30 : decode cX7_type 30 = .ok (.getfield 109, 3) := by decide +kernel
theorem dX7_type_33 : decode cX7_type 33 = .ok (.iload_n 1, 1) := by decide +kernel
theorem dX7_type_34 : decode cX7_type 34 = .ok (.iastore, 1) := by decide +kernel
theorem dX7_type_35 : decode cX7_type 35 = .ok (.aload_n 0, 1) := by decide +kernel
theorem dX7_type_36 : decode cX7_type 36 = .ok (.dup, 1) := by decide +kernel
theorem dX7_type_37 : decode cX7_type 37 = .ok (.getfield 109, 3) := by decide +kernel
theorem dX7_type_40 : decode cX7_type 40 = .ok (.iconst 1, 1) := by decide +kernel
theorem dX7_type_41 : decode cX7_type 41 = .ok (.iadd, 1) := by decide +kernel
theorem dX7_type_42 : decode cX7_type 42 = .ok (.putfield 109, 3) := by decide +kernel
theorem dX7_type_45 : decode cX7_type 45 = .ok (.aload_n 0, 1) := by decide +kernel
theorem dX7_type_46 : decode cX7_type 46 = .ok (.getfield 109, 3) := by decide +kernel
theorem dX7_type_49 : decode cX7_type 49 = .ok (.ireturn, 1) := by decide +kernel
theorem dX7_clear_0 : decode cX7_clear 0 = .ok (.aload_n 0, 1) := by decide +kernel
theorem dX7_clear_1 : decode cX7_clear 1 = .ok (.getfield 109, 3) := by decide +kernel
theorem dX7_clear_4 : decode cX7_clear 4 = .ok (.istore_n 1, 1) := by decide +kernel
theorem dX7_clear_5 : decode cX7_clear 5 = .ok (.aload_n 0, 1) := by decide +kernel
theorem dX7_clear_6 : decode cX7_clear 6 = .ok (.iconst 0, 1) := by decide +kernel
theorem dX7_clear_7 : decode cX7_clear 7 = .ok (.putfield 109, 3) := by decide +kernel
theorem dX7_clear_10 : decode cX7_clear 10 = .ok (.iload_n 1, 1) := by decide +kernel
theorem dX7_clear_11 : decode cX7_clear 11 = .ok (.ireturn, 1) := by decide +kernel
theorem dX7_next_0 : decode cX7_next 0 = .ok (.aload_n 0, 1) := by decide +kernel
theorem dX7_next_1 : decode cX7_next 1 = .ok (.getfield 113, 3) := by decide +kernel
theorem dX7_next_4 : decode cX7_next 4 = .ok (.aload_n 0, 1) := by decide +kernel
theorem dX7_next_5 : decode cX7_next 5 = .ok (.getfield 109, 3) := by decide +kernel
theorem dX7_next_8 : decode cX7_next 8 = .ok (.if_icmp .ge 15, 3) := by decide +kernel
theorem dX7_next_11 : decode cX7_next 11 = .ok (.aload_n 0, 1) := by decide +kernel
theorem dX7_next_12 : decode cX7_next 12 = .ok (.getfield 23, 3) := by decide +kernel
theorem dX7_next_15 : decode cX7_next 15 = .ok (.aload_n 0, 1) := by decide +kernel
theorem dX7_next_16 : decode cX7_next 16 = .ok (.getfield 113, 3) := by decide +kernel
theorem dX7_next_19 : decode cX7_next 19 = .ok (.iaload, 1) := by decide +kernel
theorem dX7_next_20 : decode cX7_next 20 = .ok (.goto 4, 3) := by decide +kernel
theorem dX7_next_23 : decode cX7_next 23 = .ok (.iconst (-1), 1) := by decide +kernel
theorem dX7_next_24 : decode cX7_next 24 = .ok (.ireturn, 1) := by decide +kernel
theorem dX7_skips_0 : decode cX7_skips 0 = .ok (.aload_n 0, 1) := by decide +kernel
theorem dX7_skips_1 : decode cX7_skips 1 = .ok (.invokevirtual 116, 3) := by decide +kernel
theorem dX7_skips_4 : decode cX7_skips 4 = .ok (.bipush 32, 2) := by decide +kernel
theorem dX7_skips_6 : decode cX7_skips 6 = .ok (.if_icmp .ne 16, 3) := by decide +kernel
theorem dX7_skips_9 : decode cX7_skips 9 = .ok (.aload_n 0, 1) := by decide +kernel
theorem dX7_skips_10 : decode cX7_skips 10 = .ok (.dup, 1) := by decide +kernel
theorem dX7_skips_11 : decode cX7_skips 11 = .ok (.getfield 113, 3) := by decide +kernel
theorem dX7_skips_14 : decode cX7_skips 14 = .ok (.iconst 1, 1) := by decide +kernel
theorem dX7_skips_15 : decode cX7_skips 15 = .ok (.iadd, 1) := by decide +kernel
theorem dX7_skips_16 : decode cX7_skips 16 = .ok (.putfield 113, 3) := by decide +kernel
theorem dX7_skips_19 : decode cX7_skips 19 = .ok (.goto (-19), 3) := by decide +kernel
theorem dX7_skips_22 : decode cX7_skips 22 = .ok (.return_, 1) := by decide +kernel
theorem dX7_fails_0 : decode cX7_fails 0 = .ok (.aload_n 0, 1) := by decide +kernel
theorem dX7_fails_1 : decode cX7_fails 1 = .ok (.aload_n 0, 1) := by decide +kernel
theorem dX7_fails_2 : decode cX7_fails 2 = .ok (.getfield 119, 3) := by decide +kernel
theorem dX7_fails_5 : decode cX7_fails 5 = .ok (.iconst (-1), 1) := by decide +kernel
theorem dX7_fails_6 : decode cX7_fails 6 = .ok (.if_icmp .ne 7, 3) := by decide +kernel
theorem dX7_fails_9 : decode cX7_fails 9 = .ok (.iload_n 1, 1) := by decide +kernel
theorem dX7_fails_10 : decode cX7_fails 10 = .ok (.goto 7, 3) := by decide +kernel
theorem dX7_fails_13 : decode cX7_fails 13 = .ok (.aload_n 0, 1) := by decide +kernel
theorem dX7_fails_14 : decode cX7_fails 14 = .ok (.getfield 119, 3) := by decide +kernel
theorem dX7_fails_17 : decode cX7_fails 17 = .ok (.putfield 119, 3) := by decide +kernel
theorem dX7_fails_20 : decode cX7_fails 20 = .ok (.return_, 1) := by decide +kernel
theorem dX7_takes_0 : decode cX7_takes 0 = .ok (.aload_n 0, 1) := by decide +kernel
theorem dX7_takes_1 : decode cX7_takes 1 = .ok (.getfield 119, 3) := by decide +kernel
theorem dX7_takes_4 : decode cX7_takes 4 = .ok (.iconst (-1), 1) := by decide +kernel
theorem dX7_takes_5 : decode cX7_takes 5 = .ok (.if_icmp .ne 28, 3) := by decide +kernel
theorem dX7_takes_8 : decode cX7_takes 8 = .ok (.aload_n 0, 1) := by decide +kernel
theorem dX7_takes_9 : decode cX7_takes 9 = .ok (.invokevirtual 116, 3) := by decide +kernel
theorem dX7_takes_12 : decode cX7_takes 12 = .ok (.iload_n 1, 1) := by decide +kernel
theorem dX7_takes_13 : decode cX7_takes 13 = .ok (.if_icmp .ne 20, 3) := by decide +kernel
theorem dX7_takes_16 : decode cX7_takes 16 = .ok (.aload_n 0, 1) := by decide +kernel
theorem dX7_takes_17 : decode cX7_takes 17 = .ok (.dup, 1) := by decide +kernel
theorem dX7_takes_18 : decode cX7_takes 18 = .ok (.getfield 113, 3) := by decide +kernel
theorem dX7_takes_21 : decode cX7_takes 21 = .ok (.iconst 1, 1) := by decide +kernel
theorem dX7_takes_22 : decode cX7_takes 22 = .ok (.iadd, 1) := by decide +kernel
theorem dX7_takes_23 : decode cX7_takes 23 = .ok (.putfield 113, 3) := by decide +kernel
theorem dX7_takes_26 : decode cX7_takes 26 = .ok (.aload_n 0, 1) := by decide +kernel
theorem dX7_takes_27 : decode cX7_takes 27 = .ok (.invokevirtual 122, 3) := by decide +kernel
theorem dX7_takes_30 : decode cX7_takes 30 = .ok (.goto 11, 3) := by decide +kernel
theorem dX7_takes_33 : decode cX7_takes 33 = .ok (.aload_n 0, 1) := by decide +kernel
theorem dX7_takes_34 : decode cX7_takes 34 = .ok (.aload_n 0, 1) := by decide +kernel
theorem dX7_takes_35 : decode cX7_takes 35 = .ok (.getfield 113, 3) := by decide +kernel
theorem dX7_takes_38 : decode cX7_takes 38 = .ok (.invokevirtual 125, 3) := by decide +kernel
theorem dX7_takes_41 : decode cX7_takes 41 = .ok (.return_, 1) := by decide +kernel
theorem dX7_readsNumber_0 : decode cX7_readsNumber 0 = .ok (.aload_n 0, 1) := by decide +kernel
theorem dX7_readsNumber_1 : decode cX7_readsNumber 1 = .ok (.getfield 113, 3) := by decide +kernel
theorem dX7_readsNumber_4 : decode cX7_readsNumber 4 = .ok (.istore_n 2, 1) := by decide +kernel
theorem dX7_readsNumber_5 : decode cX7_readsNumber 5 = .ok (.iconst 0, 1) := by decide +kernel
theorem dX7_readsNumber_6 : decode cX7_readsNumber 6 = .ok (.istore_n 3, 1) := by decide +kernel
theorem dX7_readsNumber_7 : decode cX7_readsNumber 7 = .ok (.aload_n 0, 1) := by decide +kernel
theorem dX7_readsNumber_8 : decode cX7_readsNumber 8 = .ok (.getfield 113, 3) := by decide +kernel
theorem dX7_readsNumber_11 : decode cX7_readsNumber 11 = .ok (.iload_n 2, 1) := by decide +kernel
theorem dX7_readsNumber_12 : decode cX7_readsNumber 12 = .ok (.iconst 3, 1) := by decide +kernel
theorem dX7_readsNumber_13 : decode cX7_readsNumber 13 = .ok (.iadd, 1) := by decide +kernel
theorem dX7_readsNumber_14 : decode cX7_readsNumber 14 = .ok (.if_icmp .ge 43, 3) := by decide +kernel
theorem dX7_readsNumber_17 : decode cX7_readsNumber 17 = .ok (.aload_n 0, 1) := by decide +kernel
theorem dX7_readsNumber_18 : decode cX7_readsNumber 18 = .ok (.invokevirtual 116, 3) := by decide +kernel
theorem dX7_readsNumber_21 : decode cX7_readsNumber 21 = .ok (.bipush 48, 2) := by decide +kernel
theorem dX7_readsNumber_23 : decode cX7_readsNumber 23 = .ok (.bipush 57, 2) := by decide +kernel
theorem dX7_readsNumber_25 : decode cX7_readsNumber 25 = .ok (.invokestatic 39, 3) := by decide +kernel
theorem dX7_readsNumber_28 : decode cX7_readsNumber 28 = .ok (.ifCond .eq 29, 3) := by decide +kernel
theorem dX7_readsNumber_31 : decode cX7_readsNumber 31 = .ok (.bipush 10, 2) := by decide +kernel
theorem dX7_readsNumber_33 : decode cX7_readsNumber 33 = .ok (.iload_n 3, 1) := by decide +kernel
theorem dX7_readsNumber_34 : decode cX7_readsNumber 34 = .ok (.imul, 1) := by decide +kernel
theorem dX7_readsNumber_35 : decode cX7_readsNumber 35 = .ok (.aload_n 0, 1) := by decide +kernel
theorem dX7_readsNumber_36 : decode cX7_readsNumber 36 = .ok (.invokevirtual 116, 3) := by decide +kernel
theorem dX7_readsNumber_39 : decode cX7_readsNumber 39 = .ok (.iadd, 1) := by decide +kernel
theorem dX7_readsNumber_40 : decode cX7_readsNumber 40 = .ok (.bipush 48, 2) := by decide +kernel
theorem dX7_readsNumber_42 : decode cX7_readsNumber 42 = .ok (.isub, 1) := by decide +kernel
theorem dX7_readsNumber_43 : decode cX7_readsNumber 43 = .ok (.istore_n 3, 1) := by decide +kernel
theorem dX7_readsNumber_44 : decode cX7_readsNumber 44 = .ok (.aload_n 0, 1) := by decide +kernel
theorem dX7_readsNumber_45 : decode cX7_readsNumber 45 = .ok (.dup, 1) := by decide +kernel
theorem dX7_readsNumber_46 : decode cX7_readsNumber 46 = .ok (.getfield 113, 3) := by decide +kernel
theorem dX7_readsNumber_49 : decode cX7_readsNumber 49 = .ok (.iconst 1, 1) := by decide +kernel
theorem dX7_readsNumber_50 : decode cX7_readsNumber 50 = .ok (.iadd, 1) := by decide +kernel
theorem dX7_readsNumber_51 : decode cX7_readsNumber 51 = .ok (.putfield 113, 3) := by decide +kernel
theorem dX7_readsNumber_54 : decode cX7_readsNumber 54 = .ok (.goto (-47), 3) := by decide +kernel
theorem dX7_readsNumber_57 : decode cX7_readsNumber 57 = .ok (.aload_n 0, 1) := by decide +kernel
theorem dX7_readsNumber_58 : decode cX7_readsNumber 58 = .ok (.getfield 113, 3) := by decide +kernel
theorem dX7_readsNumber_61 : decode cX7_readsNumber 61 = .ok (.iload_n 2, 1) := by decide +kernel
theorem dX7_readsNumber_62 : decode cX7_readsNumber 62 = .ok (.if_icmp .eq 12, 3) := by decide +kernel
theorem dX7_readsNumber_65 : decode cX7_readsNumber 65 = .ok (.iload_n 3, 1) := by decide +kernel
theorem dX7_readsNumber_66 : decode cX7_readsNumber 66 = .ok (.iconst 1, 1) := by decide +kernel
theorem dX7_readsNumber_67 : decode cX7_readsNumber 67 = .ok (.iload_n 1, 1) := by decide +kernel
theorem dX7_readsNumber_68 : decode cX7_readsNumber 68 = .ok (.invokestatic 39, 3) := by decide +kernel
theorem dX7_readsNumber_71 : decode cX7_readsNumber 71 = .ok (.ifCond .ne 8, 3) := by decide +kernel
theorem dX7_readsNumber_74 : decode cX7_readsNumber 74 = .ok (.aload_n 0, 1) := by decide +kernel
theorem dX7_readsNumber_75 : decode cX7_readsNumber 75 = .ok (.iload_n 2, 1) := by decide +kernel
theorem dX7_readsNumber_76 : decode cX7_readsNumber 76 = .ok (.invokevirtual 125, 3) := by decide +kernel
theorem dX7_readsNumber_79 : decode cX7_readsNumber 79 = .ok (.aload_n 0, 1) := by decide +kernel
theorem dX7_readsNumber_80 : decode cX7_readsNumber 80 = .ok (.invokevirtual 116, 3) := by decide +kernel
theorem dX7_readsNumber_83 : decode cX7_readsNumber 83 = .ok (.bipush 48, 2) := by decide +kernel
theorem dX7_readsNumber_85 : decode cX7_readsNumber 85 = .ok (.bipush 57, 2) := by decide +kernel
theorem dX7_readsNumber_87 : decode cX7_readsNumber 87 = .ok (.invokestatic 39, 3) := by decide +kernel
theorem dX7_readsNumber_90 : decode cX7_readsNumber 90 = .ok (.ifCond .eq 11, 3) := by decide +kernel
theorem dX7_readsNumber_93 : decode cX7_readsNumber 93 = .ok (.aload_n 0, 1) := by decide +kernel
theorem dX7_readsNumber_94 : decode cX7_readsNumber 94 = .ok (.aload_n 0, 1) := by decide +kernel
theorem dX7_readsNumber_95 : decode cX7_readsNumber 95 = .ok (.getfield 113, 3) := by decide +kernel
theorem dX7_readsNumber_98 : decode cX7_readsNumber 98 = .ok (.invokevirtual 125, 3) := by decide +kernel
theorem dX7_readsNumber_101 : decode cX7_readsNumber 101 = .ok (.aload_n 0, 1) := by decide +kernel
theorem dX7_readsNumber_102 : decode cX7_readsNumber 102 = .ok (.invokevirtual 122, 3) := by decide +kernel
theorem dX7_readsNumber_105 : decode cX7_readsNumber 105 = .ok (.iload_n 3, 1) := by decide +kernel
theorem dX7_readsNumber_106 : decode cX7_readsNumber 106 = .ok (.ireturn, 1) := by decide +kernel
theorem dX7_readsOne_0 : decode cX7_readsOne 0 = .ok (.aload_n 0, 1) := by decide +kernel
theorem dX7_readsOne_1 : decode cX7_readsOne 1 = .ok (.invokevirtual 116, 3) := by decide +kernel
theorem dX7_readsOne_4 : decode cX7_readsOne 4 = .ok (.istore_n 3, 1) := by decide +kernel
theorem dX7_readsOne_5 : decode cX7_readsOne 5 = .ok (.aload_n 0, 1) := by decide +kernel
theorem dX7_readsOne_6 : decode cX7_readsOne 6 = .ok (.getfield 119, 3) := by decide +kernel
theorem dX7_readsOne_9 : decode cX7_readsOne 9 = .ok (.iconst (-1), 1) := by decide +kernel
theorem dX7_readsOne_10 : decode cX7_readsOne 10 = .ok (.if_icmp .ne 12, 3) := by decide +kernel
theorem dX7_readsOne_13 : decode cX7_readsOne 13 = .ok (.iload_n 3, 1) := by decide +kernel
theorem dX7_readsOne_14 : decode cX7_readsOne 14 = .ok (.iload_n 1, 1) := by decide +kernel
theorem dX7_readsOne_15 : decode cX7_readsOne 15 = .ok (.iload_n 2, 1) := by decide +kernel
theorem dX7_readsOne_16 : decode cX7_readsOne 16 = .ok (.invokestatic 39, 3) := by decide +kernel
theorem dX7_readsOne_19 : decode cX7_readsOne 19 = .ok (.ifCond .ne 13, 3) := by decide +kernel
theorem dX7_readsOne_22 : decode cX7_readsOne 22 = .ok (.aload_n 0, 1) := by decide +kernel
theorem dX7_readsOne_23 : decode cX7_readsOne 23 = .ok (.aload_n 0, 1) := by decide +kernel
theorem dX7_readsOne_24 : decode cX7_readsOne 24 = .ok (.getfield 113, 3) := by decide +kernel
theorem dX7_readsOne_27 : decode cX7_readsOne 27 = .ok (.invokevirtual 125, 3) := by decide +kernel
theorem dX7_readsOne_30 : decode cX7_readsOne 30 = .ok (.iconst 0, 1) := by decide +kernel
theorem dX7_readsOne_31 : decode cX7_readsOne 31 = .ok (.ireturn, 1) := by decide +kernel
theorem dX7_readsOne_32 : decode cX7_readsOne 32 = .ok (.aload_n 0, 1) := by decide +kernel
theorem dX7_readsOne_33 : decode cX7_readsOne 33 = .ok (.dup, 1) := by decide +kernel
theorem dX7_readsOne_34 : decode cX7_readsOne 34 = .ok (.getfield 113, 3) := by decide +kernel
theorem dX7_readsOne_37 : decode cX7_readsOne 37 = .ok (.iconst 1, 1) := by decide +kernel
theorem dX7_readsOne_38 : decode cX7_readsOne 38 = .ok (.iadd, 1) := by decide +kernel
theorem dX7_readsOne_39 : decode cX7_readsOne 39 = .ok (.putfield 113, 3) := by decide +kernel
theorem dX7_readsOne_42 : decode cX7_readsOne 42 = .ok (.aload_n 0, 1) := by decide +kernel
theorem dX7_readsOne_43 : decode cX7_readsOne 43 = .ok (.invokevirtual 122, 3) := by decide +kernel
theorem dX7_readsOne_46 : decode cX7_readsOne 46 = .ok (.iload_n 3, 1) := by decide +kernel
theorem dX7_readsOne_47 : decode cX7_readsOne 47 = .ok (.iload_n 1, 1) := by decide +kernel
theorem dX7_readsOne_48 : decode cX7_readsOne 48 = .ok (.isub, 1) := by decide +kernel
theorem dX7_readsOne_49 : decode cX7_readsOne 49 = .ok (.ireturn, 1) := by decide +kernel
theorem dX7_readsCall_0 : decode cX7_readsCall 0 = .ok (.aload_n 0, 1) := by decide +kernel
theorem dX7_readsCall_1 : decode cX7_readsCall 1 = .ok (.dup, 1) := by decide +kernel
theorem dX7_readsCall_2 : decode cX7_readsCall 2 = .ok (.getfield 113, 3) := by decide +kernel
theorem dX7_readsCall_5 : decode cX7_readsCall 5 = .ok (.iconst 1, 1) := by decide +kernel
theorem dX7_readsCall_6 : decode cX7_readsCall 6 = .ok (.iadd, 1) := by decide +kernel
theorem dX7_readsCall_7 : decode cX7_readsCall 7 = .ok (.putfield 113, 3) := by decide +kernel
theorem dX7_readsCall_10 : decode cX7_readsCall 10 = .ok (.aload_n 0, 1) := by decide +kernel
theorem dX7_readsCall_11 : decode cX7_readsCall 11 = .ok (.invokevirtual 122, 3) := by decide +kernel
theorem dX7_readsCall_14 : decode cX7_readsCall 14 = .ok (.aload_n 0, 1) := by decide +kernel
theorem dX7_readsCall_15 : decode cX7_readsCall 15 = .ok (.getfield 26, 3) := by decide +kernel
theorem dX7_readsCall_18 : decode cX7_readsCall 18 = .ok (.iconst 4, 1) := by decide +kernel
theorem dX7_readsCall_19 : decode cX7_readsCall 19 = .ok (.aload_n 0, 1) := by decide +kernel
theorem dX7_readsCall_20 : decode cX7_readsCall 20 = .ok (.getfield 128, 3) := by decide +kernel
theorem dX7_readsCall_23 : decode cX7_readsCall 23 = .ok (.imul, 1) := by decide +kernel
theorem dX7_readsCall_24 : decode cX7_readsCall 24 = .ok (.iload_n 1, 1) := by decide +kernel
theorem dX7_readsCall_25 : decode cX7_readsCall 25 = .ok (.iastore, 1) := by decide +kernel
theorem dX7_readsCall_26 : decode cX7_readsCall 26 = .ok (.aload_n 0, 1) := by decide +kernel
theorem dX7_readsCall_27 : decode cX7_readsCall 27 = .ok (.getfield 26, 3) := by decide +kernel
theorem dX7_readsCall_30 : decode cX7_readsCall 30 = .ok (.iconst 4, 1) := by decide +kernel
theorem dX7_readsCall_31 : decode cX7_readsCall 31 = .ok (.aload_n 0, 1) := by decide +kernel
theorem dX7_readsCall_32 : decode cX7_readsCall 32 = .ok (.getfield 128, 3) := by decide +kernel
theorem dX7_readsCall_35 : decode cX7_readsCall 35 = .ok (.imul, 1) := by decide +kernel
theorem dX7_readsCall_36 : decode cX7_readsCall 36 = .ok (.iconst 1, 1) := by decide +kernel
theorem dX7_readsCall_37 : decode cX7_readsCall 37 = .ok (.iadd, 1) := by decide +kernel
theorem dX7_readsCall_38 : decode cX7_readsCall 38 = .ok (.iload_n 1, 1) := by decide +kernel
theorem dX7_readsCall_39 : decode cX7_readsCall 39 = .ok (.bipush 116, 2) := by decide +kernel
theorem dX7_readsCall_41 : decode cX7_readsCall 41 = .ok (.if_icmp .ne 7, 3) := by decide +kernel
theorem dX7_readsCall_44 : decode cX7_readsCall 44 = .ok (.iconst 0, 1) := by decide +kernel
theorem dX7_readsCall_45 : decode cX7_readsCall 45 = .ok (.goto 11, 3) := by decide +kernel
theorem dX7_readsCall_48 : decode cX7_readsCall 48 = .ok (.aload_n 0, 1) := by decide +kernel
theorem dX7_readsCall_49 : decode cX7_readsCall 49 = .ok (.bipush 97, 2) := by decide +kernel
theorem dX7_readsCall_51 : decode cX7_readsCall 51 = .ok (.bipush 108, 2) := by decide +kernel
theorem dX7_readsCall_53 : decode cX7_readsCall 53 = .ok (.invokevirtual 131, 3) := by decide +kernel
theorem dX7_readsCall_56 : decode cX7_readsCall 56 = .ok (.iastore, 1) := by decide +kernel
theorem dX7_readsCall_57 : decode cX7_readsCall 57 = .ok (.iload_n 1, 1) := by decide +kernel
theorem dX7_readsCall_58 : decode cX7_readsCall 58 = .ok (.bipush 114, 2) := by decide +kernel
theorem dX7_readsCall_60 : decode cX7_readsCall 60 = .ok (.if_icmp .ne 30, 3) := by decide +kernel
theorem dX7_readsCall_63 : decode cX7_readsCall 63 = .ok (.aload_n 0, 1) := by decide +kernel
theorem dX7_readsCall_64 : decode cX7_readsCall 64 = .ok (.getfield 26, 3) := by decide +kernel
theorem dX7_readsCall_67 : decode cX7_readsCall 67 = .ok (.iconst 4, 1) := by decide +kernel
theorem dX7_readsCall_68 : decode cX7_readsCall 68 = .ok (.aload_n 0, 1) := by decide +kernel
theorem dX7_readsCall_69 : decode cX7_readsCall 69 = .ok (.getfield 128, 3) := by decide +kernel
theorem dX7_readsCall_72 : decode cX7_readsCall 72 = .ok (.imul, 1) := by decide +kernel
theorem dX7_readsCall_73 : decode cX7_readsCall 73 = .ok (.iconst 2, 1) := by decide +kernel
theorem dX7_readsCall_74 : decode cX7_readsCall 74 = .ok (.iadd, 1) := by decide +kernel
theorem dX7_readsCall_75 : decode cX7_readsCall 75 = .ok (.aload_n 0, 1) := by decide +kernel
theorem dX7_readsCall_76 : decode cX7_readsCall 76 = .ok (.bipush 48, 2) := by decide +kernel
theorem dX7_readsCall_78 : decode cX7_readsCall 78 = .ok (.bipush 52, 2) := by decide +kernel
theorem dX7_readsCall_80 : decode cX7_readsCall 80 = .ok (.invokevirtual 131, 3) := by decide +kernel
theorem dX7_readsCall_83 : decode cX7_readsCall 83 = .ok (.iastore, 1) := by decide +kernel
theorem dX7_readsCall_84 : decode cX7_readsCall 84 = .ok (.aload_n 0, 1) := by decide +kernel
theorem dX7_readsCall_85 : decode cX7_readsCall 85 = .ok (.bipush 44, 2) := by decide +kernel
theorem dX7_readsCall_87 : decode cX7_readsCall 87 = .ok (.invokevirtual 134, 3) := by decide +kernel
theorem dX7_readsCall_90 : decode cX7_readsCall 90 = .ok (.aload_n 0, 1) := by decide +kernel
theorem dX7_readsCall_91 : decode cX7_readsCall 91 = .ok (.getfield 119, 3) := by decide +kernel
theorem dX7_readsCall_94 : decode cX7_readsCall 94 = .ok (.iconst (-1), 1) := by decide +kernel
theorem dX7_readsCall_95 : decode cX7_readsCall 95 = .ok (.if_icmp .ne 35, 3) := by decide +kernel
theorem dX7_readsCall_98 : decode cX7_readsCall 98 = .ok (.iload_n 1, 1) := by decide +kernel
theorem dX7_readsCall_99 : decode cX7_readsCall 99 = .ok (.bipush 114, 2) := by decide +kernel
theorem dX7_readsCall_101 : decode cX7_readsCall 101 = .ok (.if_icmp .eq 9, 3) := by decide +kernel
theorem dX7_readsCall_104 : decode cX7_readsCall 104 = .ok (.iload_n 1, 1) := by decide +kernel
theorem dX7_readsCall_105 : decode cX7_readsCall 105 = .ok (.bipush 116, 2) := by decide +kernel
theorem dX7_readsCall_107 : decode cX7_readsCall 107 = .ok (.if_icmp .ne 23, 3) := by decide +kernel
theorem dX7_readsCall_110 : decode cX7_readsCall 110 = .ok (.aload_n 0, 1) := by decide +kernel
theorem dX7_readsCall_111 : decode cX7_readsCall 111 = .ok (.getfield 26, 3) := by decide +kernel
theorem dX7_readsCall_114 : decode cX7_readsCall 114 = .ok (.iconst 4, 1) := by decide +kernel
theorem dX7_readsCall_115 : decode cX7_readsCall 115 = .ok (.aload_n 0, 1) := by decide +kernel
theorem dX7_readsCall_116 : decode cX7_readsCall 116 = .ok (.getfield 128, 3) := by decide +kernel
theorem dX7_readsCall_119 : decode cX7_readsCall 119 = .ok (.imul, 1) := by decide +kernel
theorem dX7_readsCall_120 : decode cX7_readsCall 120 = .ok (.iconst 3, 1) := by decide +kernel
theorem dX7_readsCall_121 : decode cX7_readsCall 121 = .ok (.iadd, 1) := by decide +kernel
theorem dX7_readsCall_122 : decode cX7_readsCall 122 = .ok (.aload_n 0, 1) := by decide +kernel
theorem dX7_readsCall_123 : decode cX7_readsCall 123 = .ok (.sipush 999, 3) := by decide +kernel
theorem dX7_readsCall_126 : decode cX7_readsCall 126 = .ok (.invokevirtual 137, 3) := by decide +kernel
theorem dX7_readsCall_129 : decode cX7_readsCall 129 = .ok (.iastore, 1) := by decide +kernel
theorem dX7_readsCall_130 : decode cX7_readsCall 130 = .ok (.aload_n 0, 1) := by decide +kernel
theorem dX7_readsCall_131 : decode cX7_readsCall 131 = .ok (.bipush 59, 2) := by decide +kernel
theorem dX7_readsCall_133 : decode cX7_readsCall 133 = .ok (.invokevirtual 134, 3) := by decide +kernel
theorem dX7_readsCall_136 : decode cX7_readsCall 136 = .ok (.aload_n 0, 1) := by decide +kernel
theorem dX7_readsCall_137 : decode cX7_readsCall 137 = .ok (.dup, 1) := by decide +kernel
theorem dX7_readsCall_138 : decode cX7_readsCall 138 = .ok (.getfield 128, 3) := by decide +kernel
theorem dX7_readsCall_141 : decode cX7_readsCall 141 = .ok (.iconst 1, 1) := by decide +kernel
theorem dX7_readsCall_142 : decode cX7_readsCall 142 = .ok (.iadd, 1) := by decide +kernel
theorem dX7_readsCall_143 : decode cX7_readsCall 143 = .ok (.putfield 128, 3) := by decide +kernel
theorem dX7_readsCall_146 : decode cX7_readsCall 146 = .ok (.return_, 1) := by decide +kernel
theorem dX7_readsStep_0 : decode cX7_readsStep 0 = .ok (.aload_n 0, 1) := by decide +kernel
theorem dX7_readsStep_1 : decode cX7_readsStep 1 = .ok (.invokevirtual 116, 3) := by decide +kernel
theorem dX7_readsStep_4 : decode cX7_readsStep 4 = .ok (.istore_n 1, 1) := by decide +kernel
theorem dX7_readsStep_5 : decode cX7_readsStep 5 = .ok (.iload_n 1, 1) := by decide +kernel
theorem dX7_readsStep_6 : decode cX7_readsStep 6 = .ok (.bipush 114, 2) := by decide +kernel
theorem dX7_readsStep_8 : decode cX7_readsStep 8 = .ok (.if_icmp .eq 27, 3) := by decide +kernel
theorem dX7_readsStep_11 : decode cX7_readsStep 11 = .ok (.iload_n 1, 1) := by decide +kernel
theorem dX7_readsStep_12 : decode cX7_readsStep 12 = .ok (.bipush 119, 2) := by decide +kernel
theorem dX7_readsStep_14 : decode cX7_readsStep 14 = .ok (.if_icmp .eq 21, 3) := by decide +kernel
theorem dX7_readsStep_17 : decode cX7_readsStep 17 = .ok (.iload_n 1, 1) := by decide +kernel
theorem dX7_readsStep_18 : decode cX7_readsStep 18 = .ok (.bipush 108, 2) := by decide +kernel
theorem dX7_readsStep_20 : decode cX7_readsStep 20 = .ok (.if_icmp .eq 15, 3) := by decide +kernel
theorem dX7_readsStep_23 : decode cX7_readsStep 23 = .ok (.iload_n 1, 1) := by decide +kernel
theorem dX7_readsStep_24 : decode cX7_readsStep 24 = .ok (.bipush 99, 2) := by decide +kernel
theorem dX7_readsStep_26 : decode cX7_readsStep 26 = .ok (.if_icmp .eq 9, 3) := by decide +kernel
theorem dX7_readsStep_29 : decode cX7_readsStep 29 = .ok (.iload_n 1, 1) := by decide +kernel
theorem dX7_readsStep_30 : decode cX7_readsStep 30 = .ok (.bipush 116, 2) := by decide +kernel
theorem dX7_readsStep_32 : decode cX7_readsStep 32 = .ok (.if_icmp .ne 11, 3) := by decide +kernel
theorem dX7_readsStep_35 : decode cX7_readsStep 35 = .ok (.aload_n 0, 1) := by decide +kernel
theorem dX7_readsStep_36 : decode cX7_readsStep 36 = .ok (.iload_n 1, 1) := by decide +kernel
theorem dX7_readsStep_37 : decode cX7_readsStep 37 = .ok (.invokevirtual 140, 3) := by decide +kernel
theorem dX7_readsStep_40 : decode cX7_readsStep 40 = .ok (.goto 183, 3) := by decide +kernel
theorem dX7_readsStep_43 : decode cX7_readsStep 43 = .ok (.iload_n 1, 1) := by decide +kernel
theorem dX7_readsStep_44 : decode cX7_readsStep 44 = .ok (.bipush 41, 2) := by decide +kernel
theorem dX7_readsStep_46 : decode cX7_readsStep 46 = .ok (.if_icmp .ne 82, 3) := by decide +kernel
theorem dX7_readsStep_49 : decode cX7_readsStep 49 = .ok (.aload_n 0, 1) := by decide +kernel
theorem dX7_readsStep_50 : decode cX7_readsStep 50 = .ok (.getfield 143, 3) := by decide +kernel
theorem dX7_readsStep_53 : decode cX7_readsStep 53 = .ok (.ifCond .le 75, 3) := by decide +kernel
theorem dX7_readsStep_56 : decode cX7_readsStep 56 = .ok (.aload_n 0, 1) := by decide +kernel
theorem dX7_readsStep_57 : decode cX7_readsStep 57 = .ok (.dup, 1) := by decide +kernel
theorem dX7_readsStep_58 : decode cX7_readsStep 58 = .ok (.getfield 143, 3) := by decide +kernel
theorem dX7_readsStep_61 : decode cX7_readsStep 61 = .ok (.iconst 1, 1) := by decide +kernel
theorem dX7_readsStep_62 : decode cX7_readsStep 62 = .ok (.isub, 1) := by decide +kernel
theorem dX7_readsStep_63 : decode cX7_readsStep 63 = .ok (.putfield 143, 3) := by decide +kernel
theorem dX7_readsStep_66 : decode cX7_readsStep 66 = .ok (.aload_n 0, 1) := by decide +kernel
theorem dX7_readsStep_67 : decode cX7_readsStep 67 = .ok (.getfield 26, 3) := by decide +kernel
theorem dX7_readsStep_70 : decode cX7_readsStep 70 = .ok (.iconst 4, 1) := by decide +kernel
theorem dX7_readsStep_71 : decode cX7_readsStep 71 = .ok (.aload_n 0, 1) := by decide +kernel
theorem dX7_readsStep_72 : decode cX7_readsStep 72 = .ok (.getfield 128, 3) := by decide +kernel
theorem dX7_readsStep_75 : decode cX7_readsStep 75 = .ok (.imul, 1) := by decide +kernel
theorem dX7_readsStep_76 : decode cX7_readsStep 76 = .ok (.bipush 41, 2) := by decide +kernel
theorem dX7_readsStep_78 : decode cX7_readsStep 78 = .ok (.iastore, 1) := by decide +kernel
theorem dX7_readsStep_79 : decode cX7_readsStep 79 = .ok (.aload_n 0, 1) := by decide +kernel
theorem dX7_readsStep_80 : decode cX7_readsStep 80 = .ok (.getfield 26, 3) := by decide +kernel
theorem dX7_readsStep_83 : decode cX7_readsStep 83 = .ok (.iconst 4, 1) := by decide +kernel
theorem dX7_readsStep_84 : decode cX7_readsStep 84 = .ok (.aload_n 0, 1) := by decide +kernel
theorem dX7_readsStep_85 : decode cX7_readsStep 85 = .ok (.getfield 128, 3) := by decide +kernel
theorem dX7_readsStep_88 : decode cX7_readsStep 88 = .ok (.imul, 1) := by decide +kernel
theorem dX7_readsStep_89 : decode cX7_readsStep 89 = .ok (.iconst 1, 1) := by decide +kernel
theorem dX7_readsStep_90 : decode cX7_readsStep 90 = .ok (.iadd, 1) := by decide +kernel
theorem dX7_readsStep_91 : decode cX7_readsStep 91 = .ok (.aload_n 0, 1) := by decide +kernel
theorem dX7_readsStep_92 : decode cX7_readsStep 92 = .ok (.getfield 29, 3) := by decide +kernel
theorem dX7_readsStep_95 : decode cX7_readsStep 95 = .ok (.aload_n 0, 1) := by decide +kernel
theorem dX7_readsStep_96 : decode cX7_readsStep 96 = .ok (.getfield 143, 3) := by decide +kernel
theorem dX7_readsStep_99 : decode cX7_readsStep 99 = .ok (.iaload, 1) := by decide +kernel
theorem dX7_readsStep_100 : decode cX7_readsStep 100 = .ok (.iastore, 1) := by decide +kernel
theorem dX7_readsStep_101 : decode cX7_readsStep 101 = .ok (.aload_n 0, 1) := by decide +kernel
theorem dX7_readsStep_102 : decode cX7_readsStep 102 = .ok (.dup, 1) := by decide +kernel
theorem dX7_readsStep_103 : decode cX7_readsStep 103 = .ok (.getfield 128, 3) := by decide +kernel
theorem dX7_readsStep_106 : decode cX7_readsStep 106 = .ok (.iconst 1, 1) := by decide +kernel
theorem dX7_readsStep_107 : decode cX7_readsStep 107 = .ok (.iadd, 1) := by decide +kernel
theorem dX7_readsStep_108 : decode cX7_readsStep 108 = .ok (.putfield 128, 3) := by decide +kernel
theorem dX7_readsStep_111 : decode cX7_readsStep 111 = .ok (.aload_n 0, 1) := by decide +kernel
theorem dX7_readsStep_112 : decode cX7_readsStep 112 = .ok (.dup, 1) := by decide +kernel
theorem dX7_readsStep_113 : decode cX7_readsStep 113 = .ok (.getfield 113, 3) := by decide +kernel
theorem dX7_readsStep_116 : decode cX7_readsStep 116 = .ok (.iconst 1, 1) := by decide +kernel
theorem dX7_readsStep_117 : decode cX7_readsStep 117 = .ok (.iadd, 1) := by decide +kernel
theorem dX7_readsStep_118 : decode cX7_readsStep 118 = .ok (.putfield 113, 3) := by decide +kernel
theorem dX7_readsStep_121 : decode cX7_readsStep 121 = .ok (.aload_n 0, 1) := by decide +kernel
theorem dX7_readsStep_122 : decode cX7_readsStep 122 = .ok (.invokevirtual 122, 3) := by decide +kernel
theorem dX7_readsStep_125 : decode cX7_readsStep 125 = .ok (.goto 98, 3) := by decide +kernel
theorem dX7_readsStep_128 : decode cX7_readsStep 128 = .ok (.aload_n 0, 1) := by decide +kernel
theorem dX7_readsStep_129 : decode cX7_readsStep 129 = .ok (.getfield 26, 3) := by decide +kernel
theorem dX7_readsStep_132 : decode cX7_readsStep 132 = .ok (.iconst 4, 1) := by decide +kernel
theorem dX7_readsStep_133 : decode cX7_readsStep 133 = .ok (.aload_n 0, 1) := by decide +kernel
theorem dX7_readsStep_134 : decode cX7_readsStep 134 = .ok (.getfield 128, 3) := by decide +kernel
theorem dX7_readsStep_137 : decode cX7_readsStep 137 = .ok (.imul, 1) := by decide +kernel
theorem dX7_readsStep_138 : decode cX7_readsStep 138 = .ok (.bipush 40, 2) := by decide +kernel
theorem dX7_readsStep_140 : decode cX7_readsStep 140 = .ok (.iastore, 1) := by decide +kernel
theorem dX7_readsStep_141 : decode cX7_readsStep 141 = .ok (.aload_n 0, 1) := by decide +kernel
theorem dX7_readsStep_142 : decode cX7_readsStep 142 = .ok (.getfield 26, 3) := by decide +kernel
theorem dX7_readsStep_145 : decode cX7_readsStep 145 = .ok (.iconst 4, 1) := by decide +kernel
theorem dX7_readsStep_146 : decode cX7_readsStep 146 = .ok (.aload_n 0, 1) := by decide +kernel
theorem dX7_readsStep_147 : decode cX7_readsStep 147 = .ok (.getfield 128, 3) := by decide +kernel
theorem dX7_readsStep_150 : decode cX7_readsStep 150 = .ok (.imul, 1) := by decide +kernel
theorem dX7_readsStep_151 : decode cX7_readsStep 151 = .ok (.iconst 1, 1) := by decide +kernel
theorem dX7_readsStep_152 : decode cX7_readsStep 152 = .ok (.iadd, 1) := by decide +kernel
theorem dX7_readsStep_153 : decode cX7_readsStep 153 = .ok (.aload_n 0, 1) := by decide +kernel
theorem dX7_readsStep_154 : decode cX7_readsStep 154 = .ok (.bipush 50, 2) := by decide +kernel
theorem dX7_readsStep_156 : decode cX7_readsStep 156 = .ok (.invokevirtual 137, 3) := by decide +kernel
theorem dX7_readsStep_159 : decode cX7_readsStep 159 = .ok (.iastore, 1) := by decide +kernel
theorem dX7_readsStep_160 : decode cX7_readsStep 160 = .ok (.aload_n 0, 1) := by decide +kernel
theorem dX7_readsStep_161 : decode cX7_readsStep 161 = .ok (.getfield 143, 3) := by decide +kernel
theorem dX7_readsStep_164 : decode cX7_readsStep 164 = .ok (.iconst 4, 1) := by decide +kernel
theorem dX7_readsStep_165 : decode cX7_readsStep 165 = .ok (.if_icmp .ne 11, 3) := by decide +kernel
theorem dX7_readsStep_168 : decode cX7_readsStep 168 = .ok (.aload_n 0, 1) := by decide +kernel
theorem dX7_readsStep_169 : decode cX7_readsStep 169 = .ok (.aload_n 0, 1) := by decide +kernel
theorem dX7_readsStep_170 : decode cX7_readsStep 170 = .ok (.getfield 113, 3) := by decide +kernel
theorem dX7_readsStep_173 : decode cX7_readsStep 173 = .ok (.invokevirtual 125, 3) := by decide +kernel
theorem dX7_readsStep_176 : decode cX7_readsStep 176 = .ok (.aload_n 0, 1) := by decide +kernel
theorem dX7_readsStep_177 : decode cX7_readsStep 177 = .ok (.bipush 40, 2) := by decide +kernel
theorem dX7_readsStep_179 : decode cX7_readsStep 179 = .ok (.invokevirtual 134, 3) := by decide +kernel
theorem dX7_readsStep_182 : decode cX7_readsStep 182 = .ok (.aload_n 0, 1) := by decide +kernel
theorem dX7_readsStep_183 : decode cX7_readsStep 183 = .ok (.getfield 119, 3) := by decide +kernel
theorem dX7_readsStep_186 : decode cX7_readsStep 186 = .ok (.iconst (-1), 1) := by decide +kernel
theorem dX7_readsStep_187 : decode cX7_readsStep 187 = .ok (.if_icmp .ne 36, 3) := by decide +kernel
theorem dX7_readsStep_190 : decode cX7_readsStep 190 = .ok (.aload_n 0, 1) := by decide +kernel
theorem dX7_readsStep_191 : decode cX7_readsStep 191 = .ok (.getfield 29, 3) := by decide +kernel
theorem dX7_readsStep_194 : decode cX7_readsStep 194 = .ok (.aload_n 0, 1) := by decide +kernel
theorem dX7_readsStep_195 : decode cX7_readsStep 195 = .ok (.getfield 143, 3) := by decide +kernel
theorem dX7_readsStep_198 : decode cX7_readsStep 198 = .ok (.aload_n 0, 1) := by decide +kernel
theorem dX7_readsStep_199 : decode cX7_readsStep 199 = .ok (.getfield 128, 3) := by decide +kernel
theorem dX7_readsStep_202 : decode cX7_readsStep 202 = .ok (.iastore, 1) := by decide +kernel
theorem dX7_readsStep_203 : decode cX7_readsStep 203 = .ok (.aload_n 0, 1) := by decide +kernel
theorem dX7_readsStep_204 : decode cX7_readsStep 204 = .ok (.dup, 1) := by decide +kernel
theorem dX7_readsStep_205 : decode cX7_readsStep 205 = .ok (.getfield 143, 3) := by decide +kernel
theorem dX7_readsStep_208 : decode cX7_readsStep 208 = .ok (.iconst 1, 1) := by decide +kernel
theorem dX7_readsStep_209 : decode cX7_readsStep 209 = .ok (.iadd, 1) := by decide +kernel
theorem dX7_readsStep_210 : decode cX7_readsStep 210 = .ok (.putfield 143, 3) := by decide +kernel
theorem dX7_readsStep_213 : decode cX7_readsStep 213 = .ok (.aload_n 0, 1) := by decide +kernel
theorem dX7_readsStep_214 : decode cX7_readsStep 214 = .ok (.dup, 1) := by decide +kernel
theorem dX7_readsStep_215 : decode cX7_readsStep 215 = .ok (.getfield 128, 3) := by decide +kernel
theorem dX7_readsStep_218 : decode cX7_readsStep 218 = .ok (.iconst 1, 1) := by decide +kernel
theorem dX7_readsStep_219 : decode cX7_readsStep 219 = .ok (.iadd, 1) := by decide +kernel
theorem dX7_readsStep_220 : decode cX7_readsStep 220 = .ok (.putfield 128, 3) := by decide +kernel
theorem dX7_readsStep_223 : decode cX7_readsStep 223 = .ok (.return_, 1) := by decide +kernel
theorem dX7_reads_0 : decode cX7_reads 0 = .ok (.aload_n 0, 1) := by decide +kernel
theorem dX7_reads_1 : decode cX7_reads 1 = .ok (.iconst 0, 1) := by decide +kernel
theorem dX7_reads_2 : decode cX7_reads 2 = .ok (.putfield 113, 3) := by decide +kernel
theorem dX7_reads_5 : decode cX7_reads 5 = .ok (.aload_n 0, 1) := by decide +kernel
theorem dX7_reads_6 : decode cX7_reads 6 = .ok (.iconst (-1), 1) := by decide +kernel
theorem dX7_reads_7 : decode cX7_reads 7 = .ok (.putfield 119, 3) := by decide +kernel
theorem dX7_reads_10 : decode cX7_reads 10 = .ok (.aload_n 0, 1) := by decide +kernel
theorem dX7_reads_11 : decode cX7_reads 11 = .ok (.iconst 0, 1) := by decide +kernel
theorem dX7_reads_12 : decode cX7_reads 12 = .ok (.putfield 128, 3) := by decide +kernel
theorem dX7_reads_15 : decode cX7_reads 15 = .ok (.aload_n 0, 1) := by decide +kernel
theorem dX7_reads_16 : decode cX7_reads 16 = .ok (.iconst 0, 1) := by decide +kernel
theorem dX7_reads_17 : decode cX7_reads 17 = .ok (.putfield 143, 3) := by decide +kernel
theorem dX7_reads_20 : decode cX7_reads 20 = .ok (.aload_n 0, 1) := by decide +kernel
theorem dX7_reads_21 : decode cX7_reads 21 = .ok (.invokevirtual 122, 3) := by decide +kernel
theorem dX7_reads_24 : decode cX7_reads 24 = .ok (.aload_n 0, 1) := by decide +kernel
theorem dX7_reads_25 : decode cX7_reads 25 = .ok (.getfield 113, 3) := by decide +kernel
theorem dX7_reads_28 : decode cX7_reads 28 = .ok (.aload_n 0, 1) := by decide +kernel
theorem dX7_reads_29 : decode cX7_reads 29 = .ok (.getfield 109, 3) := by decide +kernel
theorem dX7_reads_32 : decode cX7_reads 32 = .ok (.if_icmp .ge 18, 3) := by decide +kernel
theorem dX7_reads_35 : decode cX7_reads 35 = .ok (.aload_n 0, 1) := by decide +kernel
theorem dX7_reads_36 : decode cX7_reads 36 = .ok (.getfield 119, 3) := by decide +kernel
theorem dX7_reads_39 : decode cX7_reads 39 = .ok (.iconst (-1), 1) := by decide +kernel
theorem dX7_reads_40 : decode cX7_reads 40 = .ok (.if_icmp .ne 10, 3) := by decide +kernel
theorem dX7_reads_43 : decode cX7_reads 43 = .ok (.aload_n 0, 1) := by decide +kernel
theorem dX7_reads_44 : decode cX7_reads 44 = .ok (.invokevirtual 146, 3) := by decide +kernel
theorem dX7_reads_47 : decode cX7_reads 47 = .ok (.goto (-23), 3) := by decide +kernel
theorem dX7_reads_50 : decode cX7_reads 50 = .ok (.aload_n 0, 1) := by decide +kernel
theorem dX7_reads_51 : decode cX7_reads 51 = .ok (.getfield 143, 3) := by decide +kernel
theorem dX7_reads_54 : decode cX7_reads 54 = .ok (.ifCond .le 11, 3) := by decide +kernel
theorem dX7_reads_57 : decode cX7_reads 57 = .ok (.aload_n 0, 1) := by decide +kernel
theorem dX7_reads_58 : decode cX7_reads 58 = .ok (.aload_n 0, 1) := by decide +kernel
theorem dX7_reads_59 : decode cX7_reads 59 = .ok (.getfield 109, 3) := by decide +kernel
theorem dX7_reads_62 : decode cX7_reads 62 = .ok (.invokevirtual 125, 3) := by decide +kernel
theorem dX7_reads_65 : decode cX7_reads 65 = .ok (.return_, 1) := by decide +kernel
theorem dX7_calls_0 : decode cX7_calls 0 = .ok (.aload_n 0, 1) := by decide +kernel
theorem dX7_calls_1 : decode cX7_calls 1 = .ok (.getfield 26, 3) := by decide +kernel
theorem dX7_calls_4 : decode cX7_calls 4 = .ok (.iconst 4, 1) := by decide +kernel
theorem dX7_calls_5 : decode cX7_calls 5 = .ok (.iload_n 1, 1) := by decide +kernel
theorem dX7_calls_6 : decode cX7_calls 6 = .ok (.imul, 1) := by decide +kernel
theorem dX7_calls_7 : decode cX7_calls 7 = .ok (.iconst 1, 1) := by decide +kernel
theorem dX7_calls_8 : decode cX7_calls 8 = .ok (.iadd, 1) := by decide +kernel
theorem dX7_calls_9 : decode cX7_calls 9 = .ok (.iaload, 1) := by decide +kernel
theorem dX7_calls_10 : decode cX7_calls 10 = .ok (.istore_n 2, 1) := by decide +kernel
theorem dX7_calls_11 : decode cX7_calls 11 = .ok (.aload_n 0, 1) := by decide +kernel
theorem dX7_calls_12 : decode cX7_calls 12 = .ok (.getfield 26, 3) := by decide +kernel
theorem dX7_calls_15 : decode cX7_calls 15 = .ok (.iconst 4, 1) := by decide +kernel
theorem dX7_calls_16 : decode cX7_calls 16 = .ok (.iload_n 1, 1) := by decide +kernel
theorem dX7_calls_17 : decode cX7_calls 17 = .ok (.imul, 1) := by decide +kernel
theorem dX7_calls_18 : decode cX7_calls 18 = .ok (.iaload, 1) := by decide +kernel
theorem dX7_calls_19 : decode cX7_calls 19 = .ok (.lookupswitch 85 #[(99, 79), (108, 73), (114, 41), (119, 67)], 41) := by decide +kernel
theorem dX7_calls_60 : decode cX7_calls 60 = .ok (.aload_n 0, 1) := by decide +kernel
theorem dX7_calls_61 : decode cX7_calls 61 = .ok (.iload_n 2, 1) := by decide +kernel
theorem dX7_calls_62 : decode cX7_calls 62 = .ok (.aload_n 0, 1) := by decide +kernel
theorem dX7_calls_63 : decode cX7_calls 63 = .ok (.getfield 26, 3) := by decide +kernel
theorem dX7_calls_66 : decode cX7_calls 66 = .ok (.iconst 4, 1) := by decide +kernel
theorem dX7_calls_67 : decode cX7_calls 67 = .ok (.iload_n 1, 1) := by decide +kernel
theorem dX7_calls_68 : decode cX7_calls 68 = .ok (.imul, 1) := by decide +kernel
theorem dX7_calls_69 : decode cX7_calls 69 = .ok (.iconst 2, 1) := by decide +kernel
theorem dX7_calls_70 : decode cX7_calls 70 = .ok (.iadd, 1) := by decide +kernel
theorem dX7_calls_71 : decode cX7_calls 71 = .ok (.iaload, 1) := by decide +kernel
theorem dX7_calls_72 : decode cX7_calls 72 = .ok (.aload_n 0, 1) := by decide +kernel
theorem dX7_calls_73 : decode cX7_calls 73 = .ok (.getfield 26, 3) := by decide +kernel
theorem dX7_calls_76 : decode cX7_calls 76 = .ok (.iconst 4, 1) := by decide +kernel
theorem dX7_calls_77 : decode cX7_calls 77 = .ok (.iload_n 1, 1) := by decide +kernel
theorem dX7_calls_78 : decode cX7_calls 78 = .ok (.imul, 1) := by decide +kernel
theorem dX7_calls_79 : decode cX7_calls 79 = .ok (.iconst 3, 1) := by decide +kernel
theorem dX7_calls_80 : decode cX7_calls 80 = .ok (.iadd, 1) := by decide +kernel
theorem dX7_calls_81 : decode cX7_calls 81 = .ok (.iaload, 1) := by decide +kernel
theorem dX7_calls_82 : decode cX7_calls 82 = .ok (.invokevirtual 149, 3) := by decide +kernel
theorem dX7_calls_85 : decode cX7_calls 85 = .ok (.ireturn, 1) := by decide +kernel
theorem dX7_calls_86 : decode cX7_calls 86 = .ok (.aload_n 0, 1) := by decide +kernel
theorem dX7_calls_87 : decode cX7_calls 87 = .ok (.iload_n 2, 1) := by decide +kernel
theorem dX7_calls_88 : decode cX7_calls 88 = .ok (.invokevirtual 153, 3) := by decide +kernel
theorem dX7_calls_91 : decode cX7_calls 91 = .ok (.ireturn, 1) := by decide +kernel
theorem dX7_calls_92 : decode cX7_calls 92 = .ok (.aload_n 0, 1) := by decide +kernel
theorem dX7_calls_93 : decode cX7_calls 93 = .ok (.iload_n 2, 1) := by decide +kernel
theorem dX7_calls_94 : decode cX7_calls 94 = .ok (.invokevirtual 156, 3) := by decide +kernel
theorem dX7_calls_97 : decode cX7_calls 97 = .ok (.ireturn, 1) := by decide +kernel
theorem dX7_calls_98 : decode cX7_calls 98 = .ok (.aload_n 0, 1) := by decide +kernel
theorem dX7_calls_99 : decode cX7_calls 99 = .ok (.iload_n 2, 1) := by decide +kernel
theorem dX7_calls_100 : decode cX7_calls 100 = .ok (.invokevirtual 159, 3) := by decide +kernel
theorem dX7_calls_103 : decode cX7_calls 103 = .ok (.ireturn, 1) := by decide +kernel
theorem dX7_calls_104 : decode cX7_calls 104 = .ok (.aload_n 0, 1) := by decide +kernel
theorem dX7_calls_105 : decode cX7_calls 105 = .ok (.aload_n 0, 1) := by decide +kernel
theorem dX7_calls_106 : decode cX7_calls 106 = .ok (.getfield 26, 3) := by decide +kernel
theorem dX7_calls_109 : decode cX7_calls 109 = .ok (.iconst 4, 1) := by decide +kernel
theorem dX7_calls_110 : decode cX7_calls 110 = .ok (.iload_n 1, 1) := by decide +kernel
theorem dX7_calls_111 : decode cX7_calls 111 = .ok (.imul, 1) := by decide +kernel
theorem dX7_calls_112 : decode cX7_calls 112 = .ok (.iconst 3, 1) := by decide +kernel
theorem dX7_calls_113 : decode cX7_calls 113 = .ok (.iadd, 1) := by decide +kernel
theorem dX7_calls_114 : decode cX7_calls 114 = .ok (.iaload, 1) := by decide +kernel
theorem dX7_calls_115 : decode cX7_calls 115 = .ok (.invokevirtual 162, 3) := by decide +kernel
theorem dX7_calls_118 : decode cX7_calls 118 = .ok (.ireturn, 1) := by decide +kernel
theorem dX7_run_0 : decode cX7_run 0 = .ok (.aload_n 0, 1) := by decide +kernel
theorem dX7_run_1 : decode cX7_run 1 = .ok (.invokevirtual 165, 3) := by decide +kernel
theorem dX7_run_4 : decode cX7_run 4 = .ok (.aload_n 0, 1) := by decide +kernel
theorem dX7_run_5 : decode cX7_run 5 = .ok (.getfield 119, 3) := by decide +kernel
theorem dX7_run_8 : decode cX7_run 8 = .ok (.iconst (-1), 1) := by decide +kernel
theorem dX7_run_9 : decode cX7_run 9 = .ok (.if_icmp .eq 12, 3) := by decide +kernel
theorem dX7_run_12 : decode cX7_run 12 = .ok (.sipush (-2000), 3) := by decide +kernel
theorem dX7_run_15 : decode cX7_run 15 = .ok (.aload_n 0, 1) := by decide +kernel
theorem dX7_run_16 : decode cX7_run 16 = .ok (.getfield 119, 3) := by decide +kernel
theorem dX7_run_19 : decode cX7_run 19 = .ok (.isub, 1) := by decide +kernel
theorem dX7_run_20 : decode cX7_run 20 = .ok (.ireturn, 1) := by decide +kernel
theorem dX7_run_21 : decode cX7_run 21 = .ok (.iconst 0, 1) := by decide +kernel
theorem dX7_run_22 : decode cX7_run 22 = .ok (.istore_n 1, 1) := by decide +kernel
theorem dX7_run_23 : decode cX7_run 23 = .ok (.iconst 0, 1) := by decide +kernel
theorem dX7_run_24 : decode cX7_run 24 = .ok (.istore_n 2, 1) := by decide +kernel
theorem dX7_run_25 : decode cX7_run 25 = .ok (.iconst 0, 1) := by decide +kernel
theorem dX7_run_26 : decode cX7_run 26 = .ok (.istore_n 3, 1) := by decide +kernel
theorem dX7_run_27 : decode cX7_run 27 = .ok (.iconst 0, 1) := by decide +kernel
theorem dX7_run_28 : decode cX7_run 28 = .ok (.istore 4, 2) := by decide +kernel
theorem dX7_run_30 : decode cX7_run 30 = .ok (.iload 4, 2) := by decide +kernel
theorem dX7_run_32 : decode cX7_run 32 = .ok (.aload_n 0, 1) := by decide +kernel
theorem dX7_run_33 : decode cX7_run 33 = .ok (.getfield 128, 3) := by decide +kernel
theorem dX7_run_36 : decode cX7_run 36 = .ok (.if_icmp .ge 203, 3) := by decide +kernel
theorem dX7_run_39 : decode cX7_run 39 = .ok (.iload_n 1, 1) := by decide +kernel
theorem dX7_run_40 : decode cX7_run 40 = .ok (.sipush 200, 3) := by decide +kernel
theorem dX7_run_43 : decode cX7_run 43 = .ok (.if_icmp .gt 196, 3) := by decide +kernel
theorem dX7_run_46 : decode cX7_run 46 = .ok (.aload_n 0, 1) := by decide +kernel
theorem dX7_run_47 : decode cX7_run 47 = .ok (.getfield 26, 3) := by decide +kernel
theorem dX7_run_50 : decode cX7_run 50 = .ok (.iconst 4, 1) := by decide +kernel
theorem dX7_run_51 : decode cX7_run 51 = .ok (.iload 4, 2) := by decide +kernel
theorem dX7_run_53 : decode cX7_run 53 = .ok (.imul, 1) := by decide +kernel
theorem dX7_run_54 : decode cX7_run 54 = .ok (.iaload, 1) := by decide +kernel
theorem dX7_run_55 : decode cX7_run 55 = .ok (.istore 5, 2) := by decide +kernel
theorem dX7_run_57 : decode cX7_run 57 = .ok (.iload 5, 2) := by decide +kernel
theorem dX7_run_59 : decode cX7_run 59 = .ok (.bipush 41, 2) := by decide +kernel
theorem dX7_run_61 : decode cX7_run 61 = .ok (.if_icmp .ne 19, 3) := by decide +kernel
theorem dX7_run_64 : decode cX7_run 64 = .ok (.aload_n 0, 1) := by decide +kernel
theorem dX7_run_65 : decode cX7_run 65 = .ok (.getfield 32, 3) := by decide +kernel
theorem dX7_run_68 : decode cX7_run 68 = .ok (.iload_n 3, 1) := by decide +kernel
theorem dX7_run_69 : decode cX7_run 69 = .ok (.iconst 1, 1) := by decide +kernel
theorem dX7_run_70 : decode cX7_run 70 = .ok (.isub, 1) := by decide +kernel
theorem dX7_run_71 : decode cX7_run 71 = .ok (.iaload, 1) := by decide +kernel
theorem dX7_run_72 : decode cX7_run 72 = .ok (.iconst 1, 1) := by decide +kernel
theorem dX7_run_73 : decode cX7_run 73 = .ok (.if_icmp .le 7, 3) := by decide +kernel
theorem dX7_run_76 : decode cX7_run 76 = .ok (.iconst 1, 1) := by decide +kernel
theorem dX7_run_77 : decode cX7_run 77 = .ok (.goto 4, 3) := by decide +kernel
theorem dX7_run_80 : decode cX7_run 80 = .ok (.iconst 0, 1) := by decide +kernel
theorem dX7_run_81 : decode cX7_run 81 = .ok (.istore 6, 2) := by decide +kernel
theorem dX7_run_83 : decode cX7_run 83 = .ok (.iload 5, 2) := by decide +kernel
