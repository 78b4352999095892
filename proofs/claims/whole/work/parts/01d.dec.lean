theorem dX6_collapse_40 : decode cX6_collapse 40 = .ok (.getfield 92, 3) := by decide +kernel
theorem dX6_collapse_43 : decode cX6_collapse 43 = .ok (.istore_n 3, 1) := by decide +kernel
theorem dX6_collapse_44 : decode cX6_collapse 44 = .ok (.aload_n 2, 1) := by decide +kernel
theorem dX6_collapse_45 : decode cX6_collapse 45 = .ok (.iconst 3, 1) := by decide +kernel
theorem dX6_collapse_46 : decode cX6_collapse 46 = .ok (.aload_n 2, 1) := by decide +kernel
theorem dX6_collapse_47 : decode cX6_collapse 47 = .ok (.getfield 101, 3) := by decide +kernel
theorem dX6_collapse_50 : decode cX6_collapse 50 = .ok (.aload_n 0, 1) := by decide +kernel
theorem dX6_collapse_51 : decode cX6_collapse 51 = .ok (.getfield 10, 3) := by decide +kernel
theorem dX6_collapse_54 : decode cX6_collapse 54 = .ok (.getfield 82, 3) := by decide +kernel
theorem dX6_collapse_57 : decode cX6_collapse 57 = .ok (.iconst 0, 1) := by decide +kernel
theorem dX6_collapse_58 : decode cX6_collapse 58 = .ok (.invokevirtual 104, 3) := by decide +kernel
theorem dX6_collapse_61 : decode cX6_collapse 61 = .ok (.iload_n 3, 1) := by decide +kernel
theorem dX6_collapse_62 : decode cX6_collapse 62 = .ok (.ireturn, 1) := by decide +kernel
theorem dX6_pass_0 : decode cX6_pass 0 = .ok (.iload_n 1, 1) := by decide +kernel
theorem dX6_pass_1 : decode cX6_pass 1 = .ok (.iconst 1, 1) := by decide +kernel
theorem dX6_pass_2 : decode cX6_pass 2 = .ok (.sipush 999, 3) := by decide +kernel
theorem dX6_pass_5 : decode cX6_pass 5 = .ok (.invokestatic 38, 3) := by decide +kernel
theorem dX6_pass_8 : decode cX6_pass 8 = .ok (.ifCond .ne 6, 3) := by decide +kernel
theorem dX6_pass_11 : decode cX6_pass 11 = .ok (.bipush (-2), 2) := by decide +kernel
theorem dX6_pass_13 : decode cX6_pass 13 = .ok (.ireturn, 1) := by decide +kernel
theorem dX6_pass_14 : decode cX6_pass 14 = .ok (.aload_n 0, 1) := by decide +kernel
theorem dX6_pass_15 : decode cX6_pass 15 = .ok (.getfield 10, 3) := by decide +kernel
theorem dX6_pass_18 : decode cX6_pass 18 = .ok (.getfield 82, 3) := by decide +kernel
theorem dX6_pass_21 : decode cX6_pass 21 = .ok (.iload_n 1, 1) := by decide +kernel
theorem dX6_pass_22 : decode cX6_pass 22 = .ok (.iadd, 1) := by decide +kernel
theorem dX6_pass_23 : decode cX6_pass 23 = .ok (.istore_n 2, 1) := by decide +kernel
theorem dX6_pass_24 : decode cX6_pass 24 = .ok (.iload_n 2, 1) := by decide +kernel
theorem dX6_pass_25 : decode cX6_pass 25 = .ok (.sipush 20000, 3) := by decide +kernel
theorem dX6_pass_28 : decode cX6_pass 28 = .ok (.if_icmp .le 6, 3) := by decide +kernel
theorem dX6_pass_31 : decode cX6_pass 31 = .ok (.bipush (-4), 2) := by decide +kernel
theorem dX6_pass_33 : decode cX6_pass 33 = .ok (.ireturn, 1) := by decide +kernel
theorem dX6_pass_34 : decode cX6_pass 34 = .ok (.iconst 0, 1) := by decide +kernel
theorem dX6_pass_35 : decode cX6_pass 35 = .ok (.istore_n 3, 1) := by decide +kernel
theorem dX6_pass_36 : decode cX6_pass 36 = .ok (.iload_n 3, 1) := by decide +kernel
theorem dX6_pass_37 : decode cX6_pass 37 = .ok (.iload_n 1, 1) := by decide +kernel
theorem dX6_pass_38 : decode cX6_pass 38 = .ok (.if_icmp .ge 35, 3) := by decide +kernel
theorem dX6_pass_41 : decode cX6_pass 41 = .ok (.aload_n 0, 1) := by decide +kernel
theorem dX6_pass_42 : decode cX6_pass 42 = .ok (.getfield 10, 3) := by decide +kernel
theorem dX6_pass_45 : decode cX6_pass 45 = .ok (.getfield 82, 3) := by decide +kernel
theorem dX6_pass_48 : decode cX6_pass 48 = .ok (.iload_n 2, 1) := by decide +kernel
theorem dX6_pass_49 : decode cX6_pass 49 = .ok (.if_icmp .ge 24, 3) := by decide +kernel
theorem dX6_pass_52 : decode cX6_pass 52 = .ok (.aload_n 0, 1) := by decide +kernel
theorem dX6_pass_53 : decode cX6_pass 53 = .ok (.getfield 10, 3) := by decide +kernel
theorem dX6_pass_56 : decode cX6_pass 56 = .ok (.invokevirtual 108, 3) := by decide +kernel
theorem dX6_pass_59 : decode cX6_pass 59 = .ok (.aload_n 0, 1) := by decide +kernel
theorem dX6_pass_60 : decode cX6_pass 60 = .ok (.getfield 10, 3) := by decide +kernel
theorem dX6_pass_63 : decode cX6_pass 63 = .ok (.iload_n 2, 1) := by decide +kernel
theorem dX6_pass_64 : decode cX6_pass 64 = .ok (.invokevirtual 111, 3) := by decide +kernel
theorem dX6_pass_67 : decode cX6_pass 67 = .ok (.iinc 3 1, 3) := by decide +kernel
theorem dX6_pass_70 : decode cX6_pass 70 = .ok (.goto (-34), 3) := by decide +kernel
theorem dX6_pass_73 : decode cX6_pass 73 = .ok (.aload_n 0, 1) := by decide +kernel
theorem dX6_pass_74 : decode cX6_pass 74 = .ok (.getfield 10, 3) := by decide +kernel
theorem dX6_pass_77 : decode cX6_pass 77 = .ok (.getfield 82, 3) := by decide +kernel
theorem dX6_pass_80 : decode cX6_pass 80 = .ok (.ireturn, 1) := by decide +kernel
theorem dX6_member_0 : decode cX6_member 0 = .ok (.iload_n 1, 1) := by decide +kernel
theorem dX6_member_1 : decode cX6_member 1 = .ok (.invokestatic 63, 3) := by decide +kernel
theorem dX6_member_4 : decode cX6_member 4 = .ok (.ifCond .eq 12, 3) := by decide +kernel
theorem dX6_member_7 : decode cX6_member 7 = .ok (.iload_n 2, 1) := by decide +kernel
theorem dX6_member_8 : decode cX6_member 8 = .ok (.iconst 0, 1) := by decide +kernel
theorem dX6_member_9 : decode cX6_member 9 = .ok (.iconst 4, 1) := by decide +kernel
theorem dX6_member_10 : decode cX6_member 10 = .ok (.invokestatic 38, 3) := by decide +kernel
theorem dX6_member_13 : decode cX6_member 13 = .ok (.ifCond .ne 6, 3) := by decide +kernel
theorem dX6_member_16 : decode cX6_member 16 = .ok (.bipush (-2), 2) := by decide +kernel
theorem dX6_member_18 : decode cX6_member 18 = .ok (.ireturn, 1) := by decide +kernel
theorem dX6_member_19 : decode cX6_member 19 = .ok (.aload_n 0, 1) := by decide +kernel
theorem dX6_member_20 : decode cX6_member 20 = .ok (.getfield 10, 3) := by decide +kernel
theorem dX6_member_23 : decode cX6_member 23 = .ok (.getfield 66, 3) := by decide +kernel
theorem dX6_member_26 : decode cX6_member 26 = .ok (.iload_n 1, 1) := by decide +kernel
theorem dX6_member_27 : decode cX6_member 27 = .ok (.aaload, 1) := by decide +kernel
theorem dX6_member_28 : decode cX6_member 28 = .ok (.astore_n 3, 1) := by decide +kernel
theorem dX6_member_29 : decode cX6_member 29 = .ok (.iload_n 2, 1) := by decide +kernel
theorem dX6_member_30 : decode cX6_member 30 = .ok (.tableswitch 50 0 3 #[30, 35, 40, 45], 30) := by decide +kernel
theorem dX6_member_60 : decode cX6_member 60 = .ok (.aload_n 3, 1) := by decide +kernel
theorem dX6_member_61 : decode cX6_member 61 = .ok (.getfield 70, 3) := by decide +kernel
theorem dX6_member_64 : decode cX6_member 64 = .ok (.ireturn, 1) := by decide +kernel
theorem dX6_member_65 : decode cX6_member 65 = .ok (.aload_n 3, 1) := by decide +kernel
theorem dX6_member_66 : decode cX6_member 66 = .ok (.getfield 101, 3) := by decide +kernel
theorem dX6_member_69 : decode cX6_member 69 = .ok (.ireturn, 1) := by decide +kernel
theorem dX6_member_70 : decode cX6_member 70 = .ok (.aload_n 3, 1) := by decide +kernel
theorem dX6_member_71 : decode cX6_member 71 = .ok (.getfield 85, 3) := by decide +kernel
theorem dX6_member_74 : decode cX6_member 74 = .ok (.ireturn, 1) := by decide +kernel
theorem dX6_member_75 : decode cX6_member 75 = .ok (.aload_n 3, 1) := by decide +kernel
theorem dX6_member_76 : decode cX6_member 76 = .ok (.getfield 92, 3) := by decide +kernel
theorem dX6_member_79 : decode cX6_member 79 = .ok (.ireturn, 1) := by decide +kernel
theorem dX6_member_80 : decode cX6_member 80 = .ok (.aload_n 0, 1) := by decide +kernel
theorem dX6_member_81 : decode cX6_member 81 = .ok (.getfield 10, 3) := by decide +kernel
theorem dX6_member_84 : decode cX6_member 84 = .ok (.iload_n 1, 1) := by decide +kernel
theorem dX6_member_85 : decode cX6_member 85 = .ok (.invokevirtual 114, 3) := by decide +kernel
theorem dX6_member_88 : decode cX6_member 88 = .ok (.ireturn, 1) := by decide +kernel
theorem dX6_room_0 : decode cX6_room 0 = .ok (.iload_n 1, 1) := by decide +kernel
theorem dX6_room_1 : decode cX6_room 1 = .ok (.invokestatic 34, 3) := by decide +kernel
theorem dX6_room_4 : decode cX6_room 4 = .ok (.ifCond .eq 13, 3) := by decide +kernel
theorem dX6_room_7 : decode cX6_room 7 = .ok (.iload_n 2, 1) := by decide +kernel
theorem dX6_room_8 : decode cX6_room 8 = .ok (.iconst 0, 1) := by decide +kernel
theorem dX6_room_9 : decode cX6_room 9 = .ok (.bipush 9, 2) := by decide +kernel
theorem dX6_room_11 : decode cX6_room 11 = .ok (.invokestatic 38, 3) := by decide +kernel
theorem dX6_room_14 : decode cX6_room 14 = .ok (.ifCond .ne 6, 3) := by decide +kernel
theorem dX6_room_17 : decode cX6_room 17 = .ok (.bipush (-2), 2) := by decide +kernel
theorem dX6_room_19 : decode cX6_room 19 = .ok (.ireturn, 1) := by decide +kernel
theorem dX6_room_20 : decode cX6_room 20 = .ok (.aload_n 0, 1) := by decide +kernel
theorem dX6_room_21 : decode cX6_room 21 = .ok (.getfield 10, 3) := by decide +kernel
theorem dX6_room_24 : decode cX6_room 24 = .ok (.getfield 42, 3) := by decide +kernel
theorem dX6_room_27 : decode cX6_room 27 = .ok (.iload_n 1, 1) := by decide +kernel
theorem dX6_room_28 : decode cX6_room 28 = .ok (.aaload, 1) := by decide +kernel
theorem dX6_room_29 : decode cX6_room 29 = .ok (.astore_n 3, 1) := by decide +kernel
theorem dX6_room_30 : decode cX6_room 30 = .ok (.iload_n 2, 1) := by decide +kernel
theorem dX6_room_31 : decode cX6_room 31 = .ok (.tableswitch 98 0 8 #[49, 54, 59, 64, 69, 78, 83, 88, 93], 49) := by decide +kernel
theorem dX6_room_80 : decode cX6_room 80 = .ok (.aload_n 3, 1) := by decide +kernel
theorem dX6_room_81 : decode cX6_room 81 = .ok (.getfield 46, 3) := by decide +kernel
theorem dX6_room_84 : decode cX6_room 84 = .ok (.ireturn, 1) := by decide +kernel
theorem dX6_room_85 : decode cX6_room 85 = .ok (.aload_n 3, 1) := by decide +kernel
theorem dX6_room_86 : decode cX6_room 86 = .ok (.getfield 52, 3) := by decide +kernel
theorem dX6_room_89 : decode cX6_room 89 = .ok (.ireturn, 1) := by decide +kernel
theorem dX6_room_90 : decode cX6_room 90 = .ok (.aload_n 3, 1) := by decide +kernel
theorem dX6_room_91 : decode cX6_room 91 = .ok (.getfield 117, 3) := by decide +kernel
theorem dX6_room_94 : decode cX6_room 94 = .ok (.ireturn, 1) := by decide +kernel
theorem dX6_room_95 : decode cX6_room 95 = .ok (.aload_n 3, 1) := by decide +kernel
theorem dX6_room_96 : decode cX6_room 96 = .ok (.getfield 120, 3) := by decide +kernel
theorem dX6_room_99 : decode cX6_room 99 = .ok (.ireturn, 1) := by decide +kernel
theorem dX6_room_100 : decode cX6_room 100 = .ok (.aload_n 0, 1) := by decide +kernel
theorem dX6_room_101 : decode cX6_room 101 = .ok (.getfield 10, 3) := by decide +kernel
theorem dX6_room_104 : decode cX6_room 104 = .ok (.iload_n 1, 1) := by decide +kernel
theorem dX6_room_105 : decode cX6_room 105 = .ok (.invokevirtual 123, 3) := by decide +kernel
theorem dX6_room_108 : decode cX6_room 108 = .ok (.ireturn, 1) := by decide +kernel
theorem dX6_room_109 : decode cX6_room 109 = .ok (.aload_n 3, 1) := by decide +kernel
theorem dX6_room_110 : decode cX6_room 110 = .ok (.getfield 126, 3) := by decide +kernel
theorem dX6_room_113 : decode cX6_room 113 = .ok (.ireturn, 1) := by decide +kernel
theorem dX6_room_114 : decode cX6_room 114 = .ok (.aload_n 3, 1) := by decide +kernel
theorem dX6_room_115 : decode cX6_room 115 = .ok (.getfield 129, 3) := by decide +kernel
theorem dX6_room_118 : decode cX6_room 118 = .ok (.ireturn, 1) := by decide +kernel
theorem dX6_room_119 : decode cX6_room 119 = .ok (.aload_n 3, 1) := by decide +kernel
theorem dX6_room_120 : decode cX6_room 120 = .ok (.getfield 132, 3) := by decide +kernel
theorem dX6_room_123 : decode cX6_room 123 = .ok (.ireturn, 1) := by decide +kernel
theorem dX6_room_124 : decode cX6_room 124 = .ok (.aload_n 3, 1) := by decide +kernel
theorem dX6_room_125 : decode cX6_room 125 = .ok (.getfield 135, 3) := by decide +kernel
theorem dX6_room_128 : decode cX6_room 128 = .ok (.ireturn, 1) := by decide +kernel
theorem dX6_room_129 : decode cX6_room 129 = .ok (.aload_n 3, 1) := by decide +kernel
theorem dX6_room_130 : decode cX6_room 130 = .ok (.getfield 138, 3) := by decide +kernel
theorem dX6_room_133 : decode cX6_room 133 = .ok (.ireturn, 1) := by decide +kernel
theorem dX6_queue_0 : decode cX6_queue 0 = .ok (.iload_n 1, 1) := by decide +kernel
theorem dX6_queue_1 : decode cX6_queue 1 = .ok (.invokestatic 34, 3) := by decide +kernel
theorem dX6_queue_4 : decode cX6_queue 4 = .ok (.ifCond .eq 7, 3) := by decide +kernel
theorem dX6_queue_7 : decode cX6_queue 7 = .ok (.iload_n 2, 1) := by decide +kernel
theorem dX6_queue_8 : decode cX6_queue 8 = .ok (.ifCond .ge 6, 3) := by decide +kernel
theorem dX6_queue_11 : decode cX6_queue 11 = .ok (.bipush (-2), 2) := by decide +kernel
theorem dX6_queue_13 : decode cX6_queue 13 = .ok (.ireturn, 1) := by decide +kernel
theorem dX6_queue_14 : decode cX6_queue 14 = .ok (.aload_n 0, 1) := by decide +kernel
theorem dX6_queue_15 : decode cX6_queue 15 = .ok (.getfield 10, 3) := by decide +kernel
theorem dX6_queue_18 : decode cX6_queue 18 = .ok (.iload_n 1, 1) := by decide +kernel
theorem dX6_queue_19 : decode cX6_queue 19 = .ok (.iload_n 2, 1) := by decide +kernel
theorem dX6_queue_20 : decode cX6_queue 20 = .ok (.invokevirtual 141, 3) := by decide +kernel
theorem dX6_queue_23 : decode cX6_queue 23 = .ok (.ireturn, 1) := by decide +kernel
theorem dX6_event_0 : decode cX6_event 0 = .ok (.iload_n 1, 1) := by decide +kernel
theorem dX6_event_1 : decode cX6_event 1 = .ok (.ifCond .lt 12, 3) := by decide +kernel
theorem dX6_event_4 : decode cX6_event 4 = .ok (.iload_n 2, 1) := by decide +kernel
theorem dX6_event_5 : decode cX6_event 5 = .ok (.iconst 0, 1) := by decide +kernel
theorem dX6_event_6 : decode cX6_event 6 = .ok (.iconst 3, 1) := by decide +kernel
theorem dX6_event_7 : decode cX6_event 7 = .ok (.invokestatic 38, 3) := by decide +kernel
theorem dX6_event_10 : decode cX6_event 10 = .ok (.ifCond .ne 6, 3) := by decide +kernel
theorem dX6_event_13 : decode cX6_event 13 = .ok (.bipush (-2), 2) := by decide +kernel
theorem dX6_event_15 : decode cX6_event 15 = .ok (.ireturn, 1) := by decide +kernel
theorem dX6_event_16 : decode cX6_event 16 = .ok (.aload_n 0, 1) := by decide +kernel
theorem dX6_event_17 : decode cX6_event 17 = .ok (.getfield 10, 3) := by decide +kernel
theorem dX6_event_20 : decode cX6_event 20 = .ok (.getfield 145, 3) := by decide +kernel
theorem dX6_event_23 : decode cX6_event 23 = .ok (.iload_n 1, 1) := by decide +kernel
theorem dX6_event_24 : decode cX6_event 24 = .ok (.iload_n 2, 1) := by decide +kernel
theorem dX6_event_25 : decode cX6_event 25 = .ok (.invokevirtual 149, 3) := by decide +kernel
theorem dX6_event_28 : decode cX6_event 28 = .ok (.ireturn, 1) := by decide +kernel
theorem dX6_unfairness_0 : decode cX6_unfairness 0 = .ok (.iconst 0, 1) := by decide +kernel
theorem dX6_unfairness_1 : decode cX6_unfairness 1 = .ok (.istore_n 1, 1) := by decide +kernel
theorem dX6_unfairness_2 : decode cX6_unfairness 2 = .ok (.iconst 0, 1) := by decide +kernel
theorem dX6_unfairness_3 : decode cX6_unfairness 3 = .ok (.istore_n 2, 1) := by decide +kernel
theorem dX6_unfairness_4 : decode cX6_unfairness 4 = .ok (.iconst 0, 1) := by decide +kernel
theorem dX6_unfairness_5 : decode cX6_unfairness 5 = .ok (.istore_n 3, 1) := by decide +kernel
theorem dX6_unfairness_6 : decode cX6_unfairness 6 = .ok (.iconst 0, 1) := by decide +kernel
theorem dX6_unfairness_7 : decode cX6_unfairness 7 = .ok (.istore 4, 2) := by decide +kernel
theorem dX6_unfairness_9 : decode cX6_unfairness 9 = .ok (.iload 4, 2) := by decide +kernel
theorem dX6_unfairness_11 : decode cX6_unfairness 11 = .ok (.iconst 5, 1) := by decide +kernel
theorem dX6_unfairness_12 : decode cX6_unfairness 12 = .ok (.if_icmp .ge 80, 3) := by decide +kernel
theorem dX6_unfairness_15 : decode cX6_unfairness 15 = .ok (.aload_n 0, 1) := by decide +kernel
theorem dX6_unfairness_16 : decode cX6_unfairness 16 = .ok (.getfield 10, 3) := by decide +kernel
theorem dX6_unfairness_19 : decode cX6_unfairness 19 = .ok (.getfield 42, 3) := by decide +kernel
theorem dX6_unfairness_22 : decode cX6_unfairness 22 = .ok (.iload 4, 2) := by decide +kernel
theorem dX6_unfairness_24 : decode cX6_unfairness 24 = .ok (.aaload, 1) := by decide +kernel
theorem dX6_unfairness_25 : decode cX6_unfairness 25 = .ok (.astore 5, 2) := by decide +kernel
theorem dX6_unfairness_27 : decode cX6_unfairness 27 = .ok (.aload 5, 2) := by decide +kernel
theorem dX6_unfairness_29 : decode cX6_unfairness 29 = .ok (.getfield 126, 3) := by decide +kernel
theorem dX6_unfairness_32 : decode cX6_unfairness 32 = .ok (.ifCond .le 54, 3) := by decide +kernel
theorem dX6_unfairness_35 : decode cX6_unfairness 35 = .ok (.aload 5, 2) := by decide +kernel
theorem dX6_unfairness_37 : decode cX6_unfairness 37 = .ok (.aload 5, 2) := by decide +kernel
theorem dX6_unfairness_39 : decode cX6_unfairness 39 = .ok (.getfield 132, 3) := by decide +kernel
theorem dX6_unfairness_42 : decode cX6_unfairness 42 = .ok (.sipush 2520, 3) := by decide +kernel
theorem dX6_unfairness_45 : decode cX6_unfairness 45 = .ok (.imul, 1) := by decide +kernel
theorem dX6_unfairness_46 : decode cX6_unfairness 46 = .ok (.invokevirtual 152, 3) := by decide +kernel
theorem dX6_unfairness_49 : decode cX6_unfairness 49 = .ok (.istore 6, 2) := by decide +kernel
theorem dX6_unfairness_51 : decode cX6_unfairness 51 = .ok (.iload_n 1, 1) := by decide +kernel
theorem dX6_unfairness_52 : decode cX6_unfairness 52 = .ok (.ifCond .ne 8, 3) := by decide +kernel
theorem dX6_unfairness_55 : decode cX6_unfairness 55 = .ok (.iload 6, 2) := by decide +kernel
theorem dX6_unfairness_57 : decode cX6_unfairness 57 = .ok (.goto 9, 3) := by decide +kernel
theorem dX6_unfairness_60 : decode cX6_unfairness 60 = .ok (.iload_n 2, 1) := by decide +kernel
theorem dX6_unfairness_61 : decode cX6_unfairness 61 = .ok (.iload 6, 2) := by decide +kernel
theorem dX6_unfairness_63 : decode cX6_unfairness 63 = .ok (.invokestatic 155, 3) := by decide +kernel
theorem dX6_unfairness_66 : decode cX6_unfairness 66 = .ok (.istore_n 2, 1) := by decide +kernel
theorem dX6_unfairness_67 : decode cX6_unfairness 67 = .ok (.iload_n 1, 1) := by decide +kernel
theorem dX6_unfairness_68 : decode cX6_unfairness 68 = .ok (.ifCond .ne 8, 3) := by decide +kernel
theorem dX6_unfairness_71 : decode cX6_unfairness 71 = .ok (.iload 6, 2) := by decide +kernel
theorem dX6_unfairness_73 : decode cX6_unfairness 73 = .ok (.goto 9, 3) := by decide +kernel
theorem dX6_unfairness_76 : decode cX6_unfairness 76 = .ok (.iload_n 3, 1) := by decide +kernel
theorem dX6_unfairness_77 : decode cX6_unfairness 77 = .ok (.iload 6, 2) := by decide +kernel
theorem dX6_unfairness_79 : decode cX6_unfairness 79 = .ok (.invokestatic 160, 3) := by decide +kernel
theorem dX6_unfairness_82 : decode cX6_unfairness 82 = .ok (.istore_n 3, 1) := by decide +kernel
theorem dX6_unfairness_83 : decode cX6_unfairness 83 = .ok (.iinc 1 1, 3) := by decide +kernel
theorem dX6_unfairness_86 : decode cX6_unfairness 86 = .ok (.iinc 4 1, 3) := by decide +kernel
theorem dX6_unfairness_89 : decode cX6_unfairness 89 = .ok (.goto (-80), 3) := by decide +kernel
theorem dX6_unfairness_92 : decode cX6_unfairness 92 = .ok (.iload_n 3, 1) := by decide +kernel
theorem dX6_unfairness_93 : decode cX6_unfairness 93 = .ok (.iload_n 2, 1) := by decide +kernel
theorem dX6_unfairness_94 : decode cX6_unfairness 94 = .ok (.isub, 1) := by decide +kernel
theorem dX6_unfairness_95 : decode cX6_unfairness 95 = .ok (.ireturn, 1) := by decide +kernel
theorem dX6_foretell_0 : decode cX6_foretell 0 = .ok (.iload_n 1, 1) := by decide +kernel
theorem dX6_foretell_1 : decode cX6_foretell 1 = .ok (.invokestatic 63, 3) := by decide +kernel
theorem dX6_foretell_4 : decode cX6_foretell 4 = .ok (.ifCond .ne 6, 3) := by decide +kernel
theorem dX6_foretell_7 : decode cX6_foretell 7 = .ok (.bipush (-2), 2) := by decide +kernel
theorem dX6_foretell_9 : decode cX6_foretell 9 = .ok (.ireturn, 1) := by decide +kernel
theorem dX6_foretell_10 : decode cX6_foretell 10 = .ok (.aload_n 0, 1) := by decide +kernel
theorem dX6_foretell_11 : decode cX6_foretell 11 = .ok (.getfield 10, 3) := by decide +kernel
theorem dX6_foretell_14 : decode cX6_foretell 14 = .ok (.getfield 66, 3) := by decide +kernel
theorem dX6_foretell_17 : decode cX6_foretell 17 = .ok (.iload_n 1, 1) := by decide +kernel
theorem dX6_foretell_18 : decode cX6_foretell 18 = .ok (.aaload, 1) := by decide +kernel
theorem dX6_foretell_19 : decode cX6_foretell 19 = .ok (.getfield 70, 3) := by decide +kernel
theorem dX6_foretell_22 : decode cX6_foretell 22 = .ok (.iconst 1, 1) := by decide +kernel
theorem dX6_foretell_23 : decode cX6_foretell 23 = .ok (.if_icmp .eq 6, 3) := by decide +kernel
theorem dX6_foretell_26 : decode cX6_foretell 26 = .ok (.bipush (-3), 2) := by decide +kernel
theorem dX6_foretell_28 : decode cX6_foretell 28 = .ok (.ireturn, 1) := by decide +kernel
theorem dX6_foretell_29 : decode cX6_foretell 29 = .ok (.aload_n 0, 1) := by decide +kernel
theorem dX6_foretell_30 : decode cX6_foretell 30 = .ok (.iload_n 1, 1) := by decide +kernel
theorem dX6_foretell_31 : decode cX6_foretell 31 = .ok (.aload_n 0, 1) := by decide +kernel
theorem dX6_foretell_32 : decode cX6_foretell 32 = .ok (.getfield 10, 3) := by decide +kernel
theorem dX6_foretell_35 : decode cX6_foretell 35 = .ok (.getfield 59, 3) := by decide +kernel
theorem dX6_foretell_38 : decode cX6_foretell 38 = .ok (.iconst 1, 1) := by decide +kernel
theorem dX6_foretell_39 : decode cX6_foretell 39 = .ok (.iaload, 1) := by decide +kernel
theorem dX6_foretell_40 : decode cX6_foretell 40 = .ok (.sipush 500, 3) := by decide +kernel
theorem dX6_foretell_43 : decode cX6_foretell 43 = .ok (.invokevirtual 163, 3) := by decide +kernel
theorem dX6_foretell_46 : decode cX6_foretell 46 = .ok (.ireturn, 1) := by decide +kernel
theorem dX6_empties_0 : decode cX6_empties 0 = .ok (.aload_n 0, 1) := by decide +kernel
theorem dX6_empties_1 : decode cX6_empties 1 = .ok (.getfield 10, 3) := by decide +kernel
theorem dX6_empties_4 : decode cX6_empties 4 = .ok (.invokevirtual 167, 3) := by decide +kernel
theorem dX6_empties_7 : decode cX6_empties 7 = .ok (.ifCond .eq 5, 3) := by decide +kernel
theorem dX6_empties_10 : decode cX6_empties 10 = .ok (.iconst 0, 1) := by decide +kernel
theorem dX6_empties_11 : decode cX6_empties 11 = .ok (.ireturn, 1) := by decide +kernel
theorem dX6_empties_12 : decode cX6_empties 12 = .ok (.aload_n 0, 1) := by decide +kernel
theorem dX6_empties_13 : decode cX6_empties 13 = .ok (.getfield 16, 3) := by decide +kernel
theorem dX6_empties_16 : decode cX6_empties 16 = .ok (.aload_n 0, 1) := by decide +kernel
theorem dX6_empties_17 : decode cX6_empties 17 = .ok (.getfield 10, 3) := by decide +kernel
theorem dX6_empties_20 : decode cX6_empties 20 = .ok (.invokevirtual 171, 3) := by decide +kernel
theorem dX6_empties_23 : decode cX6_empties 23 = .ok (.aload_n 0, 1) := by decide +kernel
theorem dX6_empties_24 : decode cX6_empties 24 = .ok (.getfield 10, 3) := by decide +kernel
theorem dX6_empties_27 : decode cX6_empties 27 = .ok (.getfield 82, 3) := by decide +kernel
theorem dX6_empties_30 : decode cX6_empties 30 = .ok (.sipush 500, 3) := by decide +kernel
theorem dX6_empties_33 : decode cX6_empties 33 = .ok (.iadd, 1) := by decide +kernel
theorem dX6_empties_34 : decode cX6_empties 34 = .ok (.istore_n 1, 1) := by decide +kernel
theorem dX6_empties_35 : decode cX6_empties 35 = .ok (.iconst 0, 1) := by decide +kernel
theorem dX6_empties_36 : decode cX6_empties 36 = .ok (.istore_n 2, 1) := by decide +kernel
theorem dX6_empties_37 : decode cX6_empties 37 = .ok (.iload_n 2, 1) := by decide +kernel
theorem dX6_empties_38 : decode cX6_empties 38 = .ok (.sipush 500, 3) := by decide +kernel
theorem dX6_empties_41 : decode cX6_empties 41 = .ok (.if_icmp .ge 61, 3) := by decide +kernel
theorem dX6_empties_44 : decode cX6_empties 44 = .ok (.aload_n 0, 1) := by decide +kernel
theorem dX6_empties_45 : decode cX6_empties 45 = .ok (.getfield 16, 3) := by decide +kernel
theorem dX6_empties_48 : decode cX6_empties 48 = .ok (.getfield 82, 3) := by decide +kernel
theorem dX6_empties_51 : decode cX6_empties 51 = .ok (.iload_n 1, 1) := by decide +kernel
theorem dX6_empties_52 : decode cX6_empties 52 = .ok (.if_icmp .ge 50, 3) := by decide +kernel
theorem dX6_empties_55 : decode cX6_empties 55 = .ok (.aload_n 0, 1) := by decide +kernel
theorem dX6_empties_56 : decode cX6_empties 56 = .ok (.getfield 16, 3) := by decide +kernel
theorem dX6_empties_59 : decode cX6_empties 59 = .ok (.invokevirtual 108, 3) := by decide +kernel
theorem dX6_empties_62 : decode cX6_empties 62 = .ok (.aload_n 0, 1) := by decide +kernel
theorem dX6_empties_63 : decode cX6_empties 63 = .ok (.getfield 16, 3) := by decide +kernel
theorem dX6_empties_66 : decode cX6_empties 66 = .ok (.invokevirtual 167, 3) := by decide +kernel
theorem dX6_empties_69 : decode cX6_empties 69 = .ok (.ifCond .eq 19, 3) := by decide +kernel
theorem dX6_empties_72 : decode cX6_empties 72 = .ok (.aload_n 0, 1) := by decide +kernel
theorem dX6_empties_73 : decode cX6_empties 73 = .ok (.getfield 16, 3) := by decide +kernel
theorem dX6_empties_76 : decode cX6_empties 76 = .ok (.getfield 82, 3) := by decide +kernel
theorem dX6_empties_79 : decode cX6_empties 79 = .ok (.aload_n 0, 1) := by decide +kernel
theorem dX6_empties_80 : decode cX6_empties 80 = .ok (.getfield 10, 3) := by decide +kernel
theorem dX6_empties_83 : decode cX6_empties 83 = .ok (.getfield 82, 3) := by decide +kernel
theorem dX6_empties_86 : decode cX6_empties 86 = .ok (.isub, 1) := by decide +kernel
theorem dX6_empties_87 : decode cX6_empties 87 = .ok (.ireturn, 1) := by decide +kernel
theorem dX6_empties_88 : decode cX6_empties 88 = .ok (.aload_n 0, 1) := by decide +kernel
theorem dX6_empties_89 : decode cX6_empties 89 = .ok (.getfield 16, 3) := by decide +kernel
theorem dX6_empties_92 : decode cX6_empties 92 = .ok (.iload_n 1, 1) := by decide +kernel
theorem dX6_empties_93 : decode cX6_empties 93 = .ok (.invokevirtual 111, 3) := by decide +kernel
theorem dX6_empties_96 : decode cX6_empties 96 = .ok (.iinc 2 1, 3) := by decide +kernel
theorem dX6_empties_99 : decode cX6_empties 99 = .ok (.goto (-62), 3) := by decide +kernel
theorem dX6_empties_102 : decode cX6_empties 102 = .ok (.iconst (-1), 1) := by decide +kernel
theorem dX6_empties_103 : decode cX6_empties 103 = .ok (.ireturn, 1) := by decide +kernel
theorem dX6_bestQuota_0 : decode cX6_bestQuota 0 = .ok (.iload_n 1, 1) := by decide +kernel
theorem dX6_bestQuota_1 : decode cX6_bestQuota 1 = .ok (.invokestatic 63, 3) := by decide +kernel
theorem dX6_bestQuota_4 : decode cX6_bestQuota 4 = .ok (.ifCond .eq 12, 3) := by decide +kernel
theorem dX6_bestQuota_7 : decode cX6_bestQuota 7 = .ok (.iload_n 2, 1) := by decide +kernel
theorem dX6_bestQuota_8 : decode cX6_bestQuota 8 = .ok (.iconst 0, 1) := by decide +kernel
theorem dX6_bestQuota_9 : decode cX6_bestQuota 9 = .ok (.iconst 1, 1) := by decide +kernel
theorem dX6_bestQuota_10 : decode cX6_bestQuota 10 = .ok (.invokestatic 38, 3) := by decide +kernel
theorem dX6_bestQuota_13 : decode cX6_bestQuota 13 = .ok (.ifCond .ne 6, 3) := by decide +kernel
theorem dX6_bestQuota_16 : decode cX6_bestQuota 16 = .ok (.bipush (-2), 2) := by decide +kernel
theorem dX6_bestQuota_18 : decode cX6_bestQuota 18 = .ok (.ireturn, 1) := by decide +kernel
theorem dX6_bestQuota_19 : decode cX6_bestQuota 19 = .ok (.aload_n 0, 1) := by decide +kernel
theorem dX6_bestQuota_20 : decode cX6_bestQuota 20 = .ok (.getfield 10, 3) := by decide +kernel
theorem dX6_bestQuota_23 : decode cX6_bestQuota 23 = .ok (.getfield 66, 3) := by decide +kernel
theorem dX6_bestQuota_26 : decode cX6_bestQuota 26 = .ok (.iload_n 1, 1) := by decide +kernel
theorem dX6_bestQuota_27 : decode cX6_bestQuota 27 = .ok (.aaload, 1) := by decide +kernel
theorem dX6_bestQuota_28 : decode cX6_bestQuota 28 = .ok (.getfield 70, 3) := by decide +kernel
theorem dX6_bestQuota_31 : decode cX6_bestQuota 31 = .ok (.iconst 1, 1) := by decide +kernel
theorem dX6_bestQuota_32 : decode cX6_bestQuota 32 = .ok (.if_icmp .eq 6, 3) := by decide +kernel
theorem dX6_bestQuota_35 : decode cX6_bestQuota 35 = .ok (.bipush (-3), 2) := by decide +kernel
theorem dX6_bestQuota_37 : decode cX6_bestQuota 37 = .ok (.ireturn, 1) := by decide +kernel
theorem dX6_bestQuota_38 : decode cX6_bestQuota 38 = .ok (.iconst (-1), 1) := by decide +kernel
theorem dX6_bestQuota_39 : decode cX6_bestQuota 39 = .ok (.istore_n 3, 1) := by decide +kernel
theorem dX6_bestQuota_40 : decode cX6_bestQuota 40 = .ok (.iconst (-1), 1) := by decide +kernel
theorem dX6_bestQuota_41 : decode cX6_bestQuota 41 = .ok (.istore 4, 2) := by decide +kernel
theorem dX6_bestQuota_43 : decode cX6_bestQuota 43 = .ok (.iconst 1, 1) := by decide +kernel
theorem dX6_bestQuota_44 : decode cX6_bestQuota 44 = .ok (.istore 5, 2) := by decide +kernel
theorem dX6_bestQuota_46 : decode cX6_bestQuota 46 = .ok (.iload 5, 2) := by decide +kernel
theorem dX6_bestQuota_48 : decode cX6_bestQuota 48 = .ok (.bipush 20, 2) := by decide +kernel
theorem dX6_bestQuota_50 : decode cX6_bestQuota 50 = .ok (.if_icmp .gt 50, 3) := by decide +kernel
theorem dX6_bestQuota_53 : decode cX6_bestQuota 53 = .ok (.iload_n 3, 1) := by decide +kernel
theorem dX6_bestQuota_54 : decode cX6_bestQuota 54 = .ok (.iconst (-1), 1) := by decide +kernel
theorem dX6_bestQuota_55 : decode cX6_bestQuota 55 = .ok (.if_icmp .ne 9, 3) := by decide +kernel
theorem dX6_bestQuota_58 : decode cX6_bestQuota 58 = .ok (.sipush 500, 3) := by decide +kernel
theorem dX6_bestQuota_61 : decode cX6_bestQuota 61 = .ok (.goto 7, 3) := by decide +kernel
theorem dX6_bestQuota_64 : decode cX6_bestQuota 64 = .ok (.iload 4, 2) := by decide +kernel
theorem dX6_bestQuota_66 : decode cX6_bestQuota 66 = .ok (.iconst 1, 1) := by decide +kernel
theorem dX6_bestQuota_67 : decode cX6_bestQuota 67 = .ok (.isub, 1) := by decide +kernel
theorem dX6_bestQuota_68 : decode cX6_bestQuota 68 = .ok (.istore 6, 2) := by decide +kernel
theorem dX6_bestQuota_70 : decode cX6_bestQuota 70 = .ok (.aload_n 0, 1) := by decide +kernel
theorem dX6_bestQuota_71 : decode cX6_bestQuota 71 = .ok (.iload_n 1, 1) := by decide +kernel
theorem dX6_bestQuota_72 : decode cX6_bestQuota 72 = .ok (.iload 5, 2) := by decide +kernel
theorem dX6_bestQuota_74 : decode cX6_bestQuota 74 = .ok (.iload 6, 2) := by decide +kernel
theorem dX6_bestQuota_76 : decode cX6_bestQuota 76 = .ok (.invokevirtual 163, 3) := by decide +kernel
theorem dX6_bestQuota_79 : decode cX6_bestQuota 79 = .ok (.istore 7, 2) := by decide +kernel
theorem dX6_bestQuota_81 : decode cX6_bestQuota 81 = .ok (.iload 7, 2) := by decide +kernel
theorem dX6_bestQuota_83 : decode cX6_bestQuota 83 = .ok (.iconst (-1), 1) := by decide +kernel
theorem dX6_bestQuota_84 : decode cX6_bestQuota 84 = .ok (.if_icmp .eq 10, 3) := by decide +kernel
theorem dX6_bestQuota_87 : decode cX6_bestQuota 87 = .ok (.iload 5, 2) := by decide +kernel
theorem dX6_bestQuota_89 : decode cX6_bestQuota 89 = .ok (.istore_n 3, 1) := by decide +kernel
theorem dX6_bestQuota_90 : decode cX6_bestQuota 90 = .ok (.iload 7, 2) := by decide +kernel
theorem dX6_bestQuota_92 : decode cX6_bestQuota 92 = .ok (.istore 4, 2) := by decide +kernel
theorem dX6_bestQuota_94 : decode cX6_bestQuota 94 = .ok (.iinc 5 1, 3) := by decide +kernel
theorem dX6_bestQuota_97 : decode cX6_bestQuota 97 = .ok (.goto (-51), 3) := by decide +kernel
theorem dX6_bestQuota_100 : decode cX6_bestQuota 100 = .ok (.iload_n 2, 1) := by decide +kernel
theorem dX6_bestQuota_101 : decode cX6_bestQuota 101 = .ok (.ifCond .ne 7, 3) := by decide +kernel
theorem dX6_bestQuota_104 : decode cX6_bestQuota 104 = .ok (.iload_n 3, 1) := by decide +kernel
theorem dX6_bestQuota_105 : decode cX6_bestQuota 105 = .ok (.goto 5, 3) := by decide +kernel
theorem dX6_bestQuota_108 : decode cX6_bestQuota 108 = .ok (.iload 4, 2) := by decide +kernel
theorem dX6_bestQuota_110 : decode cX6_bestQuota 110 = .ok (.ireturn, 1) := by decide +kernel
theorem dX6_type_0 : decode cX6_type 0 = .ok (.iload_n 1, 1) := by decide +kernel
theorem dX6_type_1 : decode cX6_type 1 = .ok (.iconst 0, 1) := by decide +kernel
theorem dX6_type_2 : decode cX6_type 2 = .ok (.bipush 127, 2) := by decide +kernel
theorem dX6_type_4 : decode cX6_type 4 = .ok (.invokestatic 38, 3) := by decide +kernel
theorem dX6_type_7 : decode cX6_type 7 = .ok (.ifCond .ne 6, 3) := by decide +kernel
theorem dX6_type_10 : decode cX6_type 10 = .ok (.bipush (-2), 2) := by decide +kernel
theorem dX6_type_12 : decode cX6_type 12 = .ok (.ireturn, 1) := by decide +kernel
theorem dX6_type_13 : decode cX6_type 13 = .ok (.aload_n 0, 1) := by decide +kernel
theorem dX6_type_14 : decode cX6_type 14 = .ok (.getfield 30, 3) := by decide +kernel
theorem dX6_type_17 : decode cX6_type 17 = .ok (.getfield 175, 3) := by decide +kernel
theorem dX6_type_20 : decode cX6_type 20 = .ok (.bipush 100, 2) := by decide +kernel
theorem dX6_type_22 : decode cX6_type 22 = .ok (.if_icmp .lt 6, 3) := by decide +kernel
theorem dX6_type_25 : decode cX6_type 25 = .ok (.bipush (-4), 2) := by decide +kernel
theorem dX6_type_27 : decode cX6_type 27 = .ok (.ireturn, 1) := by decide +kernel
theorem dX6_type_28 : decode cX6_type 28 = .ok (.aload_n 0, 1) := by decide +kernel
theorem dX6_type_29 : decode cX6_type 29 = .ok (.getfield 30, 3) := by decide +kernel
theorem dX6_type_32 : decode cX6_type 32 = .ok (.iload_n 1, 1) := by decide +kernel
theorem dX6_type_33 : decode cX6_type 33 = .ok (.invokevirtual 178, 3) := by decide +kernel
theorem dX6_type_36 : decode cX6_type 36 = .ok (.aload_n 0, 1) := by decide +kernel
theorem dX6_type_37 : decode cX6_type 37 = .ok (.getfield 30, 3) := by decide +kernel
theorem dX6_type_40 : decode cX6_type 40 = .ok (.getfield 175, 3) := by decide +kernel
theorem dX6_type_43 : decode cX6_type 43 = .ok (.ireturn, 1) := by decide +kernel
theorem dX6_clear_0 : decode cX6_clear 0 = .ok (.aload_n 0, 1) := by decide +kernel
theorem dX6_clear_1 : decode cX6_clear 1 = .ok (.getfield 30, 3) := by decide +kernel
theorem dX6_clear_4 : decode cX6_clear 4 = .ok (.getfield 175, 3) := by decide +kernel
theorem dX6_clear_7 : decode cX6_clear 7 = .ok (.istore_n 1, 1) := by decide +kernel
theorem dX6_clear_8 : decode cX6_clear 8 = .ok (.aload_n 0, 1) := by decide +kernel
theorem dX6_clear_9 : decode cX6_clear 9 = .ok (.getfield 30, 3) := by decide +kernel
theorem dX6_clear_12 : decode cX6_clear 12 = .ok (.iconst 0, 1) := by decide +kernel
theorem dX6_clear_13 : decode cX6_clear 13 = .ok (.putfield 175, 3) := by decide +kernel
theorem dX6_clear_16 : decode cX6_clear 16 = .ok (.iload_n 1, 1) := by decide +kernel
theorem dX6_clear_17 : decode cX6_clear 17 = .ok (.ireturn, 1) := by decide +kernel
theorem dX6_run_0 : decode cX6_run 0 = .ok (.aload_n 0, 1) := by decide +kernel
theorem dX6_run_1 : decode cX6_run 1 = .ok (.getfield 30, 3) := by decide +kernel
theorem dX6_run_4 : decode cX6_run 4 = .ok (.invokevirtual 181, 3) := by decide +kernel
theorem dX6_run_7 : decode cX6_run 7 = .ok (.istore_n 1, 1) := by decide +kernel
theorem dX6_run_8 : decode cX6_run 8 = .ok (.iload_n 1, 1) := by decide +kernel
theorem dX6_run_9 : decode cX6_run 9 = .ok (.iconst (-1), 1) := by decide +kernel
theorem dX6_run_10 : decode cX6_run 10 = .ok (.if_icmp .eq 9, 3) := by decide +kernel
theorem dX6_run_13 : decode cX6_run 13 = .ok (.sipush (-2000), 3) := by decide +kernel
theorem dX6_run_16 : decode cX6_run 16 = .ok (.iload_n 1, 1) := by decide +kernel
theorem dX6_run_17 : decode cX6_run 17 = .ok (.isub, 1) := by decide +kernel
theorem dX6_run_18 : decode cX6_run 18 = .ok (.ireturn, 1) := by decide +kernel
theorem dX6_run_19 : decode cX6_run 19 = .ok (.iconst 0, 1) := by decide +kernel
theorem dX6_run_20 : decode cX6_run 20 = .ok (.istore_n 2, 1) := by decide +kernel
theorem dX6_run_21 : decode cX6_run 21 = .ok (.aload_n 0, 1) := by decide +kernel
theorem dX6_run_22 : decode cX6_run 22 = .ok (.getfield 30, 3) := by decide +kernel
theorem dX6_run_25 : decode cX6_run 25 = .ok (.invokevirtual 185, 3) := by decide +kernel
theorem dX6_run_28 : decode cX6_run 28 = .ok (.iconst 0, 1) := by decide +kernel
theorem dX6_run_29 : decode cX6_run 29 = .ok (.istore_n 3, 1) := by decide +kernel
theorem dX6_run_30 : decode cX6_run 30 = .ok (.iload_n 3, 1) := by decide +kernel
theorem dX6_run_31 : decode cX6_run 31 = .ok (.sipush 200, 3) := by decide +kernel
theorem dX6_run_34 : decode cX6_run 34 = .ok (.if_icmp .ge 39, 3) := by decide +kernel
theorem dX6_run_37 : decode cX6_run 37 = .ok (.aload_n 0, 1) := by decide +kernel
theorem dX6_run_38 : decode cX6_run 38 = .ok (.getfield 30, 3) := by decide +kernel
theorem dX6_run_41 : decode cX6_run 41 = .ok (.invokevirtual 188, 3) := by decide +kernel
theorem dX6_run_44 : decode cX6_run 44 = .ok (.istore 4, 2) := by decide +kernel
theorem dX6_run_46 : decode cX6_run 46 = .ok (.iload 4, 2) := by decide +kernel
theorem dX6_run_48 : decode cX6_run 48 = .ok (.iconst (-1), 1) := by decide +kernel
theorem dX6_run_49 : decode cX6_run 49 = .ok (.if_icmp .ne 6, 3) := by decide +kernel
theorem dX6_run_52 : decode cX6_run 52 = .ok (.goto 21, 3) := by decide +kernel
theorem dX6_run_55 : decode cX6_run 55 = .ok (.aload_n 0, 1) := by decide +kernel
theorem dX6_run_56 : decode cX6_run 56 = .ok (.iload 4, 2) := by decide +kernel
theorem dX6_run_58 : decode cX6_run 58 = .ok (.invokevirtual 191, 3) := by decide +kernel
theorem dX6_run_61 : decode cX6_run 61 = .ok (.ifCond .lt 6, 3) := by decide +kernel
theorem dX6_run_64 : decode cX6_run 64 = .ok (.iinc 2 1, 3) := by decide +kernel
theorem dX6_run_67 : decode cX6_run 67 = .ok (.iinc 3 1, 3) := by decide +kernel
theorem dX6_run_70 : decode cX6_run 70 = .ok (.goto (-40), 3) := by decide +kernel
theorem dX6_run_73 : decode cX6_run 73 = .ok (.aload_n 0, 1) := by decide +kernel
theorem dX6_run_74 : decode cX6_run 74 = .ok (.getfield 10, 3) := by decide +kernel
theorem dX6_run_77 : decode cX6_run 77 = .ok (.aload_n 0, 1) := by decide +kernel
theorem dX6_run_78 : decode cX6_run 78 = .ok (.getfield 30, 3) := by decide +kernel
theorem dX6_run_81 : decode cX6_run 81 = .ok (.getfield 194, 3) := by decide +kernel
theorem dX6_run_84 : decode cX6_run 84 = .ok (.putfield 197, 3) := by decide +kernel
theorem dX6_run_87 : decode cX6_run 87 = .ok (.iload_n 2, 1) := by decide +kernel
theorem dX6_run_88 : decode cX6_run 88 = .ok (.ireturn, 1) := by decide +kernel
theorem dX6_save_0 : decode cX6_save 0 = .ok (.iload_n 1, 1) := by decide +kernel
theorem dX6_save_1 : decode cX6_save 1 = .ok (.iconst 0, 1) := by decide +kernel
theorem dX6_save_2 : decode cX6_save 2 = .ok (.iconst 1, 1) := by decide +kernel
theorem dX6_save_3 : decode cX6_save 3 = .ok (.invokestatic 38, 3) := by decide +kernel
theorem dX6_save_6 : decode cX6_save 6 = .ok (.ifCond .ne 6, 3) := by decide +kernel
theorem dX6_save_9 : decode cX6_save 9 = .ok (.bipush (-2), 2) := by decide +kernel
theorem dX6_save_11 : decode cX6_save 11 = .ok (.ireturn, 1) := by decide +kernel
theorem dX6_save_12 : decode cX6_save 12 = .ok (.aload_n 0, 1) := by decide +kernel
theorem dX6_save_13 : decode cX6_save 13 = .ok (.getfield 19, 3) := by decide +kernel
theorem dX6_save_16 : decode cX6_save 16 = .ok (.iload_n 1, 1) := by decide +kernel
theorem dX6_save_17 : decode cX6_save 17 = .ok (.aaload, 1) := by decide +kernel
theorem dX6_save_18 : decode cX6_save 18 = .ok (.aload_n 0, 1) := by decide +kernel
theorem dX6_save_19 : decode cX6_save 19 = .ok (.getfield 10, 3) := by decide +kernel
theorem dX6_save_22 : decode cX6_save 22 = .ok (.invokevirtual 171, 3) := by decide +kernel
theorem dX6_save_25 : decode cX6_save 25 = .ok (.aload_n 0, 1) := by decide +kernel
theorem dX6_save_26 : decode cX6_save 26 = .ok (.getfield 23, 3) := by decide +kernel
theorem dX6_save_29 : decode cX6_save 29 = .ok (.iload_n 1, 1) := by decide +kernel
theorem dX6_save_30 : decode cX6_save 30 = .ok (.iconst 1, 1) := by decide +kernel
theorem dX6_save_31 : decode cX6_save 31 = .ok (.bastore, 1) := by decide +kernel
theorem dX6_save_32 : decode cX6_save 32 = .ok (.aload_n 0, 1) := by decide +kernel
theorem dX6_save_33 : decode cX6_save 33 = .ok (.getfield 10, 3) := by decide +kernel
theorem dX6_save_36 : decode cX6_save 36 = .ok (.getfield 82, 3) := by decide +kernel
theorem dX6_save_39 : decode cX6_save 39 = .ok (.ireturn, 1) := by decide +kernel
theorem dX6_restore_0 : decode cX6_restore 0 = .ok (.iload_n 1, 1) := by decide +kernel
theorem dX6_restore_1 : decode cX6_restore 1 = .ok (.iconst 0, 1) := by decide +kernel
theorem dX6_restore_2 : decode cX6_restore 2 = .ok (.iconst 1, 1) := by decide +kernel
theorem dX6_restore_3 : decode cX6_restore 3 = .ok (.invokestatic 38, 3) := by decide +kernel
theorem dX6_restore_6 : decode cX6_restore 6 = .ok (.ifCond .ne 6, 3) := by decide +kernel
theorem dX6_restore_9 : decode cX6_restore 9 = .ok (.bipush (-2), 2) := by decide +kernel
theorem dX6_restore_11 : decode cX6_restore 11 = .ok (.ireturn, 1) := by decide +kernel
theorem dX6_restore_12 : decode cX6_restore 12 = .ok (.aload_n 0, 1) := by decide +kernel
theorem dX6_restore_13 : decode cX6_restore 13 = .ok (.getfield 23, 3) := by decide +kernel
theorem dX6_restore_16 : decode cX6_restore 16 = .ok (.iload_n 1, 1) := by decide +kernel
theorem dX6_restore_17 : decode cX6_restore 17 = .ok (.baload, 1) := by decide +kernel
theorem dX6_restore_18 : decode cX6_restore 18 = .ok (.ifCond .ne 6, 3) := by decide +kernel
theorem dX6_restore_21 : decode cX6_restore 21 = .ok (.bipush (-3), 2) := by decide +kernel
theorem dX6_restore_23 : decode cX6_restore 23 = .ok (.ireturn, 1) := by decide +kernel
theorem dX6_restore_24 : decode cX6_restore 24 = .ok (.aload_n 0, 1) := by decide +kernel
theorem dX6_restore_25 : decode cX6_restore 25 = .ok (.getfield 10, 3) := by decide +kernel
theorem dX6_restore_28 : decode cX6_restore 28 = .ok (.aload_n 0, 1) := by decide +kernel
theorem dX6_restore_29 : decode cX6_restore 29 = .ok (.getfield 19, 3) := by decide +kernel
theorem dX6_restore_32 : decode cX6_restore 32 = .ok (.iload_n 1, 1) := by decide +kernel
theorem dX6_restore_33 : decode cX6_restore 33 = .ok (.aaload, 1) := by decide +kernel
theorem dX6_restore_34 : decode cX6_restore 34 = .ok (.invokevirtual 171, 3) := by decide +kernel
theorem dX6_restore_37 : decode cX6_restore 37 = .ok (.aload_n 0, 1) := by decide +kernel
theorem dX6_restore_38 : decode cX6_restore 38 = .ok (.getfield 10, 3) := by decide +kernel
theorem dX6_restore_41 : decode cX6_restore 41 = .ok (.getfield 82, 3) := by decide +kernel
theorem dX6_restore_44 : decode cX6_restore 44 = .ok (.ireturn, 1) := by decide +kernel
theorem dX6_count_0 : decode cX6_count 0 = .ok (.iload_n 1, 1) := by decide +kernel
theorem dX6_count_1 : decode cX6_count 1 = .ok (.tableswitch 218 0 14 #[75, 83, 93, 103, 113, 121, 137, 145, 153, 164, 172, 180, 191, 202, 210], 75) := by decide +kernel
theorem dX6_count_76 : decode cX6_count 76 = .ok (.aload_n 0, 1) := by decide +kernel
theorem dX6_count_77 : decode cX6_count 77 = .ok (.getfield 10, 3) := by decide +kernel
theorem dX6_count_80 : decode cX6_count 80 = .ok (.getfield 82, 3) := by decide +kernel
theorem dX6_count_83 : decode cX6_count 83 = .ok (.ireturn, 1) := by decide +kernel
theorem dX6_count_84 : decode cX6_count 84 = .ok (.aload_n 0, 1) := by decide +kernel
theorem dX6_count_85 : decode cX6_count 85 = .ok (.getfield 10, 3) := by decide +kernel
theorem dX6_count_88 : decode cX6_count 88 = .ok (.getfield 59, 3) := by decide +kernel
theorem dX6_count_91 : decode cX6_count 91 = .ok (.iconst 0, 1) := by decide +kernel
theorem dX6_count_92 : decode cX6_count 92 = .ok (.iaload, 1) := by decide +kernel
theorem dX6_count_93 : decode cX6_count 93 = .ok (.ireturn, 1) := by decide +kernel
theorem dX6_count_94 : decode cX6_count 94 = .ok (.aload_n 0, 1) := by decide +kernel
theorem dX6_count_95 : decode cX6_count 95 = .ok (.getfield 10, 3) := by decide +kernel
theorem dX6_count_98 : decode cX6_count 98 = .ok (.getfield 59, 3) := by decide +kernel
theorem dX6_count_101 : decode cX6_count 101 = .ok (.iconst 1, 1) := by decide +kernel
theorem dX6_count_102 : decode cX6_count 102 = .ok (.iaload, 1) := by decide +kernel
theorem dX6_count_103 : decode cX6_count 103 = .ok (.ireturn, 1) := by decide +kernel
theorem dX6_count_104 : decode cX6_count 104 = .ok (.aload_n 0, 1) := by decide +kernel
theorem dX6_count_105 : decode cX6_count 105 = .ok (.getfield 10, 3) := by decide +kernel
theorem dX6_count_108 : decode cX6_count 108 = .ok (.getfield 59, 3) := by decide +kernel
theorem dX6_count_111 : decode cX6_count 111 = .ok (.iconst 2, 1) := by decide +kernel
theorem dX6_count_112 : decode cX6_count 112 = .ok (.iaload, 1) := by decide +kernel
theorem dX6_count_113 : decode cX6_count 113 = .ok (.ireturn, 1) := by decide +kernel
theorem dX6_count_114 : decode cX6_count 114 = .ok (.aload_n 0, 1) := by decide +kernel
theorem dX6_count_115 : decode cX6_count 115 = .ok (.getfield 10, 3) := by decide +kernel
theorem dX6_count_118 : decode cX6_count 118 = .ok (.getfield 198, 3) := by decide +kernel
theorem dX6_count_121 : decode cX6_count 121 = .ok (.ireturn, 1) := by decide +kernel
theorem dX6_count_122 : decode cX6_count 122 = .ok (.aload_n 0, 1) := by decide +kernel
theorem dX6_count_123 : decode cX6_count 123 = .ok (.getfield 10, 3) := by decide +kernel
theorem dX6_count_126 : decode cX6_count 126 = .ok (.getfield 201, 3) := by decide +kernel
theorem dX6_count_129 : decode cX6_count 129 = .ok (.ifCond .eq 7, 3) := by decide +kernel
theorem dX6_count_132 : decode cX6_count 132 = .ok (.iconst 1, 1) := by decide +kernel
theorem dX6_count_133 : decode cX6_count 133 = .ok (.goto 4, 3) := by decide +kernel
theorem dX6_count_136 : decode cX6_count 136 = .ok (.iconst 0, 1) := by decide +kernel
theorem dX6_count_137 : decode cX6_count 137 = .ok (.ireturn, 1) := by decide +kernel
theorem dX6_count_138 : decode cX6_count 138 = .ok (.aload_n 0, 1) := by decide +kernel
theorem dX6_count_139 : decode cX6_count 139 = .ok (.getfield 10, 3) := by decide +kernel
theorem dX6_count_142 : decode cX6_count 142 = .ok (.getfield 205, 3) := by decide +kernel
theorem dX6_count_145 : decode cX6_count 145 = .ok (.ireturn, 1) := by decide +kernel
theorem dX6_count_146 : decode cX6_count 146 = .ok (.aload_n 0, 1) := by decide +kernel
theorem dX6_count_147 : decode cX6_count 147 = .ok (.getfield 10, 3) := by decide +kernel
theorem dX6_count_150 : decode cX6_count 150 = .ok (.getfield 206, 3) := by decide +kernel
theorem dX6_count_153 : decode cX6_count 153 = .ok (.ireturn, 1) := by decide +kernel
theorem dX6_count_154 : decode cX6_count 154 = .ok (.aload_n 0, 1) := by decide +kernel
theorem dX6_count_155 : decode cX6_count 155 = .ok (.getfield 10, 3) := by decide +kernel
theorem dX6_count_158 : decode cX6_count 158 = .ok (.getfield 209, 3) := by decide +kernel
theorem dX6_count_161 : decode cX6_count 161 = .ok (.getfield 213, 3) := by decide +kernel
theorem dX6_count_164 : decode cX6_count 164 = .ok (.ireturn, 1) := by decide +kernel
theorem dX6_count_165 : decode cX6_count 165 = .ok (.aload_n 0, 1) := by decide +kernel
theorem dX6_count_166 : decode cX6_count 166 = .ok (.getfield 10, 3) := by decide +kernel
theorem dX6_count_169 : decode cX6_count 169 = .ok (.invokevirtual 216, 3) := by decide +kernel
theorem dX6_count_172 : decode cX6_count 172 = .ok (.ireturn, 1) := by decide +kernel
theorem dX6_count_173 : decode cX6_count 173 = .ok (.aload_n 0, 1) := by decide +kernel
theorem dX6_count_174 : decode cX6_count 174 = .ok (.getfield 10, 3) := by decide +kernel
theorem dX6_count_177 : decode cX6_count 177 = .ok (.invokevirtual 219, 3) := by decide +kernel
theorem dX6_count_180 : decode cX6_count 180 = .ok (.ireturn, 1) := by decide +kernel
theorem dX6_count_181 : decode cX6_count 181 = .ok (.aload_n 0, 1) := by decide +kernel
theorem dX6_count_182 : decode cX6_count 182 = .ok (.getfield 10, 3) := by decide +kernel
theorem dX6_count_185 : decode cX6_count 185 = .ok (.getfield 145, 3) := by decide +kernel
theorem dX6_count_188 : decode cX6_count 188 = .ok (.invokevirtual 222, 3) := by decide +kernel
theorem dX6_count_191 : decode cX6_count 191 = .ok (.ireturn, 1) := by decide +kernel
theorem dX6_count_192 : decode cX6_count 192 = .ok (.aload_n 0, 1) := by decide +kernel
theorem dX6_count_193 : decode cX6_count 193 = .ok (.getfield 10, 3) := by decide +kernel
theorem dX6_count_196 : decode cX6_count 196 = .ok (.getfield 145, 3) := by decide +kernel
theorem dX6_count_199 : decode cX6_count 199 = .ok (.getfield 225, 3) := by decide +kernel
theorem dX6_count_202 : decode cX6_count 202 = .ok (.ireturn, 1) := by decide +kernel
theorem dX6_count_203 : decode cX6_count 203 = .ok (.aload_n 0, 1) := by decide +kernel
theorem dX6_count_204 : decode cX6_count 204 = .ok (.getfield 30, 3) := by decide +kernel
theorem dX6_count_207 : decode cX6_count 207 = .ok (.getfield 175, 3) := by decide +kernel
theorem dX6_count_210 : decode cX6_count 210 = .ok (.ireturn, 1) := by decide +kernel
theorem dX6_count_211 : decode cX6_count 211 = .ok (.aload_n 0, 1) := by decide +kernel
theorem dX6_count_212 : decode cX6_count 212 = .ok (.getfield 10, 3) := by decide +kernel
theorem dX6_count_215 : decode cX6_count 215 = .ok (.getfield 197, 3) := by decide +kernel
theorem dX6_count_218 : decode cX6_count 218 = .ok (.ireturn, 1) := by decide +kernel
theorem dX6_count_219 : decode cX6_count 219 = .ok (.bipush (-2), 2) := by decide +kernel
theorem dX6_count_221 : decode cX6_count 221 = .ok (.ireturn, 1) := by decide +kernel
theorem dX6_digest_0 : decode cX6_digest 0 = .ok (.ldc2_w 228, 3) := by decide +kernel
theorem dX6_digest_3 : decode cX6_digest 3 = .ok (.lstore_n 1, 1) := by decide +kernel
theorem dX6_digest_4 : decode cX6_digest 4 = .ok (.iconst 0, 1) := by decide +kernel
theorem dX6_digest_5 : decode cX6_digest 5 = .ok (.istore_n 3, 1) := by decide +kernel
theorem dX6_digest_6 : decode cX6_digest 6 = .ok (.iload_n 3, 1) := by decide +kernel
theorem dX6_digest_7 : decode cX6_digest 7 = .ok (.bipush 15, 2) := by decide +kernel
theorem dX6_digest_9 : decode cX6_digest 9 = .ok (.if_icmp .ge 22, 3) := by decide +kernel
theorem dX6_digest_12 : decode cX6_digest 12 = .ok (.ldc2_w 230, 3) := by decide +kernel
theorem dX6_digest_15 : decode cX6_digest 15 = .ok (.lload_n 1, 1) := by decide +kernel
theorem dX6_digest_16 : decode cX6_digest 16 = .ok (.lmul, 1) := by decide +kernel
theorem dX6_digest_17 : decode cX6_digest 17 = .ok (.aload_n 0, 1) := by decide +kernel
theorem dX6_digest_18 : decode cX6_digest 18 = .ok (.iload_n 3, 1) := by decide +kernel
theorem dX6_digest_19 : decode cX6_digest 19 = .ok (.invokevirtual 232, 3) := by decide +kernel
theorem dX6_digest_22 : decode cX6_digest 22 = .ok (.i2l, 1) := by decide +kernel
theorem dX6_digest_23 : decode cX6_digest 23 = .ok (.ladd, 1) := by decide +kernel
theorem dX6_digest_24 : decode cX6_digest 24 = .ok (.lstore_n 1, 1) := by decide +kernel
theorem dX6_digest_25 : decode cX6_digest 25 = .ok (.iinc 3 1, 3) := by decide +kernel
theorem dX6_digest_28 : decode cX6_digest 28 = .ok (.goto (-22), 3) := by decide +kernel
theorem dX6_digest_31 : decode cX6_digest 31 = .ok (.iconst 0, 1) := by decide +kernel
theorem dX6_digest_32 : decode cX6_digest 32 = .ok (.istore_n 3, 1) := by decide +kernel
theorem dX6_digest_33 : decode cX6_digest 33 = .ok (.iload_n 3, 1) := by decide +kernel
theorem dX6_digest_34 : decode cX6_digest 34 = .ok (.bipush 60, 2) := by decide +kernel
theorem dX6_digest_36 : decode cX6_digest 36 = .ok (.if_icmp .ge 27, 3) := by decide +kernel
theorem dX6_digest_39 : decode cX6_digest 39 = .ok (.ldc2_w 230, 3) := by decide +kernel
theorem dX6_digest_42 : decode cX6_digest 42 = .ok (.lload_n 1, 1) := by decide +kernel
theorem dX6_digest_43 : decode cX6_digest 43 = .ok (.lmul, 1) := by decide +kernel
theorem dX6_digest_44 : decode cX6_digest 44 = .ok (.aload_n 0, 1) := by decide +kernel
theorem dX6_digest_45 : decode cX6_digest 45 = .ok (.iload_n 3, 1) := by decide +kernel
theorem dX6_digest_46 : decode cX6_digest 46 = .ok (.iconst 5, 1) := by decide +kernel
theorem dX6_digest_47 : decode cX6_digest 47 = .ok (.idiv, 1) := by decide +kernel
theorem dX6_digest_48 : decode cX6_digest 48 = .ok (.iload_n 3, 1) := by decide +kernel
theorem dX6_digest_49 : decode cX6_digest 49 = .ok (.iconst 5, 1) := by decide +kernel
theorem dX6_digest_50 : decode cX6_digest 50 = .ok (.irem, 1) := by decide +kernel
theorem dX6_digest_51 : decode cX6_digest 51 = .ok (.invokevirtual 235, 3) := by decide +kernel
theorem dX6_digest_54 : decode cX6_digest 54 = .ok (.i2l, 1) := by decide +kernel
theorem dX6_digest_55 : decode cX6_digest 55 = .ok (.ladd, 1) := by decide +kernel
theorem dX6_digest_56 : decode cX6_digest 56 = .ok (.lstore_n 1, 1) := by decide +kernel
theorem dX6_digest_57 : decode cX6_digest 57 = .ok (.iinc 3 1, 3) := by decide +kernel
theorem dX6_digest_60 : decode cX6_digest 60 = .ok (.goto (-27), 3) := by decide +kernel
theorem dX6_digest_63 : decode cX6_digest 63 = .ok (.iconst 0, 1) := by decide +kernel
theorem dX6_digest_64 : decode cX6_digest 64 = .ok (.istore_n 3, 1) := by decide +kernel
theorem dX6_digest_65 : decode cX6_digest 65 = .ok (.iload_n 3, 1) := by decide +kernel
theorem dX6_digest_66 : decode cX6_digest 66 = .ok (.bipush 50, 2) := by decide +kernel
theorem dX6_digest_68 : decode cX6_digest 68 = .ok (.if_icmp .ge 29, 3) := by decide +kernel
theorem dX6_digest_71 : decode cX6_digest 71 = .ok (.ldc2_w 230, 3) := by decide +kernel
theorem dX6_digest_74 : decode cX6_digest 74 = .ok (.lload_n 1, 1) := by decide +kernel
theorem dX6_digest_75 : decode cX6_digest 75 = .ok (.lmul, 1) := by decide +kernel
theorem dX6_digest_76 : decode cX6_digest 76 = .ok (.aload_n 0, 1) := by decide +kernel
theorem dX6_digest_77 : decode cX6_digest 77 = .ok (.iload_n 3, 1) := by decide +kernel
theorem dX6_digest_78 : decode cX6_digest 78 = .ok (.bipush 10, 2) := by decide +kernel
theorem dX6_digest_80 : decode cX6_digest 80 = .ok (.idiv, 1) := by decide +kernel
theorem dX6_digest_81 : decode cX6_digest 81 = .ok (.iload_n 3, 1) := by decide +kernel
theorem dX6_digest_82 : decode cX6_digest 82 = .ok (.bipush 10, 2) := by decide +kernel
theorem dX6_digest_84 : decode cX6_digest 84 = .ok (.irem, 1) := by decide +kernel
theorem dX6_digest_85 : decode cX6_digest 85 = .ok (.invokevirtual 238, 3) := by decide +kernel
theorem dX6_digest_88 : decode cX6_digest 88 = .ok (.i2l, 1) := by decide +kernel
theorem dX6_digest_89 : decode cX6_digest 89 = .ok (.ladd, 1) := by decide +kernel
theorem dX6_digest_90 : decode cX6_digest 90 = .ok (.lstore_n 1, 1) := by decide +kernel
theorem dX6_digest_91 : decode cX6_digest 91 = .ok (.iinc 3 1, 3) := by decide +kernel
theorem dX6_digest_94 : decode cX6_digest 94 = .ok (.goto (-29), 3) := by decide +kernel
theorem dX6_digest_97 : decode cX6_digest 97 = .ok (.aload_n 0, 1) := by decide +kernel
theorem dX6_digest_98 : decode cX6_digest 98 = .ok (.getfield 10, 3) := by decide +kernel
theorem dX6_digest_101 : decode cX6_digest 101 = .ok (.getfield 145, 3) := by decide +kernel
theorem dX6_digest_104 : decode cX6_digest 104 = .ok (.invokevirtual 222, 3) := by decide +kernel
theorem dX6_digest_107 : decode cX6_digest 107 = .ok (.iconst 4, 1) := by decide +kernel
theorem dX6_digest_108 : decode cX6_digest 108 = .ok (.imul, 1) := by decide +kernel
theorem dX6_digest_109 : decode cX6_digest 109 = .ok (.istore_n 3, 1) := by decide +kernel
theorem dX6_digest_110 : decode cX6_digest 110 = .ok (.iconst 0, 1) := by decide +kernel
theorem dX6_digest_111 : decode cX6_digest 111 = .ok (.istore 4, 2) := by decide +kernel
theorem dX6_digest_113 : decode cX6_digest 113 = .ok (.iload 4, 2) := by decide +kernel
theorem dX6_digest_115 : decode cX6_digest 115 = .ok (.iload_n 3, 1) := by decide +kernel
theorem dX6_digest_116 : decode cX6_digest 116 = .ok (.if_icmp .ge 29, 3) := by decide +kernel
theorem dX6_digest_119 : decode cX6_digest 119 = .ok (.ldc2_w 230, 3) := by decide +kernel
theorem dX6_digest_122 : decode cX6_digest 122 = .ok (.lload_n 1, 1) := by decide +kernel
theorem dX6_digest_123 : decode cX6_digest 123 = .ok (.lmul, 1) := by decide +kernel
theorem dX6_digest_124 : decode cX6_digest 124 = .ok (.aload_n 0, 1) := by decide +kernel
theorem dX6_digest_125 : decode cX6_digest 125 = .ok (.iload 4, 2) := by decide +kernel
theorem dX6_digest_127 : decode cX6_digest 127 = .ok (.iconst 4, 1) := by decide +kernel
theorem dX6_digest_128 : decode cX6_digest 128 = .ok (.idiv, 1) := by decide +kernel
theorem dX6_digest_129 : decode cX6_digest 129 = .ok (.iload 4, 2) := by decide +kernel
theorem dX6_digest_131 : decode cX6_digest 131 = .ok (.iconst 4, 1) := by decide +kernel
theorem dX6_digest_132 : decode cX6_digest 132 = .ok (.irem, 1) := by decide +kernel
theorem dX6_digest_133 : decode cX6_digest 133 = .ok (.invokevirtual 240, 3) := by decide +kernel
theorem dX6_digest_136 : decode cX6_digest 136 = .ok (.i2l, 1) := by decide +kernel
theorem dX6_digest_137 : decode cX6_digest 137 = .ok (.ladd, 1) := by decide +kernel
theorem dX6_digest_138 : decode cX6_digest 138 = .ok (.lstore_n 1, 1) := by decide +kernel
theorem dX6_digest_139 : decode cX6_digest 139 = .ok (.iinc 4 1, 3) := by decide +kernel
theorem dX6_digest_142 : decode cX6_digest 142 = .ok (.goto (-29), 3) := by decide +kernel
theorem dX6_digest_145 : decode cX6_digest 145 = .ok (.ldc2_w 230, 3) := by decide +kernel
theorem dX6_digest_148 : decode cX6_digest 148 = .ok (.lload_n 1, 1) := by decide +kernel
theorem dX6_digest_149 : decode cX6_digest 149 = .ok (.lmul, 1) := by decide +kernel
theorem dX6_digest_150 : decode cX6_digest 150 = .ok (.aload_n 0, 1) := by decide +kernel
theorem dX6_digest_151 : decode cX6_digest 151 = .ok (.invokevirtual 243, 3) := by decide +kernel
theorem dX6_digest_154 : decode cX6_digest 154 = .ok (.i2l, 1) := by decide +kernel
theorem dX6_digest_155 : decode cX6_digest 155 = .ok (.ladd, 1) := by decide +kernel
theorem dX6_digest_156 : decode cX6_digest 156 = .ok (.lstore_n 1, 1) := by decide +kernel
theorem dX6_digest_157 : decode cX6_digest 157 = .ok (.ldc2_w 230, 3) := by decide +kernel
theorem dX6_digest_160 : decode cX6_digest 160 = .ok (.lload_n 1, 1) := by decide +kernel
theorem dX6_digest_161 : decode cX6_digest 161 = .ok (.lmul, 1) := by decide +kernel
theorem dX6_digest_162 : decode cX6_digest 162 = .ok (.aload_n 0, 1) := by decide +kernel
theorem dX6_digest_163 : decode cX6_digest 163 = .ok (.invokevirtual 246, 3) := by decide +kernel
theorem dX6_digest_166 : decode cX6_digest 166 = .ok (.i2l, 1) := by decide +kernel
theorem dX6_digest_167 : decode cX6_digest 167 = .ok (.ladd, 1) := by decide +kernel
theorem dX6_digest_168 : decode cX6_digest 168 = .ok (.lstore_n 1, 1) := by decide +kernel
theorem dX6_digest_169 : decode cX6_digest 169 = .ok (.iconst 0, 1) := by decide +kernel
theorem dX6_digest_170 : decode cX6_digest 170 = .ok (.istore 4, 2) := by decide +kernel
theorem dX6_digest_172 : decode cX6_digest 172 = .ok (.iload 4, 2) := by decide +kernel
theorem dX6_digest_174 : decode cX6_digest 174 = .ok (.aload_n 0, 1) := by decide +kernel
theorem dX6_digest_175 : decode cX6_digest 175 = .ok (.getfield 30, 3) := by decide +kernel
theorem dX6_digest_178 : decode cX6_digest 178 = .ok (.getfield 175, 3) := by decide +kernel
theorem dX6_digest_181 : decode cX6_digest 181 = .ok (.if_icmp .ge 27, 3) := by decide +kernel
theorem dX6_digest_184 : decode cX6_digest 184 = .ok (.ldc2_w 230, 3) := by decide +kernel
theorem dX6_digest_187 : decode cX6_digest 187 = .ok (.lload_n 1, 1) := by decide +kernel
theorem dX6_digest_188 : decode cX6_digest 188 = .ok (.lmul, 1) := by decide +kernel
theorem dX6_digest_189 : decode cX6_digest 189 = .ok (.aload_n 0, 1) := by decide +kernel
theorem dX6_digest_190 : decode cX6_digest 190 = .ok (.getfield 30, 3) := by decide +kernel
theorem dX6_digest_193 : decode cX6_digest 193 = .ok (.getfield 249, 3) := by decide +kernel
theorem dX6_digest_196 : decode cX6_digest 196 = .ok (.iload 4, 2) := by decide +kernel
theorem dX6_digest_198 : decode cX6_digest 198 = .ok (.iaload, 1) := by decide +kernel
theorem dX6_digest_199 : decode cX6_digest 199 = .ok (.i2l, 1) := by decide +kernel
theorem dX6_digest_200 : decode cX6_digest 200 = .ok (.ladd, 1) := by decide +kernel
theorem dX6_digest_201 : decode cX6_digest 201 = .ok (.lstore_n 1, 1) := by decide +kernel
theorem dX6_digest_202 : decode cX6_digest 202 = .ok (.iinc 4 1, 3) := by decide +kernel
theorem dX6_digest_205 : decode cX6_digest 205 = .ok (.goto (-33), 3) := by decide +kernel
theorem dX6_digest_208 : decode cX6_digest 208 = .ok (.lload_n 1, 1) := by decide +kernel
theorem dX6_digest_209 : decode cX6_digest 209 = .ok (.lreturn, 1) := by decide +kernel
theorem dX6_isWithin_0 : decode cX6_isWithin 0 = .ok (.iload_n 0, 1) := by decide +kernel
theorem dX6_isWithin_1 : decode cX6_isWithin 1 = .ok (.iload_n 1, 1) := by decide +kernel
theorem dX6_isWithin_2 : decode cX6_isWithin 2 = .ok (.if_icmp .lt 12, 3) := by decide +kernel
theorem dX6_isWithin_5 : decode cX6_isWithin 5 = .ok (.iload_n 0, 1) := by decide +kernel
theorem dX6_isWithin_6 : decode cX6_isWithin 6 = .ok (.iload_n 2, 1) := by decide +kernel
theorem dX6_isWithin_7 : decode cX6_isWithin 7 = .ok (.if_icmp .gt 7, 3) := by decide +kernel
theorem dX6_isWithin_10 : decode cX6_isWithin 10 = .ok (.iconst 1, 1) := by decide +kernel
theorem dX6_isWithin_11 : decode cX6_isWithin 11 = .ok (.goto 4, 3) := by decide +kernel
theorem dX6_isWithin_14 : decode cX6_isWithin 14 = .ok (.iconst 0, 1) := by decide +kernel
theorem dX6_isWithin_15 : decode cX6_isWithin 15 = .ok (.ireturn, 1) := by decide +kernel
theorem dX6_isMember_0 : decode cX6_isMember 0 = .ok (.iload_n 0, 1) := by decide +kernel
theorem dX6_isMember_1 : decode cX6_isMember 1 = .ok (.iconst 0, 1) := by decide +kernel
theorem dX6_isMember_2 : decode cX6_isMember 2 = .ok (.bipush 11, 2) := by decide +kernel
theorem dX6_isMember_4 : decode cX6_isMember 4 = .ok (.invokestatic 38, 3) := by decide +kernel
theorem dX6_isMember_7 : decode cX6_isMember 7 = .ok (.ireturn, 1) := by decide +kernel
theorem dX6_isRoom_0 : decode cX6_isRoom 0 = .ok (.iload_n 0, 1) := by decide +kernel
theorem dX6_isRoom_1 : decode cX6_isRoom 1 = .ok (.iconst 0, 1) := by decide +kernel
theorem dX6_isRoom_2 : decode cX6_isRoom 2 = .ok (.iconst 4, 1) := by decide +kernel
theorem dX6_isRoom_3 : decode cX6_isRoom 3 = .ok (.invokestatic 38, 3) := by decide +kernel
theorem dX6_isRoom_6 : decode cX6_isRoom 6 = .ok (.ireturn, 1) := by decide +kernel
theorem dX6_greatestOfRule_0 : decode cX6_greatestOfRule 0 = .ok (.iload_n 0, 1) := by decide +kernel
theorem dX6_greatestOfRule_1 : decode cX6_greatestOfRule 1 = .ok (.ifCond .ne 6, 3) := by decide +kernel
theorem dX6_greatestOfRule_4 : decode cX6_greatestOfRule 4 = .ok (.bipush 100, 2) := by decide +kernel
theorem dX6_greatestOfRule_6 : decode cX6_greatestOfRule 6 = .ok (.ireturn, 1) := by decide +kernel
theorem dX6_greatestOfRule_7 : decode cX6_greatestOfRule 7 = .ok (.iload_n 0, 1) := by decide +kernel
theorem dX6_greatestOfRule_8 : decode cX6_greatestOfRule 8 = .ok (.iconst 1, 1) := by decide +kernel
theorem dX6_greatestOfRule_9 : decode cX6_greatestOfRule 9 = .ok (.if_icmp .ne 8, 3) := by decide +kernel
theorem dX6_greatestOfRule_12 : decode cX6_greatestOfRule 12 = .ok (.bipush 20, 2) := by decide +kernel
theorem dX6_greatestOfRule_14 : decode cX6_greatestOfRule 14 = .ok (.goto 5, 3) := by decide +kernel
theorem dX6_greatestOfRule_17 : decode cX6_greatestOfRule 17 = .ok (.bipush 50, 2) := by decide +kernel
theorem dX6_greatestOfRule_19 : decode cX6_greatestOfRule 19 = .ok (.ireturn, 1) := by decide +kernel
theorem dX6_ticksUntilEntry_0 : decode cX6_ticksUntilEntry 0 = .ok (.aload_n 0, 1) := by decide +kernel
theorem dX6_ticksUntilEntry_1 : decode cX6_ticksUntilEntry 1 = .ok (.getfield 16, 3) := by decide +kernel
theorem dX6_ticksUntilEntry_4 : decode cX6_ticksUntilEntry 4 = .ok (.aload_n 0, 1) := by decide +kernel
theorem dX6_ticksUntilEntry_5 : decode cX6_ticksUntilEntry 5 = .ok (.getfield 10, 3) := by decide +kernel
theorem dX6_ticksUntilEntry_8 : decode cX6_ticksUntilEntry 8 = .ok (.invokevirtual 171, 3) := by decide +kernel
theorem dX6_ticksUntilEntry_11 : decode cX6_ticksUntilEntry 11 = .ok (.aload_n 0, 1) := by decide +kernel
theorem dX6_ticksUntilEntry_12 : decode cX6_ticksUntilEntry 12 = .ok (.getfield 16, 3) := by decide +kernel
theorem dX6_ticksUntilEntry_15 : decode cX6_ticksUntilEntry 15 = .ok (.getfield 59, 3) := by decide +kernel
theorem dX6_ticksUntilEntry_18 : decode cX6_ticksUntilEntry 18 = .ok (.iconst 1, 1) := by decide +kernel
theorem dX6_ticksUntilEntry_19 : decode cX6_ticksUntilEntry 19 = .ok (.iload_n 2, 1) := by decide +kernel
theorem dX6_ticksUntilEntry_20 : decode cX6_ticksUntilEntry 20 = .ok (.iastore, 1) := by decide +kernel
theorem dX6_ticksUntilEntry_21 : decode cX6_ticksUntilEntry 21 = .ok (.aload_n 0, 1) := by decide +kernel
theorem dX6_ticksUntilEntry_22 : decode cX6_ticksUntilEntry 22 = .ok (.getfield 10, 3) := by decide +kernel
theorem dX6_ticksUntilEntry_25 : decode cX6_ticksUntilEntry 25 = .ok (.getfield 82, 3) := by decide +kernel
theorem dX6_ticksUntilEntry_28 : decode cX6_ticksUntilEntry 28 = .ok (.iload_n 3, 1) := by decide +kernel
theorem dX6_ticksUntilEntry_29 : decode cX6_ticksUntilEntry 29 = .ok (.iadd, 1) := by decide +kernel
theorem dX6_ticksUntilEntry_30 : decode cX6_ticksUntilEntry 30 = .ok (.istore 4, 2) := by decide +kernel
theorem dX6_ticksUntilEntry_32 : decode cX6_ticksUntilEntry 32 = .ok (.iconst 0, 1) := by decide +kernel
theorem dX6_ticksUntilEntry_33 : decode cX6_ticksUntilEntry 33 = .ok (.istore 5, 2) := by decide +kernel
theorem dX6_ticksUntilEntry_35 : decode cX6_ticksUntilEntry 35 = .ok (.iload 5, 2) := by decide +kernel
theorem dX6_ticksUntilEntry_37 : decode cX6_ticksUntilEntry 37 = .ok (.iload_n 3, 1) := by decide +kernel
theorem dX6_ticksUntilEntry_38 : decode cX6_ticksUntilEntry 38 = .ok (.if_icmp .ge 69, 3) := by decide +kernel
theorem dX6_ticksUntilEntry_41 : decode cX6_ticksUntilEntry 41 = .ok (.aload_n 0, 1) := by decide +kernel
theorem dX6_ticksUntilEntry_42 : decode cX6_ticksUntilEntry 42 = .ok (.getfield 16, 3) := by decide +kernel
theorem dX6_ticksUntilEntry_45 : decode cX6_ticksUntilEntry 45 = .ok (.getfield 82, 3) := by decide +kernel
theorem dX6_ticksUntilEntry_48 : decode cX6_ticksUntilEntry 48 = .ok (.iload 4, 2) := by decide +kernel
theorem dX6_ticksUntilEntry_50 : decode cX6_ticksUntilEntry 50 = .ok (.if_icmp .ge 57, 3) := by decide +kernel
theorem dX6_ticksUntilEntry_53 : decode cX6_ticksUntilEntry 53 = .ok (.aload_n 0, 1) := by decide +kernel
theorem dX6_ticksUntilEntry_54 : decode cX6_ticksUntilEntry 54 = .ok (.getfield 16, 3) := by decide +kernel
theorem dX6_ticksUntilEntry_57 : decode cX6_ticksUntilEntry 57 = .ok (.invokevirtual 108, 3) := by decide +kernel
theorem dX6_ticksUntilEntry_60 : decode cX6_ticksUntilEntry 60 = .ok (.aload_n 0, 1) := by decide +kernel
theorem dX6_ticksUntilEntry_61 : decode cX6_ticksUntilEntry 61 = .ok (.getfield 16, 3) := by decide +kernel
theorem dX6_ticksUntilEntry_64 : decode cX6_ticksUntilEntry 64 = .ok (.getfield 66, 3) := by decide +kernel
theorem dX6_ticksUntilEntry_67 : decode cX6_ticksUntilEntry 67 = .ok (.iload_n 1, 1) := by decide +kernel
theorem dX6_ticksUntilEntry_68 : decode cX6_ticksUntilEntry 68 = .ok (.aaload, 1) := by decide +kernel
theorem dX6_ticksUntilEntry_69 : decode cX6_ticksUntilEntry 69 = .ok (.getfield 70, 3) := by decide +kernel
theorem dX6_ticksUntilEntry_72 : decode cX6_ticksUntilEntry 72 = .ok (.iconst 2, 1) := by decide +kernel
theorem dX6_ticksUntilEntry_73 : decode cX6_ticksUntilEntry 73 = .ok (.if_icmp .ne 19, 3) := by decide +kernel
theorem dX6_ticksUntilEntry_76 : decode cX6_ticksUntilEntry 76 = .ok (.aload_n 0, 1) := by decide +kernel
theorem dX6_ticksUntilEntry_77 : decode cX6_ticksUntilEntry 77 = .ok (.getfield 16, 3) := by decide +kernel
theorem dX6_ticksUntilEntry_80 : decode cX6_ticksUntilEntry 80 = .ok (.getfield 82, 3) := by decide +kernel
theorem dX6_ticksUntilEntry_83 : decode cX6_ticksUntilEntry 83 = .ok (.aload_n 0, 1) := by decide +kernel
theorem dX6_ticksUntilEntry_84 : decode cX6_ticksUntilEntry 84 = .ok (.getfield 10, 3) := by decide +kernel
theorem dX6_ticksUntilEntry_87 : decode cX6_ticksUntilEntry 87 = .ok (.getfield 82, 3) := by decide +kernel
theorem dX6_ticksUntilEntry_90 : decode cX6_ticksUntilEntry 90 = .ok (.isub, 1) := by decide +kernel
theorem dX6_ticksUntilEntry_91 : decode cX6_ticksUntilEntry 91 = .ok (.ireturn, 1) := by decide +kernel
theorem dX6_ticksUntilEntry_92 : decode cX6_ticksUntilEntry 92 = .ok (.aload_n 0, 1) := by decide +kernel
theorem dX6_ticksUntilEntry_93 : decode cX6_ticksUntilEntry 93 = .ok (.getfield 16, 3) := by decide +kernel
theorem dX6_ticksUntilEntry_96 : decode cX6_ticksUntilEntry 96 = .ok (.iload 4, 2) := by decide +kernel
theorem dX6_ticksUntilEntry_98 : decode cX6_ticksUntilEntry 98 = .ok (.invokevirtual 111, 3) := by decide +kernel
theorem dX6_ticksUntilEntry_101 : decode cX6_ticksUntilEntry 101 = .ok (.iinc 5 1, 3) := by decide +kernel
theorem dX6_ticksUntilEntry_104 : decode cX6_ticksUntilEntry 104 = .ok (.goto (-69), 3) := by decide +kernel
theorem dX6_ticksUntilEntry_107 : decode cX6_ticksUntilEntry 107 = .ok (.iconst (-1), 1) := by decide +kernel
theorem dX6_ticksUntilEntry_108 : decode cX6_ticksUntilEntry 108 = .ok (.ireturn, 1) := by decide +kernel
theorem dX6_carryOut_0 : decode cX6_carryOut 0 = .ok (.aload_n 0, 1) := by decide +kernel
theorem dX6_carryOut_1 : decode cX6_carryOut 1 = .ok (.getfield 30, 3) := by decide +kernel
theorem dX6_carryOut_4 : decode cX6_carryOut 4 = .ok (.getfield 252, 3) := by decide +kernel
theorem dX6_carryOut_7 : decode cX6_carryOut 7 = .ok (.iload_n 1, 1) := by decide +kernel
theorem dX6_carryOut_8 : decode cX6_carryOut 8 = .ok (.iaload, 1) := by decide +kernel
theorem dX6_carryOut_9 : decode cX6_carryOut 9 = .ok (.istore_n 2, 1) := by decide +kernel
theorem dX6_carryOut_10 : decode cX6_carryOut 10 = .ok (.aload_n 0, 1) := by decide +kernel
theorem dX6_carryOut_11 : decode cX6_carryOut 11 = .ok (.getfield 30, 3) := by decide +kernel
theorem dX6_carryOut_14 : decode cX6_carryOut 14 = .ok (.getfield 254, 3) := by decide +kernel
theorem dX6_carryOut_17 : decode cX6_carryOut 17 = .ok (.iload_n 1, 1) := by decide +kernel
theorem dX6_carryOut_18 : decode cX6_carryOut 18 = .ok (.iaload, 1) := by decide +kernel
theorem dX6_carryOut_19 : decode cX6_carryOut 19 = .ok (.lookupswitch 83 #[(99, 77), (108, 71), (114, 41), (119, 65)], 41) := by decide +kernel
theorem dX6_carryOut_60 : decode cX6_carryOut 60 = .ok (.aload_n 0, 1) := by decide +kernel
theorem dX6_carryOut_61 : decode cX6_carryOut 61 = .ok (.iload_n 2, 1) := by decide +kernel
theorem dX6_carryOut_62 : decode cX6_carryOut 62 = .ok (.aload_n 0, 1) := by decide +kernel
theorem dX6_carryOut_63 : decode cX6_carryOut 63 = .ok (.getfield 30, 3) := by decide +kernel
theorem dX6_carryOut_66 : decode cX6_carryOut 66 = .ok (.getfield 257, 3) := by decide +kernel
theorem dX6_carryOut_69 : decode cX6_carryOut 69 = .ok (.iload_n 1, 1) := by decide +kernel
theorem dX6_carryOut_70 : decode cX6_carryOut 70 = .ok (.iaload, 1) := by decide +kernel
theorem dX6_carryOut_71 : decode cX6_carryOut 71 = .ok (.aload_n 0, 1) := by decide +kernel
theorem dX6_carryOut_72 : decode cX6_carryOut 72 = .ok (.getfield 30, 3) := by decide +kernel
theorem dX6_carryOut_75 : decode cX6_carryOut 75 = .ok (.getfield 259, 3) := by decide +kernel
theorem dX6_carryOut_78 : decode cX6_carryOut 78 = .ok (.iload_n 1, 1) := by decide +kernel
theorem dX6_carryOut_79 : decode cX6_carryOut 79 = .ok (.iaload, 1) := by decide +kernel
theorem dX6_carryOut_80 : decode cX6_carryOut 80 = .ok (.invokevirtual 262, 3) := by decide +kernel
theorem dX6_carryOut_83 : decode cX6_carryOut 83 = .ok (.ireturn, 1) := by decide +kernel
theorem dX6_carryOut_84 : decode cX6_carryOut 84 = .ok (.aload_n 0, 1) := by decide +kernel
theorem dX6_carryOut_85 : decode cX6_carryOut 85 = .ok (.iload_n 2, 1) := by decide +kernel
theorem dX6_carryOut_86 : decode cX6_carryOut 86 = .ok (.invokevirtual 265, 3) := by decide +kernel
theorem dX6_carryOut_89 : decode cX6_carryOut 89 = .ok (.ireturn, 1) := by decide +kernel
theorem dX6_carryOut_90 : decode cX6_carryOut 90 = .ok (.aload_n 0, 1) := by decide +kernel
theorem dX6_carryOut_91 : decode cX6_carryOut 91 = .ok (.iload_n 2, 1) := by decide +kernel
theorem dX6_carryOut_92 : decode cX6_carryOut 92 = .ok (.invokevirtual 268, 3) := by decide +kernel
theorem dX6_carryOut_95 : decode cX6_carryOut 95 = .ok (.ireturn, 1) := by decide +kernel
theorem dX6_carryOut_96 : decode cX6_carryOut 96 = .ok (.aload_n 0, 1) := by decide +kernel
theorem dX6_carryOut_97 : decode cX6_carryOut 97 = .ok (.iload_n 2, 1) := by decide +kernel
theorem dX6_carryOut_98 : decode cX6_carryOut 98 = .ok (.invokevirtual 271, 3) := by decide +kernel
theorem dX6_carryOut_101 : decode cX6_carryOut 101 = .ok (.ireturn, 1) := by decide +kernel
theorem dX6_carryOut_102 : decode cX6_carryOut 102 = .ok (.aload_n 0, 1) := by decide +kernel
theorem dX6_carryOut_103 : decode cX6_carryOut 103 = .ok (.aload_n 0, 1) := by decide +kernel
theorem dX6_carryOut_104 : decode cX6_carryOut 104 = .ok (.getfield 30, 3) := by decide +kernel
theorem dX6_carryOut_107 : decode cX6_carryOut 107 = .ok (.getfield 259, 3) := by decide +kernel
theorem dX6_carryOut_110 : decode cX6_carryOut 110 = .ok (.iload_n 1, 1) := by decide +kernel
theorem dX6_carryOut_111 : decode cX6_carryOut 111 = .ok (.iaload, 1) := by decide +kernel
theorem dX6_carryOut_112 : decode cX6_carryOut 112 = .ok (.invokevirtual 274, 3) := by decide +kernel
theorem dX6_carryOut_115 : decode cX6_carryOut 115 = .ok (.ireturn, 1) := by decide +kernel
theorem dX7_init_0 : decode cX7_init 0 = .ok (.aload_n 0, 1) := by decide +kernel
theorem dX7_init_1 : decode cX7_init 1 = .ok (.invokespecial 1, 3) := by decide +kernel
theorem dX7_init_4 : decode cX7_init 4 = .ok (.aload_n 0, 1) := by decide +kernel
theorem dX7_init_5 : decode cX7_init 5 = .ok (.sipush 271, 3) := by decide +kernel
theorem dX7_init_8 : decode cX7_init 8 = .ok (.newarray .int, 2) := by decide +kernel
theorem dX7_init_10 : decode cX7_init 10 = .ok (.putfield 7, 3) := by decide +kernel
theorem dX7_init_13 : decode cX7_init 13 = .ok (.aload_n 0, 1) := by decide +kernel
theorem dX7_init_14 : decode cX7_init 14 = .ok (.sipush 271, 3) := by decide +kernel
theorem dX7_init_17 : decode cX7_init 17 = .ok (.newarray .int, 2) := by decide +kernel
theorem dX7_init_19 : decode cX7_init 19 = .ok (.putfield 13, 3) := by decide +kernel
theorem dX7_init_22 : decode cX7_init 22 = .ok (.aload_n 0, 1) := by decide +kernel
theorem dX7_init_23 : decode cX7_init 23 = .ok (.sipush 542, 3) := by decide +kernel
theorem dX7_init_26 : decode cX7_init 26 = .ok (.newarray .int, 2) := by decide +kernel
theorem dX7_init_28 : decode cX7_init 28 = .ok (.putfield 16, 3) := by decide +kernel
theorem dX7_init_31 : decode cX7_init 31 = .ok (.aload_n 0, 1) := by decide +kernel
theorem dX7_init_32 : decode cX7_init 32 = .ok (.iconst 2, 1) := by decide +kernel
theorem dX7_init_33 : decode cX7_init 33 = .ok (.newarray .boolean, 2) := by decide +kernel
theorem dX7_init_35 : decode cX7_init 35 = .ok (.putfield 19, 3) := by decide +kernel
theorem dX7_init_38 : decode cX7_init 38 = .ok (.aload_n 0, 1) := by decide +kernel
theorem dX7_init_39 : decode cX7_init 39 = .ok (.bipush 100, 2) := by decide +kernel
theorem dX7_init_41 : decode cX7_init 41 = .ok (.newarray .int, 2) := by decide +kernel
theorem dX7_init_43 : decode cX7_init 43 = .ok (.putfield 23, 3) := by decide +kernel
theorem dX7_init_46 : decode cX7_init 46 = .ok (.aload_n 0, 1) := by decide +kernel
theorem dX7_init_47 : decode cX7_init 47 = .ok (.sipush 400, 3) := by decide +kernel
theorem dX7_init_50 : decode cX7_init 50 = .ok (.newarray .int, 2) := by decide +kernel
theorem dX7_init_52 : decode cX7_init 52 = .ok (.putfield 26, 3) := by decide +kernel
theorem dX7_init_55 : decode cX7_init 55 = .ok (.aload_n 0, 1) := by decide +kernel
theorem dX7_init_56 : decode cX7_init 56 = .ok (.iconst 5, 1) := by decide +kernel
theorem dX7_init_57 : decode cX7_init 57 = .ok (.newarray .int, 2) := by decide +kernel
theorem dX7_init_59 : decode cX7_init 59 = .ok (.putfield 29, 3) := by decide +kernel
theorem dX7_init_62 : decode cX7_init 62 = .ok (.aload_n 0, 1) := by decide +kernel
theorem dX7_init_63 : decode cX7_init 63 = .ok (.iconst 5, 1) := by decide +kernel
theorem dX7_init_64 : decode cX7_init 64 = .ok (.newarray .int, 2) := by decide +kernel
theorem dX7_init_66 : decode cX7_init 66 = .ok (.putfield 32, 3) := by decide +kernel
theorem dX7_init_69 : decode cX7_init 69 = .ok (.iconst 0, 1) := by decide +kernel
theorem dX7_init_70 : decode cX7_init 70 = .ok (.istore_n 1, 1) := by decide +kernel
theorem dX7_init_71 : decode cX7_init 71 = .ok (.iload_n 1, 1) := by decide +kernel
theorem dX7_init_72 : decode cX7_init 72 = .ok (.bipush 12, 2) := by decide +kernel
theorem dX7_init_74 : decode cX7_init 74 = .ok (.if_icmp .ge 14, 3) := by decide +kernel
theorem dX7_init_77 : decode cX7_init 77 = .ok (.aload_n 0, 1) := by decide +kernel
theorem dX7_init_78 : decode cX7_init 78 = .ok (.iload_n 1, 1) := by decide +kernel
theorem dX7_init_79 : decode cX7_init 79 = .ok (.invokevirtual 35, 3) := by decide +kernel
theorem dX7_init_82 : decode cX7_init 82 = .ok (.iinc 1 1, 3) := by decide +kernel
theorem dX7_init_85 : decode cX7_init 85 = .ok (.goto (-14), 3) := by decide +kernel
theorem dX7_init_88 : decode cX7_init 88 = .ok (.iconst 0, 1) := by decide +kernel
theorem dX7_init_89 : decode cX7_init 89 = .ok (.istore_n 1, 1) := by decide +kernel
theorem dX7_init_90 : decode cX7_init 90 = .ok (.iload_n 1, 1) := by decide +kernel
theorem dX7_init_91 : decode cX7_init 91 = .ok (.iconst 5, 1) := by decide +kernel
theorem dX7_init_92 : decode cX7_init 92 = .ok (.if_icmp .ge 29, 3) := by decide +kernel
theorem dX7_init_95 : decode cX7_init 95 = .ok (.aload_n 0, 1) := by decide +kernel
theorem dX7_init_96 : decode cX7_init 96 = .ok (.getfield 7, 3) := by decide +kernel
theorem dX7_init_99 : decode cX7_init 99 = .ok (.bipush 60, 2) := by decide +kernel
theorem dX7_init_101 : decode cX7_init 101 = .ok (.iload_n 1, 1) := by decide +kernel
theorem dX7_init_102 : decode cX7_init 102 = .ok (.iadd, 1) := by decide +kernel
theorem dX7_init_103 : decode cX7_init 103 = .ok (.iconst 3, 1) := by decide +kernel
theorem dX7_init_104 : decode cX7_init 104 = .ok (.iastore, 1) := by decide +kernel
theorem dX7_init_105 : decode cX7_init 105 = .ok (.aload_n 0, 1) := by decide +kernel
theorem dX7_init_106 : decode cX7_init 106 = .ok (.getfield 7, 3) := by decide +kernel
theorem dX7_init_109 : decode cX7_init 109 = .ok (.bipush 65, 2) := by decide +kernel
theorem dX7_init_111 : decode cX7_init 111 = .ok (.iload_n 1, 1) := by decide +kernel
theorem dX7_init_112 : decode cX7_init 112 = .ok (.iadd, 1) := by decide +kernel
theorem dX7_init_113 : decode cX7_init 113 = .ok (.iconst 1, 1) := by decide +kernel
theorem dX7_init_114 : decode cX7_init 114 = .ok (.iastore, 1) := by decide +kernel
theorem dX7_init_115 : decode cX7_init 115 = .ok (.iinc 1 1, 3) := by decide +kernel
theorem dX7_init_118 : decode cX7_init 118 = .ok (.goto (-28), 3) := by decide +kernel
theorem dX7_init_121 : decode cX7_init 121 = .ok (.aload_n 0, 1) := by decide +kernel
theorem dX7_init_122 : decode cX7_init 122 = .ok (.getfield 7, 3) := by decide +kernel
theorem dX7_init_125 : decode cX7_init 125 = .ok (.bipush 100, 2) := by decide +kernel
theorem dX7_init_127 : decode cX7_init 127 = .ok (.bipush 20, 2) := by decide +kernel
theorem dX7_init_129 : decode cX7_init 129 = .ok (.iastore, 1) := by decide +kernel
theorem dX7_init_130 : decode cX7_init 130 = .ok (.aload_n 0, 1) := by decide +kernel
theorem dX7_init_131 : decode cX7_init 131 = .ok (.getfield 7, 3) := by decide +kernel
theorem dX7_init_134 : decode cX7_init 134 = .ok (.bipush 101, 2) := by decide +kernel
theorem dX7_init_136 : decode cX7_init 136 = .ok (.iconst 5, 1) := by decide +kernel
theorem dX7_init_137 : decode cX7_init 137 = .ok (.iastore, 1) := by decide +kernel
theorem dX7_init_138 : decode cX7_init 138 = .ok (.aload_n 0, 1) := by decide +kernel
theorem dX7_init_139 : decode cX7_init 139 = .ok (.getfield 7, 3) := by decide +kernel
theorem dX7_init_142 : decode cX7_init 142 = .ok (.bipush 102, 2) := by decide +kernel
theorem dX7_init_144 : decode cX7_init 144 = .ok (.bipush 10, 2) := by decide +kernel
theorem dX7_init_146 : decode cX7_init 146 = .ok (.iastore, 1) := by decide +kernel
theorem dX7_init_147 : decode cX7_init 147 = .ok (.return_, 1) := by decide +kernel
theorem dX7_in_0 : decode cX7_in 0 = .ok (.iload_n 0, 1) := by decide +kernel
theorem dX7_in_1 : decode cX7_in 1 = .ok (.iload_n 1, 1) := by decide +kernel
theorem dX7_in_2 : decode cX7_in 2 = .ok (.if_icmp .lt 12, 3) := by decide +kernel
theorem dX7_in_5 : decode cX7_in 5 = .ok (.iload_n 0, 1) := by decide +kernel
theorem dX7_in_6 : decode cX7_in 6 = .ok (.iload_n 2, 1) := by decide +kernel
theorem dX7_in_7 : decode cX7_in 7 = .ok (.if_icmp .gt 7, 3) := by decide +kernel
theorem dX7_in_10 : decode cX7_in 10 = .ok (.iconst 1, 1) := by decide +kernel
theorem dX7_in_11 : decode cX7_in 11 = .ok (.goto 4, 3) := by decide +kernel
theorem dX7_in_14 : decode cX7_in 14 = .ok (.iconst 0, 1) := by decide +kernel
theorem dX7_in_15 : decode cX7_in 15 = .ok (.ireturn, 1) := by decide +kernel
theorem dX7_isMember_0 : decode cX7_isMember 0 = .ok (.iload_n 0, 1) := by decide +kernel
theorem dX7_isMember_1 : decode cX7_isMember 1 = .ok (.iconst 0, 1) := by decide +kernel
theorem dX7_isMember_2 : decode cX7_isMember 2 = .ok (.bipush 11, 2) := by decide +kernel
theorem dX7_isMember_4 : decode cX7_isMember 4 = .ok (.invokestatic 39, 3) := by decide +kernel
theorem dX7_isMember_7 : decode cX7_isMember 7 = .ok (.ireturn, 1) := by decide +kernel
theorem dX7_isRoom_0 : decode cX7_isRoom 0 = .ok (.iload_n 0, 1) := by decide +kernel
theorem dX7_isRoom_1 : decode cX7_isRoom 1 = .ok (.iconst 0, 1) := by decide +kernel
theorem dX7_isRoom_2 : decode cX7_isRoom 2 = .ok (.iconst 4, 1) := by decide +kernel
theorem dX7_isRoom_3 : decode cX7_isRoom 3 = .ok (.invokestatic 39, 3) := by decide +kernel
theorem dX7_isRoom_6 : decode cX7_isRoom 6 = .ok (.ireturn, 1) := by decide +kernel
theorem dX7_leaves_0 : decode cX7_leaves 0 = .ok (.aload_n 0, 1) := by decide +kernel
theorem dX7_leaves_1 : decode cX7_leaves 1 = .ok (.getfield 7, 3) := by decide +kernel
theorem dX7_leaves_4 : decode cX7_leaves 4 = .ok (.iconst 0, 1) := by decide +kernel
theorem dX7_leaves_5 : decode cX7_leaves 5 = .ok (.iload_n 1, 1) := by decide +kernel
theorem dX7_leaves_6 : decode cX7_leaves 6 = .ok (.iadd, 1) := by decide +kernel
theorem dX7_leaves_7 : decode cX7_leaves 7 = .ok (.iconst 0, 1) := by decide +kernel
theorem dX7_leaves_8 : decode cX7_leaves 8 = .ok (.iastore, 1) := by decide +kernel
theorem dX7_leaves_9 : decode cX7_leaves 9 = .ok (.aload_n 0, 1) := by decide +kernel
theorem dX7_leaves_10 : decode cX7_leaves 10 = .ok (.getfield 7, 3) := by decide +kernel
theorem dX7_leaves_13 : decode cX7_leaves 13 = .ok (.bipush 12, 2) := by decide +kernel
theorem dX7_leaves_15 : decode cX7_leaves 15 = .ok (.iload_n 1, 1) := by decide +kernel
theorem dX7_leaves_16 : decode cX7_leaves 16 = .ok (.iadd, 1) := by decide +kernel
theorem dX7_leaves_17 : decode cX7_leaves 17 = .ok (.iconst (-1), 1) := by decide +kernel
theorem dX7_leaves_18 : decode cX7_leaves 18 = .ok (.iastore, 1) := by decide +kernel
theorem dX7_leaves_19 : decode cX7_leaves 19 = .ok (.aload_n 0, 1) := by decide +kernel
theorem dX7_leaves_20 : decode cX7_leaves 20 = .ok (.getfield 7, 3) := by decide +kernel
theorem dX7_leaves_23 : decode cX7_leaves 23 = .ok (.bipush 24, 2) := by decide +kernel
theorem dX7_leaves_25 : decode cX7_leaves 25 = .ok (.iload_n 1, 1) := by decide +kernel
theorem dX7_leaves_26 : decode cX7_leaves 26 = .ok (.iadd, 1) := by decide +kernel
theorem dX7_leaves_27 : decode cX7_leaves 27 = .ok (.iconst (-1), 1) := by decide +kernel
theorem dX7_leaves_28 : decode cX7_leaves 28 = .ok (.iastore, 1) := by decide +kernel
theorem dX7_leaves_29 : decode cX7_leaves 29 = .ok (.aload_n 0, 1) := by decide +kernel
theorem dX7_leaves_30 : decode cX7_leaves 30 = .ok (.getfield 7, 3) := by decide +kernel
theorem dX7_leaves_33 : decode cX7_leaves 33 = .ok (.bipush 36, 2) := by decide +kernel
theorem dX7_leaves_35 : decode cX7_leaves 35 = .ok (.iload_n 1, 1) := by decide +kernel
theorem dX7_leaves_36 : decode cX7_leaves 36 = .ok (.iadd, 1) := by decide +kernel
theorem dX7_leaves_37 : decode cX7_leaves 37 = .ok (.iconst 0, 1) := by decide +kernel
theorem dX7_leaves_38 : decode cX7_leaves 38 = .ok (.iastore, 1) := by decide +kernel
theorem dX7_leaves_39 : decode cX7_leaves 39 = .ok (.return_, 1) := by decide +kernel
theorem dX7_logs_0 : decode cX7_logs 0 = .ok (.aload_n 0, 1) := by decide +kernel
theorem dX7_logs_1 : decode cX7_logs 1 = .ok (.getfield 7, 3) := by decide +kernel
theorem dX7_logs_4 : decode cX7_logs 4 = .ok (.bipush 108, 2) := by decide +kernel
theorem dX7_logs_6 : decode cX7_logs 6 = .ok (.iaload, 1) := by decide +kernel
theorem dX7_logs_7 : decode cX7_logs 7 = .ok (.bipush 40, 2) := by decide +kernel
theorem dX7_logs_9 : decode cX7_logs 9 = .ok (.if_icmp .ne 53, 3) := by decide +kernel
theorem dX7_logs_12 : decode cX7_logs 12 = .ok (.iconst 0, 1) := by decide +kernel
theorem dX7_logs_13 : decode cX7_logs 13 = .ok (.istore 4, 2) := by decide +kernel
theorem dX7_logs_15 : decode cX7_logs 15 = .ok (.iload 4, 2) := by decide +kernel
theorem dX7_logs_17 : decode cX7_logs 17 = .ok (.sipush 156, 3) := by decide +kernel
theorem dX7_logs_20 : decode cX7_logs 20 = .ok (.if_icmp .ge 31, 3) := by decide +kernel
theorem dX7_logs_23 : decode cX7_logs 23 = .ok (.aload_n 0, 1) := by decide +kernel
theorem dX7_logs_24 : decode cX7_logs 24 = .ok (.getfield 7, 3) := by decide +kernel
theorem dX7_logs_27 : decode cX7_logs 27 = .ok (.bipush 111, 2) := by decide +kernel
theorem dX7_logs_29 : decode cX7_logs 29 = .ok (.iload 4, 2) := by decide +kernel
theorem dX7_logs_31 : decode cX7_logs 31 = .ok (.iadd, 1) := by decide +kernel
theorem dX7_logs_32 : decode cX7_logs 32 = .ok (.aload_n 0, 1) := by decide +kernel
theorem dX7_logs_33 : decode cX7_logs 33 = .ok (.getfield 7, 3) := by decide +kernel
theorem dX7_logs_36 : decode cX7_logs 36 = .ok (.bipush 111, 2) := by decide +kernel
theorem dX7_logs_38 : decode cX7_logs 38 = .ok (.iload 4, 2) := by decide +kernel
theorem dX7_logs_40 : decode cX7_logs 40 = .ok (.iadd, 1) := by decide +kernel
theorem dX7_logs_41 : decode cX7_logs 41 = .ok (.iconst 4, 1) := by decide +kernel
theorem dX7_logs_42 : decode cX7_logs 42 = .ok (.iadd, 1) := by decide +kernel
theorem dX7_logs_43 : decode cX7_logs 43 = .ok (.iaload, 1) := by decide +kernel
theorem dX7_logs_44 : decode cX7_logs 44 = .ok (.iastore, 1) := by decide +kernel
theorem dX7_logs_45 : decode cX7_logs 45 = .ok (.iinc 4 1, 3) := by decide +kernel
theorem dX7_logs_48 : decode cX7_logs 48 = .ok (.goto (-33), 3) := by decide +kernel
theorem dX7_logs_51 : decode cX7_logs 51 = .ok (.aload_n 0, 1) := by decide +kernel
theorem dX7_logs_52 : decode cX7_logs 52 = .ok (.getfield 7, 3) := by decide +kernel
theorem dX7_logs_55 : decode cX7_logs 55 = .ok (.bipush 108, 2) := by decide +kernel
theorem dX7_logs_57 : decode cX7_logs 57 = .ok (.dup2, 1) := by decide +kernel
theorem dX7_logs_58 : decode cX7_logs 58 = .ok (.iaload, 1) := by decide +kernel
theorem dX7_logs_59 : decode cX7_logs 59 = .ok (.iconst 1, 1) := by decide +kernel
theorem dX7_logs_60 : decode cX7_logs 60 = .ok (.isub, 1) := by decide +kernel
theorem dX7_logs_61 : decode cX7_logs 61 = .ok (.iastore, 1) := by decide +kernel
theorem dX7_logs_62 : decode cX7_logs 62 = .ok (.bipush 111, 2) := by decide +kernel
theorem dX7_logs_64 : decode cX7_logs 64 = .ok (.iconst 4, 1) := by decide +kernel
theorem dX7_logs_65 : decode cX7_logs 65 = .ok (.aload_n 0, 1) := by decide +kernel
theorem dX7_logs_66 : decode cX7_logs 66 = .ok (.getfield 7, 3) := by decide +kernel
theorem dX7_logs_69 : decode cX7_logs 69 = .ok (.bipush 108, 2) := by decide +kernel
theorem dX7_logs_71 : decode cX7_logs 71 = .ok (.iaload, 1) := by decide +kernel
theorem dX7_logs_72 : decode cX7_logs 72 = .ok (.imul, 1) := by decide +kernel
theorem dX7_logs_73 : decode cX7_logs 73 = .ok (.iadd, 1) := by decide +kernel
theorem dX7_logs_74 : decode cX7_logs 74 = .ok (.istore 4, 2) := by decide +kernel
theorem dX7_logs_76 : decode cX7_logs 76 = .ok (.aload_n 0, 1) := by decide +kernel
theorem dX7_logs_77 : decode cX7_logs 77 = .ok (.getfield 7, 3) := by decide +kernel
theorem dX7_logs_80 : decode cX7_logs 80 = .ok (.iload 4, 2) := by decide +kernel
theorem dX7_logs_82 : decode cX7_logs 82 = .ok (.aload_n 0, 1) := by decide +kernel
theorem dX7_logs_83 : decode cX7_logs 83 = .ok (.getfield 7, 3) := by decide +kernel
theorem dX7_logs_86 : decode cX7_logs 86 = .ok (.bipush 103, 2) := by decide +kernel
theorem dX7_logs_88 : decode cX7_logs 88 = .ok (.iaload, 1) := by decide +kernel
theorem dX7_logs_89 : decode cX7_logs 89 = .ok (.iastore, 1) := by decide +kernel
theorem dX7_logs_90 : decode cX7_logs 90 = .ok (.aload_n 0, 1) := by decide +kernel
theorem dX7_logs_91 : decode cX7_logs 91 = .ok (.getfield 7, 3) := by decide +kernel
theorem dX7_logs_94 : decode cX7_logs 94 = .ok (.iload 4, 2) := by decide +kernel
theorem dX7_logs_96 : decode cX7_logs 96 = .ok (.iconst 1, 1) := by decide +kernel
theorem dX7_logs_97 : decode cX7_logs 97 = .ok (.iadd, 1) := by decide +kernel
theorem dX7_logs_98 : decode cX7_logs 98 = .ok (.iload_n 1, 1) := by decide +kernel
theorem dX7_logs_99 : decode cX7_logs 99 = .ok (.iastore, 1) := by decide +kernel
theorem dX7_logs_100 : decode cX7_logs 100 = .ok (.aload_n 0, 1) := by decide +kernel
