theorem dX7_logs_101 : decode cX7_logs 101 = .ok (.getfield 7, 3) := by decide +kernel
theorem dX7_logs_104 : decode cX7_logs 104 = .ok (.iload 4, 2) := by decide +kernel
theorem dX7_logs_106 : decode cX7_logs 106 = .ok (.iconst 2, 1) := by decide +kernel
theorem dX7_logs_107 : decode cX7_logs 107 = .ok (.iadd, 1) := by decide +kernel
theorem dX7_logs_108 : decode cX7_logs 108 = .ok (.iload_n 2, 1) := by decide +kernel
theorem dX7_logs_109 : decode cX7_logs 109 = .ok (.iastore, 1) := by decide +kernel
theorem dX7_logs_110 : decode cX7_logs 110 = .ok (.aload_n 0, 1) := by decide +kernel
theorem dX7_logs_111 : decode cX7_logs 111 = .ok (.getfield 7, 3) := by decide +kernel
theorem dX7_logs_114 : decode cX7_logs 114 = .ok (.iload 4, 2) := by decide +kernel
theorem dX7_logs_116 : decode cX7_logs 116 = .ok (.iconst 3, 1) := by decide +kernel
theorem dX7_logs_117 : decode cX7_logs 117 = .ok (.iadd, 1) := by decide +kernel
theorem dX7_logs_118 : decode cX7_logs 118 = .ok (.iload_n 3, 1) := by decide +kernel
theorem dX7_logs_119 : decode cX7_logs 119 = .ok (.iastore, 1) := by decide +kernel
theorem dX7_logs_120 : decode cX7_logs 120 = .ok (.aload_n 0, 1) := by decide +kernel
theorem dX7_logs_121 : decode cX7_logs 121 = .ok (.getfield 7, 3) := by decide +kernel
theorem dX7_logs_124 : decode cX7_logs 124 = .ok (.bipush 108, 2) := by decide +kernel
theorem dX7_logs_126 : decode cX7_logs 126 = .ok (.dup2, 1) := by decide +kernel
theorem dX7_logs_127 : decode cX7_logs 127 = .ok (.iaload, 1) := by decide +kernel
theorem dX7_logs_128 : decode cX7_logs 128 = .ok (.iconst 1, 1) := by decide +kernel
theorem dX7_logs_129 : decode cX7_logs 129 = .ok (.iadd, 1) := by decide +kernel
theorem dX7_logs_130 : decode cX7_logs 130 = .ok (.iastore, 1) := by decide +kernel
theorem dX7_logs_131 : decode cX7_logs 131 = .ok (.aload_n 0, 1) := by decide +kernel
theorem dX7_logs_132 : decode cX7_logs 132 = .ok (.getfield 7, 3) := by decide +kernel
theorem dX7_logs_135 : decode cX7_logs 135 = .ok (.bipush 109, 2) := by decide +kernel
theorem dX7_logs_137 : decode cX7_logs 137 = .ok (.dup2, 1) := by decide +kernel
theorem dX7_logs_138 : decode cX7_logs 138 = .ok (.iaload, 1) := by decide +kernel
theorem dX7_logs_139 : decode cX7_logs 139 = .ok (.iconst 1, 1) := by decide +kernel
theorem dX7_logs_140 : decode cX7_logs 140 = .ok (.iadd, 1) := by decide +kernel
theorem dX7_logs_141 : decode cX7_logs 141 = .ok (.iastore, 1) := by decide +kernel
theorem dX7_logs_142 : decode cX7_logs 142 = .ok (.return_, 1) := by decide +kernel
theorem dX7_inUse_0 : decode cX7_inUse 0 = .ok (.iconst 0, 1) := by decide +kernel
theorem dX7_inUse_1 : decode cX7_inUse 1 = .ok (.istore_n 1, 1) := by decide +kernel
theorem dX7_inUse_2 : decode cX7_inUse 2 = .ok (.iload_n 1, 1) := by decide +kernel
theorem dX7_inUse_3 : decode cX7_inUse 3 = .ok (.bipush 12, 2) := by decide +kernel
theorem dX7_inUse_5 : decode cX7_inUse 5 = .ok (.if_icmp .ge 31, 3) := by decide +kernel
theorem dX7_inUse_8 : decode cX7_inUse 8 = .ok (.aload_n 0, 1) := by decide +kernel
theorem dX7_inUse_9 : decode cX7_inUse 9 = .ok (.getfield 7, 3) := by decide +kernel
theorem dX7_inUse_12 : decode cX7_inUse 12 = .ok (.iconst 0, 1) := by decide +kernel
theorem dX7_inUse_13 : decode cX7_inUse 13 = .ok (.iload_n 1, 1) := by decide +kernel
theorem dX7_inUse_14 : decode cX7_inUse 14 = .ok (.iadd, 1) := by decide +kernel
theorem dX7_inUse_15 : decode cX7_inUse 15 = .ok (.iaload, 1) := by decide +kernel
theorem dX7_inUse_16 : decode cX7_inUse 16 = .ok (.iconst 1, 1) := by decide +kernel
theorem dX7_inUse_17 : decode cX7_inUse 17 = .ok (.if_icmp .le 13, 3) := by decide +kernel
theorem dX7_inUse_20 : decode cX7_inUse 20 = .ok (.aload_n 0, 1) := by decide +kernel
theorem dX7_inUse_21 : decode cX7_inUse 21 = .ok (.getfield 7, 3) := by decide +kernel
theorem dX7_inUse_24 : decode cX7_inUse 24 = .ok (.bipush 12, 2) := by decide +kernel
theorem dX7_inUse_26 : decode cX7_inUse 26 = .ok (.iload_n 1, 1) := by decide +kernel
theorem dX7_inUse_27 : decode cX7_inUse 27 = .ok (.iadd, 1) := by decide +kernel
theorem dX7_inUse_28 : decode cX7_inUse 28 = .ok (.iaload, 1) := by decide +kernel
theorem dX7_inUse_29 : decode cX7_inUse 29 = .ok (.ireturn, 1) := by decide +kernel
theorem dX7_inUse_30 : decode cX7_inUse 30 = .ok (.iinc 1 1, 3) := by decide +kernel
theorem dX7_inUse_33 : decode cX7_inUse 33 = .ok (.goto (-31), 3) := by decide +kernel
theorem dX7_inUse_36 : decode cX7_inUse 36 = .ok (.iconst (-1), 1) := by decide +kernel
theorem dX7_inUse_37 : decode cX7_inUse 37 = .ok (.ireturn, 1) := by decide +kernel
theorem dX7_insideOf_0 : decode cX7_insideOf 0 = .ok (.iconst 0, 1) := by decide +kernel
theorem dX7_insideOf_1 : decode cX7_insideOf 1 = .ok (.istore_n 2, 1) := by decide +kernel
theorem dX7_insideOf_2 : decode cX7_insideOf 2 = .ok (.iconst 0, 1) := by decide +kernel
theorem dX7_insideOf_3 : decode cX7_insideOf 3 = .ok (.istore_n 3, 1) := by decide +kernel
theorem dX7_insideOf_4 : decode cX7_insideOf 4 = .ok (.iload_n 3, 1) := by decide +kernel
theorem dX7_insideOf_5 : decode cX7_insideOf 5 = .ok (.bipush 12, 2) := by decide +kernel
theorem dX7_insideOf_7 : decode cX7_insideOf 7 = .ok (.if_icmp .ge 42, 3) := by decide +kernel
theorem dX7_insideOf_10 : decode cX7_insideOf 10 = .ok (.iload_n 2, 1) := by decide +kernel
theorem dX7_insideOf_11 : decode cX7_insideOf 11 = .ok (.aload_n 0, 1) := by decide +kernel
theorem dX7_insideOf_12 : decode cX7_insideOf 12 = .ok (.getfield 7, 3) := by decide +kernel
theorem dX7_insideOf_15 : decode cX7_insideOf 15 = .ok (.iconst 0, 1) := by decide +kernel
theorem dX7_insideOf_16 : decode cX7_insideOf 16 = .ok (.iload_n 3, 1) := by decide +kernel
theorem dX7_insideOf_17 : decode cX7_insideOf 17 = .ok (.iadd, 1) := by decide +kernel
theorem dX7_insideOf_18 : decode cX7_insideOf 18 = .ok (.iaload, 1) := by decide +kernel
theorem dX7_insideOf_19 : decode cX7_insideOf 19 = .ok (.iconst 1, 1) := by decide +kernel
theorem dX7_insideOf_20 : decode cX7_insideOf 20 = .ok (.if_icmp .le 20, 3) := by decide +kernel
theorem dX7_insideOf_23 : decode cX7_insideOf 23 = .ok (.aload_n 0, 1) := by decide +kernel
theorem dX7_insideOf_24 : decode cX7_insideOf 24 = .ok (.getfield 7, 3) := by decide +kernel
theorem dX7_insideOf_27 : decode cX7_insideOf 27 = .ok (.bipush 12, 2) := by decide +kernel
theorem dX7_insideOf_29 : decode cX7_insideOf 29 = .ok (.iload_n 3, 1) := by decide +kernel
theorem dX7_insideOf_30 : decode cX7_insideOf 30 = .ok (.iadd, 1) := by decide +kernel
theorem dX7_insideOf_31 : decode cX7_insideOf 31 = .ok (.iaload, 1) := by decide +kernel
theorem dX7_insideOf_32 : decode cX7_insideOf 32 = .ok (.iload_n 1, 1) := by decide +kernel
theorem dX7_insideOf_33 : decode cX7_insideOf 33 = .ok (.if_icmp .ne 7, 3) := by decide +kernel
theorem dX7_insideOf_36 : decode cX7_insideOf 36 = .ok (.iconst 1, 1) := by decide +kernel
theorem dX7_insideOf_37 : decode cX7_insideOf 37 = .ok (.goto 4, 3) := by decide +kernel
theorem dX7_insideOf_40 : decode cX7_insideOf 40 = .ok (.iconst 0, 1) := by decide +kernel
theorem dX7_insideOf_41 : decode cX7_insideOf 41 = .ok (.iadd, 1) := by decide +kernel
theorem dX7_insideOf_42 : decode cX7_insideOf 42 = .ok (.istore_n 2, 1) := by decide +kernel
theorem dX7_insideOf_43 : decode cX7_insideOf 43 = .ok (.iinc 3 1, 3) := by decide +kernel
theorem dX7_insideOf_46 : decode cX7_insideOf 46 = .ok (.goto (-42), 3) := by decide +kernel
theorem dX7_insideOf_49 : decode cX7_insideOf 49 = .ok (.iload_n 2, 1) := by decide +kernel
theorem dX7_insideOf_50 : decode cX7_insideOf 50 = .ok (.ireturn, 1) := by decide +kernel
theorem dX7_waitingFor_0 : decode cX7_waitingFor 0 = .ok (.iconst 0, 1) := by decide +kernel
theorem dX7_waitingFor_1 : decode cX7_waitingFor 1 = .ok (.istore_n 2, 1) := by decide +kernel
theorem dX7_waitingFor_2 : decode cX7_waitingFor 2 = .ok (.iconst 0, 1) := by decide +kernel
theorem dX7_waitingFor_3 : decode cX7_waitingFor 3 = .ok (.istore_n 3, 1) := by decide +kernel
theorem dX7_waitingFor_4 : decode cX7_waitingFor 4 = .ok (.iload_n 3, 1) := by decide +kernel
theorem dX7_waitingFor_5 : decode cX7_waitingFor 5 = .ok (.bipush 12, 2) := by decide +kernel
theorem dX7_waitingFor_7 : decode cX7_waitingFor 7 = .ok (.if_icmp .ge 42, 3) := by decide +kernel
theorem dX7_waitingFor_10 : decode cX7_waitingFor 10 = .ok (.iload_n 2, 1) := by decide +kernel
theorem dX7_waitingFor_11 : decode cX7_waitingFor 11 = .ok (.aload_n 0, 1) := by decide +kernel
theorem dX7_waitingFor_12 : decode cX7_waitingFor 12 = .ok (.getfield 7, 3) := by decide +kernel
theorem dX7_waitingFor_15 : decode cX7_waitingFor 15 = .ok (.iconst 0, 1) := by decide +kernel
theorem dX7_waitingFor_16 : decode cX7_waitingFor 16 = .ok (.iload_n 3, 1) := by decide +kernel
theorem dX7_waitingFor_17 : decode cX7_waitingFor 17 = .ok (.iadd, 1) := by decide +kernel
theorem dX7_waitingFor_18 : decode cX7_waitingFor 18 = .ok (.iaload, 1) := by decide +kernel
theorem dX7_waitingFor_19 : decode cX7_waitingFor 19 = .ok (.iconst 1, 1) := by decide +kernel
theorem dX7_waitingFor_20 : decode cX7_waitingFor 20 = .ok (.if_icmp .ne 20, 3) := by decide +kernel
theorem dX7_waitingFor_23 : decode cX7_waitingFor 23 = .ok (.aload_n 0, 1) := by decide +kernel
theorem dX7_waitingFor_24 : decode cX7_waitingFor 24 = .ok (.getfield 7, 3) := by decide +kernel
theorem dX7_waitingFor_27 : decode cX7_waitingFor 27 = .ok (.bipush 12, 2) := by decide +kernel
theorem dX7_waitingFor_29 : decode cX7_waitingFor 29 = .ok (.iload_n 3, 1) := by decide +kernel
theorem dX7_waitingFor_30 : decode cX7_waitingFor 30 = .ok (.iadd, 1) := by decide +kernel
theorem dX7_waitingFor_31 : decode cX7_waitingFor 31 = .ok (.iaload, 1) := by decide +kernel
theorem dX7_waitingFor_32 : decode cX7_waitingFor 32 = .ok (.iload_n 1, 1) := by decide +kernel
theorem dX7_waitingFor_33 : decode cX7_waitingFor 33 = .ok (.if_icmp .ne 7, 3) := by decide +kernel
theorem dX7_waitingFor_36 : decode cX7_waitingFor 36 = .ok (.iconst 1, 1) := by decide +kernel
theorem dX7_waitingFor_37 : decode cX7_waitingFor 37 = .ok (.goto 4, 3) := by decide +kernel
theorem dX7_waitingFor_40 : decode cX7_waitingFor 40 = .ok (.iconst 0, 1) := by decide +kernel
theorem dX7_waitingFor_41 : decode cX7_waitingFor 41 = .ok (.iadd, 1) := by decide +kernel
theorem dX7_waitingFor_42 : decode cX7_waitingFor 42 = .ok (.istore_n 2, 1) := by decide +kernel
theorem dX7_waitingFor_43 : decode cX7_waitingFor 43 = .ok (.iinc 3 1, 3) := by decide +kernel
theorem dX7_waitingFor_46 : decode cX7_waitingFor 46 = .ok (.goto (-42), 3) := by decide +kernel
theorem dX7_waitingFor_49 : decode cX7_waitingFor 49 = .ok (.iload_n 2, 1) := by decide +kernel
theorem dX7_waitingFor_50 : decode cX7_waitingFor 50 = .ok (.ireturn, 1) := by decide +kernel
theorem dX7_isImpatient_0 : decode cX7_isImpatient 0 = .ok (.aload_n 0, 1) := by decide +kernel
theorem dX7_isImpatient_1 : decode cX7_isImpatient 1 = .ok (.getfield 7, 3) := by decide +kernel
theorem dX7_isImpatient_4 : decode cX7_isImpatient 4 = .ok (.iconst 0, 1) := by decide +kernel
theorem dX7_isImpatient_5 : decode cX7_isImpatient 5 = .ok (.iload_n 1, 1) := by decide +kernel
theorem dX7_isImpatient_6 : decode cX7_isImpatient 6 = .ok (.iadd, 1) := by decide +kernel
theorem dX7_isImpatient_7 : decode cX7_isImpatient 7 = .ok (.iaload, 1) := by decide +kernel
theorem dX7_isImpatient_8 : decode cX7_isImpatient 8 = .ok (.iconst 1, 1) := by decide +kernel
theorem dX7_isImpatient_9 : decode cX7_isImpatient 9 = .ok (.if_icmp .ne 34, 3) := by decide +kernel
theorem dX7_isImpatient_12 : decode cX7_isImpatient 12 = .ok (.aload_n 0, 1) := by decide +kernel
theorem dX7_isImpatient_13 : decode cX7_isImpatient 13 = .ok (.getfield 7, 3) := by decide +kernel
theorem dX7_isImpatient_16 : decode cX7_isImpatient 16 = .ok (.bipush 103, 2) := by decide +kernel
theorem dX7_isImpatient_18 : decode cX7_isImpatient 18 = .ok (.iaload, 1) := by decide +kernel
theorem dX7_isImpatient_19 : decode cX7_isImpatient 19 = .ok (.aload_n 0, 1) := by decide +kernel
theorem dX7_isImpatient_20 : decode cX7_isImpatient 20 = .ok (.getfield 7, 3) := by decide +kernel
theorem dX7_isImpatient_23 : decode cX7_isImpatient 23 = .ok (.bipush 24, 2) := by decide +kernel
theorem dX7_isImpatient_25 : decode cX7_isImpatient 25 = .ok (.iload_n 1, 1) := by decide +kernel
theorem dX7_isImpatient_26 : decode cX7_isImpatient 26 = .ok (.iadd, 1) := by decide +kernel
theorem dX7_isImpatient_27 : decode cX7_isImpatient 27 = .ok (.iaload, 1) := by decide +kernel
theorem dX7_isImpatient_28 : decode cX7_isImpatient 28 = .ok (.isub, 1) := by decide +kernel
theorem dX7_isImpatient_29 : decode cX7_isImpatient 29 = .ok (.aload_n 0, 1) := by decide +kernel
theorem dX7_isImpatient_30 : decode cX7_isImpatient 30 = .ok (.getfield 7, 3) := by decide +kernel
theorem dX7_isImpatient_33 : decode cX7_isImpatient 33 = .ok (.bipush 100, 2) := by decide +kernel
theorem dX7_isImpatient_35 : decode cX7_isImpatient 35 = .ok (.iaload, 1) := by decide +kernel
theorem dX7_isImpatient_36 : decode cX7_isImpatient 36 = .ok (.if_icmp .lt 7, 3) := by decide +kernel
theorem dX7_isImpatient_39 : decode cX7_isImpatient 39 = .ok (.iconst 1, 1) := by decide +kernel
theorem dX7_isImpatient_40 : decode cX7_isImpatient 40 = .ok (.goto 4, 3) := by decide +kernel
theorem dX7_isImpatient_43 : decode cX7_isImpatient 43 = .ok (.iconst 0, 1) := by decide +kernel
theorem dX7_isImpatient_44 : decode cX7_isImpatient 44 = .ok (.ireturn, 1) := by decide +kernel
theorem dX7_before_0 : decode cX7_before 0 = .ok (.iconst 0, 1) := by decide +kernel
theorem dX7_before_1 : decode cX7_before 1 = .ok (.istore_n 2, 1) := by decide +kernel
theorem dX7_before_2 : decode cX7_before 2 = .ok (.iconst 0, 1) := by decide +kernel
theorem dX7_before_3 : decode cX7_before 3 = .ok (.istore_n 3, 1) := by decide +kernel
theorem dX7_before_4 : decode cX7_before 4 = .ok (.iload_n 3, 1) := by decide +kernel
theorem dX7_before_5 : decode cX7_before 5 = .ok (.bipush 12, 2) := by decide +kernel
theorem dX7_before_7 : decode cX7_before 7 = .ok (.if_icmp .ge 71, 3) := by decide +kernel
theorem dX7_before_10 : decode cX7_before 10 = .ok (.iload_n 2, 1) := by decide +kernel
theorem dX7_before_11 : decode cX7_before 11 = .ok (.aload_n 0, 1) := by decide +kernel
theorem dX7_before_12 : decode cX7_before 12 = .ok (.getfield 7, 3) := by decide +kernel
theorem dX7_before_15 : decode cX7_before 15 = .ok (.iconst 0, 1) := by decide +kernel
theorem dX7_before_16 : decode cX7_before 16 = .ok (.iload_n 3, 1) := by decide +kernel
theorem dX7_before_17 : decode cX7_before 17 = .ok (.iadd, 1) := by decide +kernel
theorem dX7_before_18 : decode cX7_before 18 = .ok (.iaload, 1) := by decide +kernel
theorem dX7_before_19 : decode cX7_before 19 = .ok (.iconst 1, 1) := by decide +kernel
theorem dX7_before_20 : decode cX7_before 20 = .ok (.if_icmp .ne 49, 3) := by decide +kernel
theorem dX7_before_23 : decode cX7_before 23 = .ok (.aload_n 0, 1) := by decide +kernel
theorem dX7_before_24 : decode cX7_before 24 = .ok (.getfield 7, 3) := by decide +kernel
theorem dX7_before_27 : decode cX7_before 27 = .ok (.bipush 12, 2) := by decide +kernel
theorem dX7_before_29 : decode cX7_before 29 = .ok (.iload_n 3, 1) := by decide +kernel
theorem dX7_before_30 : decode cX7_before 30 = .ok (.iadd, 1) := by decide +kernel
theorem dX7_before_31 : decode cX7_before 31 = .ok (.iaload, 1) := by decide +kernel
theorem dX7_before_32 : decode cX7_before 32 = .ok (.aload_n 0, 1) := by decide +kernel
theorem dX7_before_33 : decode cX7_before 33 = .ok (.getfield 7, 3) := by decide +kernel
theorem dX7_before_36 : decode cX7_before 36 = .ok (.bipush 12, 2) := by decide +kernel
theorem dX7_before_38 : decode cX7_before 38 = .ok (.iload_n 1, 1) := by decide +kernel
theorem dX7_before_39 : decode cX7_before 39 = .ok (.iadd, 1) := by decide +kernel
theorem dX7_before_40 : decode cX7_before 40 = .ok (.iaload, 1) := by decide +kernel
theorem dX7_before_41 : decode cX7_before 41 = .ok (.if_icmp .ne 28, 3) := by decide +kernel
theorem dX7_before_44 : decode cX7_before 44 = .ok (.aload_n 0, 1) := by decide +kernel
theorem dX7_before_45 : decode cX7_before 45 = .ok (.getfield 7, 3) := by decide +kernel
theorem dX7_before_48 : decode cX7_before 48 = .ok (.bipush 48, 2) := by decide +kernel
theorem dX7_before_50 : decode cX7_before 50 = .ok (.iload_n 3, 1) := by decide +kernel
theorem dX7_before_51 : decode cX7_before 51 = .ok (.iadd, 1) := by decide +kernel
theorem dX7_before_52 : decode cX7_before 52 = .ok (.iaload, 1) := by decide +kernel
theorem dX7_before_53 : decode cX7_before 53 = .ok (.aload_n 0, 1) := by decide +kernel
theorem dX7_before_54 : decode cX7_before 54 = .ok (.getfield 7, 3) := by decide +kernel
theorem dX7_before_57 : decode cX7_before 57 = .ok (.bipush 48, 2) := by decide +kernel
theorem dX7_before_59 : decode cX7_before 59 = .ok (.iload_n 1, 1) := by decide +kernel
theorem dX7_before_60 : decode cX7_before 60 = .ok (.iadd, 1) := by decide +kernel
theorem dX7_before_61 : decode cX7_before 61 = .ok (.iaload, 1) := by decide +kernel
theorem dX7_before_62 : decode cX7_before 62 = .ok (.if_icmp .ge 7, 3) := by decide +kernel
theorem dX7_before_65 : decode cX7_before 65 = .ok (.iconst 1, 1) := by decide +kernel
theorem dX7_before_66 : decode cX7_before 66 = .ok (.goto 4, 3) := by decide +kernel
theorem dX7_before_69 : decode cX7_before 69 = .ok (.iconst 0, 1) := by decide +kernel
theorem dX7_before_70 : decode cX7_before 70 = .ok (.iadd, 1) := by decide +kernel
theorem dX7_before_71 : decode cX7_before 71 = .ok (.istore_n 2, 1) := by decide +kernel
theorem dX7_before_72 : decode cX7_before 72 = .ok (.iinc 3 1, 3) := by decide +kernel
theorem dX7_before_75 : decode cX7_before 75 = .ok (.goto (-71), 3) := by decide +kernel
theorem dX7_before_78 : decode cX7_before 78 = .ok (.iload_n 2, 1) := by decide +kernel
theorem dX7_before_79 : decode cX7_before 79 = .ok (.ireturn, 1) := by decide +kernel
theorem dX7_inQueue_0 : decode cX7_inQueue 0 = .ok (.iconst 0, 1) := by decide +kernel
theorem dX7_inQueue_1 : decode cX7_inQueue 1 = .ok (.istore_n 3, 1) := by decide +kernel
theorem dX7_inQueue_2 : decode cX7_inQueue 2 = .ok (.iload_n 3, 1) := by decide +kernel
theorem dX7_inQueue_3 : decode cX7_inQueue 3 = .ok (.bipush 12, 2) := by decide +kernel
theorem dX7_inQueue_5 : decode cX7_inQueue 5 = .ok (.if_icmp .ge 45, 3) := by decide +kernel
theorem dX7_inQueue_8 : decode cX7_inQueue 8 = .ok (.aload_n 0, 1) := by decide +kernel
theorem dX7_inQueue_9 : decode cX7_inQueue 9 = .ok (.getfield 7, 3) := by decide +kernel
theorem dX7_inQueue_12 : decode cX7_inQueue 12 = .ok (.iconst 0, 1) := by decide +kernel
theorem dX7_inQueue_13 : decode cX7_inQueue 13 = .ok (.iload_n 3, 1) := by decide +kernel
theorem dX7_inQueue_14 : decode cX7_inQueue 14 = .ok (.iadd, 1) := by decide +kernel
theorem dX7_inQueue_15 : decode cX7_inQueue 15 = .ok (.iaload, 1) := by decide +kernel
theorem dX7_inQueue_16 : decode cX7_inQueue 16 = .ok (.iconst 1, 1) := by decide +kernel
theorem dX7_inQueue_17 : decode cX7_inQueue 17 = .ok (.if_icmp .ne 27, 3) := by decide +kernel
theorem dX7_inQueue_20 : decode cX7_inQueue 20 = .ok (.aload_n 0, 1) := by decide +kernel
theorem dX7_inQueue_21 : decode cX7_inQueue 21 = .ok (.getfield 7, 3) := by decide +kernel
theorem dX7_inQueue_24 : decode cX7_inQueue 24 = .ok (.bipush 12, 2) := by decide +kernel
theorem dX7_inQueue_26 : decode cX7_inQueue 26 = .ok (.iload_n 3, 1) := by decide +kernel
theorem dX7_inQueue_27 : decode cX7_inQueue 27 = .ok (.iadd, 1) := by decide +kernel
theorem dX7_inQueue_28 : decode cX7_inQueue 28 = .ok (.iaload, 1) := by decide +kernel
theorem dX7_inQueue_29 : decode cX7_inQueue 29 = .ok (.iload_n 1, 1) := by decide +kernel
theorem dX7_inQueue_30 : decode cX7_inQueue 30 = .ok (.if_icmp .ne 14, 3) := by decide +kernel
theorem dX7_inQueue_33 : decode cX7_inQueue 33 = .ok (.aload_n 0, 1) := by decide +kernel
theorem dX7_inQueue_34 : decode cX7_inQueue 34 = .ok (.iload_n 3, 1) := by decide +kernel
theorem dX7_inQueue_35 : decode cX7_inQueue 35 = .ok (.invokevirtual 43, 3) := by decide +kernel
theorem dX7_inQueue_38 : decode cX7_inQueue 38 = .ok (.iload_n 2, 1) := by decide +kernel
theorem dX7_inQueue_39 : decode cX7_inQueue 39 = .ok (.if_icmp .ne 5, 3) := by decide +kernel
theorem dX7_inQueue_42 : decode cX7_inQueue 42 = .ok (.iload_n 3, 1) := by decide +kernel
theorem dX7_inQueue_43 : decode cX7_inQueue 43 = .ok (.ireturn, 1) := by decide +kernel
theorem dX7_inQueue_44 : decode cX7_inQueue 44 = .ok (.iinc 3 1, 3) := by decide +kernel
theorem dX7_inQueue_47 : decode cX7_inQueue 47 = .ok (.goto (-45), 3) := by decide +kernel
theorem dX7_inQueue_50 : decode cX7_inQueue 50 = .ok (.iconst (-1), 1) := by decide +kernel
theorem dX7_inQueue_51 : decode cX7_inQueue 51 = .ok (.ireturn, 1) := by decide +kernel
theorem dX7_nextRoom_0 : decode cX7_nextRoom 0 = .ok (.iconst (-1), 1) := by decide +kernel
theorem dX7_nextRoom_1 : decode cX7_nextRoom 1 = .ok (.istore_n 1, 1) := by decide +kernel
theorem dX7_nextRoom_2 : decode cX7_nextRoom 2 = .ok (.iconst 0, 1) := by decide +kernel
theorem dX7_nextRoom_3 : decode cX7_nextRoom 3 = .ok (.istore_n 2, 1) := by decide +kernel
theorem dX7_nextRoom_4 : decode cX7_nextRoom 4 = .ok (.iload_n 2, 1) := by decide +kernel
theorem dX7_nextRoom_5 : decode cX7_nextRoom 5 = .ok (.bipush 12, 2) := by decide +kernel
theorem dX7_nextRoom_7 : decode cX7_nextRoom 7 = .ok (.if_icmp .ge 49, 3) := by decide +kernel
theorem dX7_nextRoom_10 : decode cX7_nextRoom 10 = .ok (.aload_n 0, 1) := by decide +kernel
theorem dX7_nextRoom_11 : decode cX7_nextRoom 11 = .ok (.iload_n 2, 1) := by decide +kernel
theorem dX7_nextRoom_12 : decode cX7_nextRoom 12 = .ok (.invokevirtual 47, 3) := by decide +kernel
theorem dX7_nextRoom_15 : decode cX7_nextRoom 15 = .ok (.ifCond .eq 33, 3) := by decide +kernel
theorem dX7_nextRoom_18 : decode cX7_nextRoom 18 = .ok (.iload_n 1, 1) := by decide +kernel
theorem dX7_nextRoom_19 : decode cX7_nextRoom 19 = .ok (.iconst (-1), 1) := by decide +kernel
theorem dX7_nextRoom_20 : decode cX7_nextRoom 20 = .ok (.if_icmp .eq 24, 3) := by decide +kernel
theorem dX7_nextRoom_23 : decode cX7_nextRoom 23 = .ok (.aload_n 0, 1) := by decide +kernel
theorem dX7_nextRoom_24 : decode cX7_nextRoom 24 = .ok (.getfield 7, 3) := by decide +kernel
theorem dX7_nextRoom_27 : decode cX7_nextRoom 27 = .ok (.bipush 48, 2) := by decide +kernel
theorem dX7_nextRoom_29 : decode cX7_nextRoom 29 = .ok (.iload_n 2, 1) := by decide +kernel
theorem dX7_nextRoom_30 : decode cX7_nextRoom 30 = .ok (.iadd, 1) := by decide +kernel
theorem dX7_nextRoom_31 : decode cX7_nextRoom 31 = .ok (.iaload, 1) := by decide +kernel
theorem dX7_nextRoom_32 : decode cX7_nextRoom 32 = .ok (.aload_n 0, 1) := by decide +kernel
theorem dX7_nextRoom_33 : decode cX7_nextRoom 33 = .ok (.getfield 7, 3) := by decide +kernel
theorem dX7_nextRoom_36 : decode cX7_nextRoom 36 = .ok (.bipush 48, 2) := by decide +kernel
theorem dX7_nextRoom_38 : decode cX7_nextRoom 38 = .ok (.iload_n 1, 1) := by decide +kernel
theorem dX7_nextRoom_39 : decode cX7_nextRoom 39 = .ok (.iadd, 1) := by decide +kernel
theorem dX7_nextRoom_40 : decode cX7_nextRoom 40 = .ok (.iaload, 1) := by decide +kernel
theorem dX7_nextRoom_41 : decode cX7_nextRoom 41 = .ok (.if_icmp .ge 7, 3) := by decide +kernel
theorem dX7_nextRoom_44 : decode cX7_nextRoom 44 = .ok (.iload_n 2, 1) := by decide +kernel
theorem dX7_nextRoom_45 : decode cX7_nextRoom 45 = .ok (.goto 4, 3) := by decide +kernel
theorem dX7_nextRoom_48 : decode cX7_nextRoom 48 = .ok (.iload_n 1, 1) := by decide +kernel
theorem dX7_nextRoom_49 : decode cX7_nextRoom 49 = .ok (.istore_n 1, 1) := by decide +kernel
theorem dX7_nextRoom_50 : decode cX7_nextRoom 50 = .ok (.iinc 2 1, 3) := by decide +kernel
theorem dX7_nextRoom_53 : decode cX7_nextRoom 53 = .ok (.goto (-49), 3) := by decide +kernel
theorem dX7_nextRoom_56 : decode cX7_nextRoom 56 = .ok (.iload_n 1, 1) := by decide +kernel
theorem dX7_nextRoom_57 : decode cX7_nextRoom 57 = .ok (.iconst (-1), 1) := by decide +kernel
theorem dX7_nextRoom_58 : decode cX7_nextRoom 58 = .ok (.if_icmp .eq 13, 3) := by decide +kernel
theorem dX7_nextRoom_61 : decode cX7_nextRoom 61 = .ok (.aload_n 0, 1) := by decide +kernel
theorem dX7_nextRoom_62 : decode cX7_nextRoom 62 = .ok (.getfield 7, 3) := by decide +kernel
theorem dX7_nextRoom_65 : decode cX7_nextRoom 65 = .ok (.bipush 12, 2) := by decide +kernel
theorem dX7_nextRoom_67 : decode cX7_nextRoom 67 = .ok (.iload_n 1, 1) := by decide +kernel
theorem dX7_nextRoom_68 : decode cX7_nextRoom 68 = .ok (.iadd, 1) := by decide +kernel
theorem dX7_nextRoom_69 : decode cX7_nextRoom 69 = .ok (.iaload, 1) := by decide +kernel
theorem dX7_nextRoom_70 : decode cX7_nextRoom 70 = .ok (.ireturn, 1) := by decide +kernel
theorem dX7_nextRoom_71 : decode cX7_nextRoom 71 = .ok (.iconst (-1), 1) := by decide +kernel
theorem dX7_nextRoom_72 : decode cX7_nextRoom 72 = .ok (.istore_n 2, 1) := by decide +kernel
theorem dX7_nextRoom_73 : decode cX7_nextRoom 73 = .ok (.iconst 0, 1) := by decide +kernel
theorem dX7_nextRoom_74 : decode cX7_nextRoom 74 = .ok (.istore_n 3, 1) := by decide +kernel
theorem dX7_nextRoom_75 : decode cX7_nextRoom 75 = .ok (.iload_n 3, 1) := by decide +kernel
theorem dX7_nextRoom_76 : decode cX7_nextRoom 76 = .ok (.iconst 5, 1) := by decide +kernel
theorem dX7_nextRoom_77 : decode cX7_nextRoom 77 = .ok (.if_icmp .ge 49, 3) := by decide +kernel
theorem dX7_nextRoom_80 : decode cX7_nextRoom 80 = .ok (.aload_n 0, 1) := by decide +kernel
theorem dX7_nextRoom_81 : decode cX7_nextRoom 81 = .ok (.iload_n 3, 1) := by decide +kernel
theorem dX7_nextRoom_82 : decode cX7_nextRoom 82 = .ok (.invokevirtual 51, 3) := by decide +kernel
theorem dX7_nextRoom_85 : decode cX7_nextRoom 85 = .ok (.ifCond .le 33, 3) := by decide +kernel
theorem dX7_nextRoom_88 : decode cX7_nextRoom 88 = .ok (.iload_n 2, 1) := by decide +kernel
theorem dX7_nextRoom_89 : decode cX7_nextRoom 89 = .ok (.iconst (-1), 1) := by decide +kernel
theorem dX7_nextRoom_90 : decode cX7_nextRoom 90 = .ok (.if_icmp .eq 24, 3) := by decide +kernel
theorem dX7_nextRoom_93 : decode cX7_nextRoom 93 = .ok (.aload_n 0, 1) := by decide +kernel
theorem dX7_nextRoom_94 : decode cX7_nextRoom 94 = .ok (.getfield 7, 3) := by decide +kernel
theorem dX7_nextRoom_97 : decode cX7_nextRoom 97 = .ok (.bipush 70, 2) := by decide +kernel
theorem dX7_nextRoom_99 : decode cX7_nextRoom 99 = .ok (.iload_n 3, 1) := by decide +kernel
theorem dX7_nextRoom_100 : decode cX7_nextRoom 100 = .ok (.iadd, 1) := by decide +kernel
theorem dX7_nextRoom_101 : decode cX7_nextRoom 101 = .ok (.iaload, 1) := by decide +kernel
theorem dX7_nextRoom_102 : decode cX7_nextRoom 102 = .ok (.aload_n 0, 1) := by decide +kernel
theorem dX7_nextRoom_103 : decode cX7_nextRoom 103 = .ok (.getfield 7, 3) := by decide +kernel
theorem dX7_nextRoom_106 : decode cX7_nextRoom 106 = .ok (.bipush 70, 2) := by decide +kernel
theorem dX7_nextRoom_108 : decode cX7_nextRoom 108 = .ok (.iload_n 2, 1) := by decide +kernel
theorem dX7_nextRoom_109 : decode cX7_nextRoom 109 = .ok (.iadd, 1) := by decide +kernel
theorem dX7_nextRoom_110 : decode cX7_nextRoom 110 = .ok (.iaload, 1) := by decide +kernel
theorem dX7_nextRoom_111 : decode cX7_nextRoom 111 = .ok (.if_icmp .ge 7, 3) := by decide +kernel
theorem dX7_nextRoom_114 : decode cX7_nextRoom 114 = .ok (.iload_n 3, 1) := by decide +kernel
theorem dX7_nextRoom_115 : decode cX7_nextRoom 115 = .ok (.goto 4, 3) := by decide +kernel
theorem dX7_nextRoom_118 : decode cX7_nextRoom 118 = .ok (.iload_n 2, 1) := by decide +kernel
theorem dX7_nextRoom_119 : decode cX7_nextRoom 119 = .ok (.istore_n 2, 1) := by decide +kernel
theorem dX7_nextRoom_120 : decode cX7_nextRoom 120 = .ok (.iinc 3 1, 3) := by decide +kernel
theorem dX7_nextRoom_123 : decode cX7_nextRoom 123 = .ok (.goto (-48), 3) := by decide +kernel
theorem dX7_nextRoom_126 : decode cX7_nextRoom 126 = .ok (.iload_n 2, 1) := by decide +kernel
theorem dX7_nextRoom_127 : decode cX7_nextRoom 127 = .ok (.ireturn, 1) := by decide +kernel
theorem dX7_enters_0 : decode cX7_enters 0 = .ok (.aload_n 0, 1) := by decide +kernel
theorem dX7_enters_1 : decode cX7_enters 1 = .ok (.iload_n 1, 1) := by decide +kernel
theorem dX7_enters_2 : decode cX7_enters 2 = .ok (.iconst 0, 1) := by decide +kernel
theorem dX7_enters_3 : decode cX7_enters 3 = .ok (.invokevirtual 54, 3) := by decide +kernel
theorem dX7_enters_6 : decode cX7_enters 6 = .ok (.istore_n 2, 1) := by decide +kernel
theorem dX7_enters_7 : decode cX7_enters 7 = .ok (.aload_n 0, 1) := by decide +kernel
theorem dX7_enters_8 : decode cX7_enters 8 = .ok (.getfield 7, 3) := by decide +kernel
theorem dX7_enters_11 : decode cX7_enters 11 = .ok (.bipush 103, 2) := by decide +kernel
theorem dX7_enters_13 : decode cX7_enters 13 = .ok (.iaload, 1) := by decide +kernel
theorem dX7_enters_14 : decode cX7_enters 14 = .ok (.aload_n 0, 1) := by decide +kernel
theorem dX7_enters_15 : decode cX7_enters 15 = .ok (.getfield 7, 3) := by decide +kernel
theorem dX7_enters_18 : decode cX7_enters 18 = .ok (.bipush 24, 2) := by decide +kernel
theorem dX7_enters_20 : decode cX7_enters 20 = .ok (.iload_n 2, 1) := by decide +kernel
theorem dX7_enters_21 : decode cX7_enters 21 = .ok (.iadd, 1) := by decide +kernel
theorem dX7_enters_22 : decode cX7_enters 22 = .ok (.iaload, 1) := by decide +kernel
theorem dX7_enters_23 : decode cX7_enters 23 = .ok (.isub, 1) := by decide +kernel
theorem dX7_enters_24 : decode cX7_enters 24 = .ok (.istore_n 3, 1) := by decide +kernel
theorem dX7_enters_25 : decode cX7_enters 25 = .ok (.aload_n 0, 1) := by decide +kernel
theorem dX7_enters_26 : decode cX7_enters 26 = .ok (.getfield 7, 3) := by decide +kernel
theorem dX7_enters_29 : decode cX7_enters 29 = .ok (.iconst 0, 1) := by decide +kernel
theorem dX7_enters_30 : decode cX7_enters 30 = .ok (.iload_n 2, 1) := by decide +kernel
theorem dX7_enters_31 : decode cX7_enters 31 = .ok (.iadd, 1) := by decide +kernel
theorem dX7_enters_32 : decode cX7_enters 32 = .ok (.iconst 2, 1) := by decide +kernel
theorem dX7_enters_33 : decode cX7_enters 33 = .ok (.iastore, 1) := by decide +kernel
theorem dX7_enters_34 : decode cX7_enters 34 = .ok (.aload_n 0, 1) := by decide +kernel
theorem dX7_enters_35 : decode cX7_enters 35 = .ok (.getfield 7, 3) := by decide +kernel
theorem dX7_enters_38 : decode cX7_enters 38 = .ok (.bipush 24, 2) := by decide +kernel
theorem dX7_enters_40 : decode cX7_enters 40 = .ok (.iload_n 2, 1) := by decide +kernel
theorem dX7_enters_41 : decode cX7_enters 41 = .ok (.iadd, 1) := by decide +kernel
theorem dX7_enters_42 : decode cX7_enters 42 = .ok (.aload_n 0, 1) := by decide +kernel
theorem dX7_enters_43 : decode cX7_enters 43 = .ok (.getfield 7, 3) := by decide +kernel
theorem dX7_enters_46 : decode cX7_enters 46 = .ok (.bipush 103, 2) := by decide +kernel
theorem dX7_enters_48 : decode cX7_enters 48 = .ok (.iaload, 1) := by decide +kernel
theorem dX7_enters_49 : decode cX7_enters 49 = .ok (.iastore, 1) := by decide +kernel
theorem dX7_enters_50 : decode cX7_enters 50 = .ok (.aload_n 0, 1) := by decide +kernel
theorem dX7_enters_51 : decode cX7_enters 51 = .ok (.getfield 7, 3) := by decide +kernel
theorem dX7_enters_54 : decode cX7_enters 54 = .ok (.bipush 105, 2) := by decide +kernel
theorem dX7_enters_56 : decode cX7_enters 56 = .ok (.dup2, 1) := by decide +kernel
theorem dX7_enters_57 : decode cX7_enters 57 = .ok (.iaload, 1) := by decide +kernel
theorem dX7_enters_58 : decode cX7_enters 58 = .ok (.iconst 1, 1) := by decide +kernel
theorem dX7_enters_59 : decode cX7_enters 59 = .ok (.iadd, 1) := by decide +kernel
theorem dX7_enters_60 : decode cX7_enters 60 = .ok (.iastore, 1) := by decide +kernel
theorem dX7_enters_61 : decode cX7_enters 61 = .ok (.aload_n 0, 1) := by decide +kernel
theorem dX7_enters_62 : decode cX7_enters 62 = .ok (.getfield 7, 3) := by decide +kernel
theorem dX7_enters_65 : decode cX7_enters 65 = .ok (.bipush 80, 2) := by decide +kernel
theorem dX7_enters_67 : decode cX7_enters 67 = .ok (.iload_n 1, 1) := by decide +kernel
theorem dX7_enters_68 : decode cX7_enters 68 = .ok (.iadd, 1) := by decide +kernel
theorem dX7_enters_69 : decode cX7_enters 69 = .ok (.dup2, 1) := by decide +kernel
theorem dX7_enters_70 : decode cX7_enters 70 = .ok (.iaload, 1) := by decide +kernel
theorem dX7_enters_71 : decode cX7_enters 71 = .ok (.iconst 1, 1) := by decide +kernel
theorem dX7_enters_72 : decode cX7_enters 72 = .ok (.iadd, 1) := by decide +kernel
theorem dX7_enters_73 : decode cX7_enters 73 = .ok (.iastore, 1) := by decide +kernel
theorem dX7_enters_74 : decode cX7_enters 74 = .ok (.aload_n 0, 1) := by decide +kernel
theorem dX7_enters_75 : decode cX7_enters 75 = .ok (.getfield 7, 3) := by decide +kernel
theorem dX7_enters_78 : decode cX7_enters 78 = .ok (.bipush 90, 2) := by decide +kernel
theorem dX7_enters_80 : decode cX7_enters 80 = .ok (.iload_n 1, 1) := by decide +kernel
theorem dX7_enters_81 : decode cX7_enters 81 = .ok (.iadd, 1) := by decide +kernel
theorem dX7_enters_82 : decode cX7_enters 82 = .ok (.dup2, 1) := by decide +kernel
theorem dX7_enters_83 : decode cX7_enters 83 = .ok (.iaload, 1) := by decide +kernel
theorem dX7_enters_84 : decode cX7_enters 84 = .ok (.iload_n 3, 1) := by decide +kernel
theorem dX7_enters_85 : decode cX7_enters 85 = .ok (.iadd, 1) := by decide +kernel
theorem dX7_enters_86 : decode cX7_enters 86 = .ok (.iastore, 1) := by decide +kernel
theorem dX7_enters_87 : decode cX7_enters 87 = .ok (.aload_n 0, 1) := by decide +kernel
theorem dX7_enters_88 : decode cX7_enters 88 = .ok (.getfield 7, 3) := by decide +kernel
theorem dX7_enters_91 : decode cX7_enters 91 = .ok (.bipush 95, 2) := by decide +kernel
theorem dX7_enters_93 : decode cX7_enters 93 = .ok (.iload_n 1, 1) := by decide +kernel
theorem dX7_enters_94 : decode cX7_enters 94 = .ok (.iadd, 1) := by decide +kernel
theorem dX7_enters_95 : decode cX7_enters 95 = .ok (.iload_n 3, 1) := by decide +kernel
theorem dX7_enters_96 : decode cX7_enters 96 = .ok (.aload_n 0, 1) := by decide +kernel
theorem dX7_enters_97 : decode cX7_enters 97 = .ok (.getfield 7, 3) := by decide +kernel
theorem dX7_enters_100 : decode cX7_enters 100 = .ok (.bipush 95, 2) := by decide +kernel
theorem dX7_enters_102 : decode cX7_enters 102 = .ok (.iload_n 1, 1) := by decide +kernel
theorem dX7_enters_103 : decode cX7_enters 103 = .ok (.iadd, 1) := by decide +kernel
theorem dX7_enters_104 : decode cX7_enters 104 = .ok (.iaload, 1) := by decide +kernel
theorem dX7_enters_105 : decode cX7_enters 105 = .ok (.if_icmp .le 7, 3) := by decide +kernel
theorem dX7_enters_108 : decode cX7_enters 108 = .ok (.iload_n 3, 1) := by decide +kernel
theorem dX7_enters_109 : decode cX7_enters 109 = .ok (.goto 12, 3) := by decide +kernel
theorem dX7_enters_112 : decode cX7_enters 112 = .ok (.aload_n 0, 1) := by decide +kernel
theorem dX7_enters_113 : decode cX7_enters 113 = .ok (.getfield 7, 3) := by decide +kernel
theorem dX7_enters_116 : decode cX7_enters 116 = .ok (.bipush 95, 2) := by decide +kernel
theorem dX7_enters_118 : decode cX7_enters 118 = .ok (.iload_n 1, 1) := by decide +kernel
theorem dX7_enters_119 : decode cX7_enters 119 = .ok (.iadd, 1) := by decide +kernel
theorem dX7_enters_120 : decode cX7_enters 120 = .ok (.iaload, 1) := by decide +kernel
theorem dX7_enters_121 : decode cX7_enters 121 = .ok (.iastore, 1) := by decide +kernel
theorem dX7_enters_122 : decode cX7_enters 122 = .ok (.aload_n 0, 1) := by decide +kernel
theorem dX7_enters_123 : decode cX7_enters 123 = .ok (.iconst 1, 1) := by decide +kernel
theorem dX7_enters_124 : decode cX7_enters 124 = .ok (.iload_n 2, 1) := by decide +kernel
theorem dX7_enters_125 : decode cX7_enters 125 = .ok (.iload_n 1, 1) := by decide +kernel
theorem dX7_enters_126 : decode cX7_enters 126 = .ok (.invokevirtual 58, 3) := by decide +kernel
theorem dX7_enters_129 : decode cX7_enters 129 = .ok (.return_, 1) := by decide +kernel
theorem dX7_opens_0 : decode cX7_opens 0 = .ok (.aload_n 0, 1) := by decide +kernel
theorem dX7_opens_1 : decode cX7_opens 1 = .ok (.getfield 7, 3) := by decide +kernel
theorem dX7_opens_4 : decode cX7_opens 4 = .ok (.bipush 106, 2) := by decide +kernel
theorem dX7_opens_6 : decode cX7_opens 6 = .ok (.aload_n 0, 1) := by decide +kernel
theorem dX7_opens_7 : decode cX7_opens 7 = .ok (.getfield 7, 3) := by decide +kernel
theorem dX7_opens_10 : decode cX7_opens 10 = .ok (.bipush 70, 2) := by decide +kernel
theorem dX7_opens_12 : decode cX7_opens 12 = .ok (.iload_n 1, 1) := by decide +kernel
theorem dX7_opens_13 : decode cX7_opens 13 = .ok (.iadd, 1) := by decide +kernel
theorem dX7_opens_14 : decode cX7_opens 14 = .ok (.iaload, 1) := by decide +kernel
theorem dX7_opens_15 : decode cX7_opens 15 = .ok (.iastore, 1) := by decide +kernel
theorem dX7_opens_16 : decode cX7_opens 16 = .ok (.aload_n 0, 1) := by decide +kernel
theorem dX7_opens_17 : decode cX7_opens 17 = .ok (.getfield 7, 3) := by decide +kernel
theorem dX7_opens_20 : decode cX7_opens 20 = .ok (.bipush 70, 2) := by decide +kernel
theorem dX7_opens_22 : decode cX7_opens 22 = .ok (.iload_n 1, 1) := by decide +kernel
theorem dX7_opens_23 : decode cX7_opens 23 = .ok (.iadd, 1) := by decide +kernel
theorem dX7_opens_24 : decode cX7_opens 24 = .ok (.dup2, 1) := by decide +kernel
theorem dX7_opens_25 : decode cX7_opens 25 = .ok (.iaload, 1) := by decide +kernel
theorem dX7_opens_26 : decode cX7_opens 26 = .ok (.sipush 2520, 3) := by decide +kernel
theorem dX7_opens_29 : decode cX7_opens 29 = .ok (.aload_n 0, 1) := by decide +kernel
theorem dX7_opens_30 : decode cX7_opens 30 = .ok (.getfield 7, 3) := by decide +kernel
theorem dX7_opens_33 : decode cX7_opens 33 = .ok (.bipush 65, 2) := by decide +kernel
theorem dX7_opens_35 : decode cX7_opens 35 = .ok (.iload_n 1, 1) := by decide +kernel
theorem dX7_opens_36 : decode cX7_opens 36 = .ok (.iadd, 1) := by decide +kernel
theorem dX7_opens_37 : decode cX7_opens 37 = .ok (.iaload, 1) := by decide +kernel
theorem dX7_opens_38 : decode cX7_opens 38 = .ok (.idiv, 1) := by decide +kernel
theorem dX7_opens_39 : decode cX7_opens 39 = .ok (.iadd, 1) := by decide +kernel
theorem dX7_opens_40 : decode cX7_opens 40 = .ok (.iastore, 1) := by decide +kernel
theorem dX7_opens_41 : decode cX7_opens 41 = .ok (.aload_n 0, 1) := by decide +kernel
theorem dX7_opens_42 : decode cX7_opens 42 = .ok (.getfield 7, 3) := by decide +kernel
theorem dX7_opens_45 : decode cX7_opens 45 = .ok (.bipush 104, 2) := by decide +kernel
theorem dX7_opens_47 : decode cX7_opens 47 = .ok (.iconst 1, 1) := by decide +kernel
theorem dX7_opens_48 : decode cX7_opens 48 = .ok (.iastore, 1) := by decide +kernel
theorem dX7_opens_49 : decode cX7_opens 49 = .ok (.aload_n 0, 1) := by decide +kernel
theorem dX7_opens_50 : decode cX7_opens 50 = .ok (.getfield 7, 3) := by decide +kernel
theorem dX7_opens_53 : decode cX7_opens 53 = .ok (.bipush 105, 2) := by decide +kernel
theorem dX7_opens_55 : decode cX7_opens 55 = .ok (.iconst 0, 1) := by decide +kernel
theorem dX7_opens_56 : decode cX7_opens 56 = .ok (.iastore, 1) := by decide +kernel
theorem dX7_opens_57 : decode cX7_opens 57 = .ok (.aload_n 0, 1) := by decide +kernel
theorem dX7_opens_58 : decode cX7_opens 58 = .ok (.getfield 7, 3) := by decide +kernel
theorem dX7_opens_61 : decode cX7_opens 61 = .ok (.bipush 75, 2) := by decide +kernel
theorem dX7_opens_63 : decode cX7_opens 63 = .ok (.iload_n 1, 1) := by decide +kernel
theorem dX7_opens_64 : decode cX7_opens 64 = .ok (.iadd, 1) := by decide +kernel
theorem dX7_opens_65 : decode cX7_opens 65 = .ok (.dup2, 1) := by decide +kernel
theorem dX7_opens_66 : decode cX7_opens 66 = .ok (.iaload, 1) := by decide +kernel
theorem dX7_opens_67 : decode cX7_opens 67 = .ok (.iconst 1, 1) := by decide +kernel
theorem dX7_opens_68 : decode cX7_opens 68 = .ok (.iadd, 1) := by decide +kernel
theorem dX7_opens_69 : decode cX7_opens 69 = .ok (.iastore, 1) := by decide +kernel
theorem dX7_opens_70 : decode cX7_opens 70 = .ok (.aload_n 0, 1) := by decide +kernel
theorem dX7_opens_71 : decode cX7_opens 71 = .ok (.iconst 0, 1) := by decide +kernel
theorem dX7_opens_72 : decode cX7_opens 72 = .ok (.iconst (-1), 1) := by decide +kernel
theorem dX7_opens_73 : decode cX7_opens 73 = .ok (.iload_n 1, 1) := by decide +kernel
theorem dX7_opens_74 : decode cX7_opens 74 = .ok (.invokevirtual 58, 3) := by decide +kernel
theorem dX7_opens_77 : decode cX7_opens 77 = .ok (.aload_n 0, 1) := by decide +kernel
theorem dX7_opens_78 : decode cX7_opens 78 = .ok (.iload_n 1, 1) := by decide +kernel
theorem dX7_opens_79 : decode cX7_opens 79 = .ok (.invokevirtual 62, 3) := by decide +kernel
theorem dX7_opens_82 : decode cX7_opens 82 = .ok (.return_, 1) := by decide +kernel
theorem dX7_isDue_0 : decode cX7_isDue 0 = .ok (.iconst 0, 1) := by decide +kernel
theorem dX7_isDue_1 : decode cX7_isDue 1 = .ok (.istore_n 2, 1) := by decide +kernel
theorem dX7_isDue_2 : decode cX7_isDue 2 = .ok (.iconst 0, 1) := by decide +kernel
theorem dX7_isDue_3 : decode cX7_isDue 3 = .ok (.istore_n 3, 1) := by decide +kernel
theorem dX7_isDue_4 : decode cX7_isDue 4 = .ok (.iconst 0, 1) := by decide +kernel
theorem dX7_isDue_5 : decode cX7_isDue 5 = .ok (.istore 4, 2) := by decide +kernel
theorem dX7_isDue_7 : decode cX7_isDue 7 = .ok (.iload 4, 2) := by decide +kernel
theorem dX7_isDue_9 : decode cX7_isDue 9 = .ok (.bipush 12, 2) := by decide +kernel
theorem dX7_isDue_11 : decode cX7_isDue 11 = .ok (.if_icmp .ge 82, 3) := by decide +kernel
theorem dX7_isDue_14 : decode cX7_isDue 14 = .ok (.aload_n 0, 1) := by decide +kernel
theorem dX7_isDue_15 : decode cX7_isDue 15 = .ok (.getfield 7, 3) := by decide +kernel
theorem dX7_isDue_18 : decode cX7_isDue 18 = .ok (.iconst 0, 1) := by decide +kernel
theorem dX7_isDue_19 : decode cX7_isDue 19 = .ok (.iload 4, 2) := by decide +kernel
theorem dX7_isDue_21 : decode cX7_isDue 21 = .ok (.iadd, 1) := by decide +kernel
theorem dX7_isDue_22 : decode cX7_isDue 22 = .ok (.iaload, 1) := by decide +kernel
theorem dX7_isDue_23 : decode cX7_isDue 23 = .ok (.iconst 1, 1) := by decide +kernel
theorem dX7_isDue_24 : decode cX7_isDue 24 = .ok (.if_icmp .ne 21, 3) := by decide +kernel
theorem dX7_isDue_27 : decode cX7_isDue 27 = .ok (.aload_n 0, 1) := by decide +kernel
theorem dX7_isDue_28 : decode cX7_isDue 28 = .ok (.getfield 7, 3) := by decide +kernel
theorem dX7_isDue_31 : decode cX7_isDue 31 = .ok (.bipush 12, 2) := by decide +kernel
theorem dX7_isDue_33 : decode cX7_isDue 33 = .ok (.iload 4, 2) := by decide +kernel
theorem dX7_isDue_35 : decode cX7_isDue 35 = .ok (.iadd, 1) := by decide +kernel
theorem dX7_isDue_36 : decode cX7_isDue 36 = .ok (.iaload, 1) := by decide +kernel
theorem dX7_isDue_37 : decode cX7_isDue 37 = .ok (.iload_n 1, 1) := by decide +kernel
theorem dX7_isDue_38 : decode cX7_isDue 38 = .ok (.if_icmp .eq 7, 3) := by decide +kernel
theorem dX7_isDue_41 : decode cX7_isDue 41 = .ok (.iconst 1, 1) := by decide +kernel
theorem dX7_isDue_42 : decode cX7_isDue 42 = .ok (.goto 4, 3) := by decide +kernel
theorem dX7_isDue_45 : decode cX7_isDue 45 = .ok (.iconst 0, 1) := by decide +kernel
theorem dX7_isDue_46 : decode cX7_isDue 46 = .ok (.istore 5, 2) := by decide +kernel
theorem dX7_isDue_48 : decode cX7_isDue 48 = .ok (.iload_n 2, 1) := by decide +kernel
theorem dX7_isDue_49 : decode cX7_isDue 49 = .ok (.ifCond .ne 8, 3) := by decide +kernel
theorem dX7_isDue_52 : decode cX7_isDue 52 = .ok (.iload 5, 2) := by decide +kernel
theorem dX7_isDue_54 : decode cX7_isDue 54 = .ok (.ifCond .eq 7, 3) := by decide +kernel
theorem dX7_isDue_57 : decode cX7_isDue 57 = .ok (.iconst 1, 1) := by decide +kernel
theorem dX7_isDue_58 : decode cX7_isDue 58 = .ok (.goto 4, 3) := by decide +kernel
theorem dX7_isDue_61 : decode cX7_isDue 61 = .ok (.iconst 0, 1) := by decide +kernel
theorem dX7_isDue_62 : decode cX7_isDue 62 = .ok (.istore_n 2, 1) := by decide +kernel
theorem dX7_isDue_63 : decode cX7_isDue 63 = .ok (.iload_n 3, 1) := by decide +kernel
theorem dX7_isDue_64 : decode cX7_isDue 64 = .ok (.ifCond .ne 17, 3) := by decide +kernel
theorem dX7_isDue_67 : decode cX7_isDue 67 = .ok (.iload 5, 2) := by decide +kernel
theorem dX7_isDue_69 : decode cX7_isDue 69 = .ok (.ifCond .eq 16, 3) := by decide +kernel
theorem dX7_isDue_72 : decode cX7_isDue 72 = .ok (.aload_n 0, 1) := by decide +kernel
theorem dX7_isDue_73 : decode cX7_isDue 73 = .ok (.iload 4, 2) := by decide +kernel
theorem dX7_isDue_75 : decode cX7_isDue 75 = .ok (.invokevirtual 47, 3) := by decide +kernel
theorem dX7_isDue_78 : decode cX7_isDue 78 = .ok (.ifCond .eq 7, 3) := by decide +kernel
theorem dX7_isDue_81 : decode cX7_isDue 81 = .ok (.iconst 1, 1) := by decide +kernel
theorem dX7_isDue_82 : decode cX7_isDue 82 = .ok (.goto 4, 3) := by decide +kernel
theorem dX7_isDue_85 : decode cX7_isDue 85 = .ok (.iconst 0, 1) := by decide +kernel
theorem dX7_isDue_86 : decode cX7_isDue 86 = .ok (.istore_n 3, 1) := by decide +kernel
theorem dX7_isDue_87 : decode cX7_isDue 87 = .ok (.iinc 4 1, 3) := by decide +kernel
theorem dX7_isDue_90 : decode cX7_isDue 90 = .ok (.goto (-83), 3) := by decide +kernel
theorem dX7_isDue_93 : decode cX7_isDue 93 = .ok (.iload_n 2, 1) := by decide +kernel
theorem dX7_isDue_94 : decode cX7_isDue 94 = .ok (.ifCond .eq 28, 3) := by decide +kernel
theorem dX7_isDue_97 : decode cX7_isDue 97 = .ok (.iload_n 3, 1) := by decide +kernel
theorem dX7_isDue_98 : decode cX7_isDue 98 = .ok (.ifCond .ne 20, 3) := by decide +kernel
theorem dX7_isDue_101 : decode cX7_isDue 101 = .ok (.aload_n 0, 1) := by decide +kernel
theorem dX7_isDue_102 : decode cX7_isDue 102 = .ok (.getfield 7, 3) := by decide +kernel
theorem dX7_isDue_105 : decode cX7_isDue 105 = .ok (.bipush 105, 2) := by decide +kernel
theorem dX7_isDue_107 : decode cX7_isDue 107 = .ok (.iaload, 1) := by decide +kernel
theorem dX7_isDue_108 : decode cX7_isDue 108 = .ok (.aload_n 0, 1) := by decide +kernel
theorem dX7_isDue_109 : decode cX7_isDue 109 = .ok (.getfield 7, 3) := by decide +kernel
theorem dX7_isDue_112 : decode cX7_isDue 112 = .ok (.bipush 101, 2) := by decide +kernel
theorem dX7_isDue_114 : decode cX7_isDue 114 = .ok (.iaload, 1) := by decide +kernel
theorem dX7_isDue_115 : decode cX7_isDue 115 = .ok (.if_icmp .lt 7, 3) := by decide +kernel
theorem dX7_isDue_118 : decode cX7_isDue 118 = .ok (.iconst 1, 1) := by decide +kernel
theorem dX7_isDue_119 : decode cX7_isDue 119 = .ok (.goto 4, 3) := by decide +kernel
theorem dX7_isDue_122 : decode cX7_isDue 122 = .ok (.iconst 0, 1) := by decide +kernel
theorem dX7_isDue_123 : decode cX7_isDue 123 = .ok (.ireturn, 1) := by decide +kernel
theorem dX7_actsOnce_0 : decode cX7_actsOnce 0 = .ok (.aload_n 0, 1) := by decide +kernel
theorem dX7_actsOnce_1 : decode cX7_actsOnce 1 = .ok (.invokevirtual 65, 3) := by decide +kernel
theorem dX7_actsOnce_4 : decode cX7_actsOnce 4 = .ok (.istore_n 1, 1) := by decide +kernel
theorem dX7_actsOnce_5 : decode cX7_actsOnce 5 = .ok (.iload_n 1, 1) := by decide +kernel
theorem dX7_actsOnce_6 : decode cX7_actsOnce 6 = .ok (.iconst (-1), 1) := by decide +kernel
theorem dX7_actsOnce_7 : decode cX7_actsOnce 7 = .ok (.if_icmp .ne 29, 3) := by decide +kernel
theorem dX7_actsOnce_10 : decode cX7_actsOnce 10 = .ok (.aload_n 0, 1) := by decide +kernel
theorem dX7_actsOnce_11 : decode cX7_actsOnce 11 = .ok (.invokevirtual 69, 3) := by decide +kernel
theorem dX7_actsOnce_14 : decode cX7_actsOnce 14 = .ok (.istore_n 2, 1) := by decide +kernel
theorem dX7_actsOnce_15 : decode cX7_actsOnce 15 = .ok (.iload_n 2, 1) := by decide +kernel
theorem dX7_actsOnce_16 : decode cX7_actsOnce 16 = .ok (.iconst (-1), 1) := by decide +kernel
theorem dX7_actsOnce_17 : decode cX7_actsOnce 17 = .ok (.if_icmp .eq 8, 3) := by decide +kernel
theorem dX7_actsOnce_20 : decode cX7_actsOnce 20 = .ok (.aload_n 0, 1) := by decide +kernel
theorem dX7_actsOnce_21 : decode cX7_actsOnce 21 = .ok (.iload_n 2, 1) := by decide +kernel
theorem dX7_actsOnce_22 : decode cX7_actsOnce 22 = .ok (.invokevirtual 72, 3) := by decide +kernel
theorem dX7_actsOnce_25 : decode cX7_actsOnce 25 = .ok (.iload_n 2, 1) := by decide +kernel
theorem dX7_actsOnce_26 : decode cX7_actsOnce 26 = .ok (.iconst (-1), 1) := by decide +kernel
theorem dX7_actsOnce_27 : decode cX7_actsOnce 27 = .ok (.if_icmp .eq 7, 3) := by decide +kernel
theorem dX7_actsOnce_30 : decode cX7_actsOnce 30 = .ok (.iconst 1, 1) := by decide +kernel
theorem dX7_actsOnce_31 : decode cX7_actsOnce 31 = .ok (.goto 4, 3) := by decide +kernel
theorem dX7_actsOnce_34 : decode cX7_actsOnce 34 = .ok (.iconst 0, 1) := by decide +kernel
theorem dX7_actsOnce_35 : decode cX7_actsOnce 35 = .ok (.ireturn, 1) := by decide +kernel
theorem dX7_actsOnce_36 : decode cX7_actsOnce 36 = .ok (.aload_n 0, 1) := by decide +kernel
theorem dX7_actsOnce_37 : decode cX7_actsOnce 37 = .ok (.getfield 7, 3) := by decide +kernel
theorem dX7_actsOnce_40 : decode cX7_actsOnce 40 = .ok (.bipush 104, 2) := by decide +kernel
theorem dX7_actsOnce_42 : decode cX7_actsOnce 42 = .ok (.iaload, 1) := by decide +kernel
theorem dX7_actsOnce_43 : decode cX7_actsOnce 43 = .ok (.ifCond .eq 28, 3) := by decide +kernel
theorem dX7_actsOnce_46 : decode cX7_actsOnce 46 = .ok (.aload_n 0, 1) := by decide +kernel
theorem dX7_actsOnce_47 : decode cX7_actsOnce 47 = .ok (.iload_n 1, 1) := by decide +kernel
theorem dX7_actsOnce_48 : decode cX7_actsOnce 48 = .ok (.invokevirtual 51, 3) := by decide +kernel
theorem dX7_actsOnce_51 : decode cX7_actsOnce 51 = .ok (.ifCond .eq 20, 3) := by decide +kernel
theorem dX7_actsOnce_54 : decode cX7_actsOnce 54 = .ok (.aload_n 0, 1) := by decide +kernel
theorem dX7_actsOnce_55 : decode cX7_actsOnce 55 = .ok (.iload_n 1, 1) := by decide +kernel
theorem dX7_actsOnce_56 : decode cX7_actsOnce 56 = .ok (.invokevirtual 75, 3) := by decide +kernel
theorem dX7_actsOnce_59 : decode cX7_actsOnce 59 = .ok (.aload_n 0, 1) := by decide +kernel
theorem dX7_actsOnce_60 : decode cX7_actsOnce 60 = .ok (.getfield 7, 3) := by decide +kernel
theorem dX7_actsOnce_63 : decode cX7_actsOnce 63 = .ok (.bipush 60, 2) := by decide +kernel
theorem dX7_actsOnce_65 : decode cX7_actsOnce 65 = .ok (.iload_n 1, 1) := by decide +kernel
theorem dX7_actsOnce_66 : decode cX7_actsOnce 66 = .ok (.iadd, 1) := by decide +kernel
theorem dX7_actsOnce_67 : decode cX7_actsOnce 67 = .ok (.iaload, 1) := by decide +kernel
theorem dX7_actsOnce_68 : decode cX7_actsOnce 68 = .ok (.if_icmp .lt 5, 3) := by decide +kernel
theorem dX7_actsOnce_71 : decode cX7_actsOnce 71 = .ok (.iconst 0, 1) := by decide +kernel
theorem dX7_actsOnce_72 : decode cX7_actsOnce 72 = .ok (.ireturn, 1) := by decide +kernel
theorem dX7_actsOnce_73 : decode cX7_actsOnce 73 = .ok (.aload_n 0, 1) := by decide +kernel
theorem dX7_actsOnce_74 : decode cX7_actsOnce 74 = .ok (.iload_n 1, 1) := by decide +kernel
theorem dX7_actsOnce_75 : decode cX7_actsOnce 75 = .ok (.invokevirtual 78, 3) := by decide +kernel
theorem dX7_actsOnce_78 : decode cX7_actsOnce 78 = .ok (.ifCond .eq 21, 3) := by decide +kernel
theorem dX7_actsOnce_81 : decode cX7_actsOnce 81 = .ok (.aload_n 0, 1) := by decide +kernel
theorem dX7_actsOnce_82 : decode cX7_actsOnce 82 = .ok (.getfield 7, 3) := by decide +kernel
theorem dX7_actsOnce_85 : decode cX7_actsOnce 85 = .ok (.bipush 104, 2) := by decide +kernel
theorem dX7_actsOnce_87 : decode cX7_actsOnce 87 = .ok (.iconst 0, 1) := by decide +kernel
theorem dX7_actsOnce_88 : decode cX7_actsOnce 88 = .ok (.iastore, 1) := by decide +kernel
theorem dX7_actsOnce_89 : decode cX7_actsOnce 89 = .ok (.aload_n 0, 1) := by decide +kernel
theorem dX7_actsOnce_90 : decode cX7_actsOnce 90 = .ok (.iconst 3, 1) := by decide +kernel
theorem dX7_actsOnce_91 : decode cX7_actsOnce 91 = .ok (.iconst (-1), 1) := by decide +kernel
theorem dX7_actsOnce_92 : decode cX7_actsOnce 92 = .ok (.iload_n 1, 1) := by decide +kernel
theorem dX7_actsOnce_93 : decode cX7_actsOnce 93 = .ok (.invokevirtual 58, 3) := by decide +kernel
theorem dX7_actsOnce_96 : decode cX7_actsOnce 96 = .ok (.goto 8, 3) := by decide +kernel
theorem dX7_actsOnce_99 : decode cX7_actsOnce 99 = .ok (.aload_n 0, 1) := by decide +kernel
theorem dX7_actsOnce_100 : decode cX7_actsOnce 100 = .ok (.iload_n 1, 1) := by decide +kernel
theorem dX7_actsOnce_101 : decode cX7_actsOnce 101 = .ok (.invokevirtual 62, 3) := by decide +kernel
theorem dX7_actsOnce_104 : decode cX7_actsOnce 104 = .ok (.iconst 1, 1) := by decide +kernel
theorem dX7_actsOnce_105 : decode cX7_actsOnce 105 = .ok (.ireturn, 1) := by decide +kernel
theorem dX7_acts_0 : decode cX7_acts 0 = .ok (.iconst 1, 1) := by decide +kernel
theorem dX7_acts_1 : decode cX7_acts 1 = .ok (.istore_n 1, 1) := by decide +kernel
theorem dX7_acts_2 : decode cX7_acts 2 = .ok (.iload_n 1, 1) := by decide +kernel
theorem dX7_acts_3 : decode cX7_acts 3 = .ok (.ifCond .eq 11, 3) := by decide +kernel
theorem dX7_acts_6 : decode cX7_acts 6 = .ok (.aload_n 0, 1) := by decide +kernel
theorem dX7_acts_7 : decode cX7_acts 7 = .ok (.invokevirtual 81, 3) := by decide +kernel
theorem dX7_acts_10 : decode cX7_acts 10 = .ok (.istore_n 1, 1) := by decide +kernel
theorem dX7_acts_11 : decode cX7_acts 11 = .ok (.goto (-9), 3) := by decide +kernel
theorem dX7_acts_14 : decode cX7_acts 14 = .ok (.return_, 1) := by decide +kernel
theorem dX7_ticks_0 : decode cX7_ticks 0 = .ok (.aload_n 0, 1) := by decide +kernel
theorem dX7_ticks_1 : decode cX7_ticks 1 = .ok (.getfield 7, 3) := by decide +kernel
theorem dX7_ticks_4 : decode cX7_ticks 4 = .ok (.bipush 103, 2) := by decide +kernel
theorem dX7_ticks_6 : decode cX7_ticks 6 = .ok (.dup2, 1) := by decide +kernel
theorem dX7_ticks_7 : decode cX7_ticks 7 = .ok (.iaload, 1) := by decide +kernel
theorem dX7_ticks_8 : decode cX7_ticks 8 = .ok (.iconst 1, 1) := by decide +kernel
theorem dX7_ticks_9 : decode cX7_ticks 9 = .ok (.iadd, 1) := by decide +kernel
theorem dX7_ticks_10 : decode cX7_ticks 10 = .ok (.iastore, 1) := by decide +kernel
theorem dX7_ticks_11 : decode cX7_ticks 11 = .ok (.iconst 0, 1) := by decide +kernel
theorem dX7_ticks_12 : decode cX7_ticks 12 = .ok (.istore_n 1, 1) := by decide +kernel
theorem dX7_ticks_13 : decode cX7_ticks 13 = .ok (.iload_n 1, 1) := by decide +kernel
theorem dX7_ticks_14 : decode cX7_ticks 14 = .ok (.bipush 12, 2) := by decide +kernel
theorem dX7_ticks_16 : decode cX7_ticks 16 = .ok (.if_icmp .ge 135, 3) := by decide +kernel
theorem dX7_ticks_19 : decode cX7_ticks 19 = .ok (.aload_n 0, 1) := by decide +kernel
theorem dX7_ticks_20 : decode cX7_ticks 20 = .ok (.getfield 7, 3) := by decide +kernel
theorem dX7_ticks_23 : decode cX7_ticks 23 = .ok (.bipush 12, 2) := by decide +kernel
theorem dX7_ticks_25 : decode cX7_ticks 25 = .ok (.iload_n 1, 1) := by decide +kernel
theorem dX7_ticks_26 : decode cX7_ticks 26 = .ok (.iadd, 1) := by decide +kernel
theorem dX7_ticks_27 : decode cX7_ticks 27 = .ok (.iaload, 1) := by decide +kernel
theorem dX7_ticks_28 : decode cX7_ticks 28 = .ok (.istore_n 2, 1) := by decide +kernel
theorem dX7_ticks_29 : decode cX7_ticks 29 = .ok (.aload_n 0, 1) := by decide +kernel
theorem dX7_ticks_30 : decode cX7_ticks 30 = .ok (.getfield 7, 3) := by decide +kernel
theorem dX7_ticks_33 : decode cX7_ticks 33 = .ok (.iconst 0, 1) := by decide +kernel
theorem dX7_ticks_34 : decode cX7_ticks 34 = .ok (.iload_n 1, 1) := by decide +kernel
theorem dX7_ticks_35 : decode cX7_ticks 35 = .ok (.iadd, 1) := by decide +kernel
theorem dX7_ticks_36 : decode cX7_ticks 36 = .ok (.iaload, 1) := by decide +kernel
theorem dX7_ticks_37 : decode cX7_ticks 37 = .ok (.iconst 2, 1) := by decide +kernel
theorem dX7_ticks_38 : decode cX7_ticks 38 = .ok (.if_icmp .ne 56, 3) := by decide +kernel
theorem dX7_ticks_41 : decode cX7_ticks 41 = .ok (.aload_n 0, 1) := by decide +kernel
theorem dX7_ticks_42 : decode cX7_ticks 42 = .ok (.getfield 7, 3) := by decide +kernel
theorem dX7_ticks_45 : decode cX7_ticks 45 = .ok (.bipush 85, 2) := by decide +kernel
theorem dX7_ticks_47 : decode cX7_ticks 47 = .ok (.iload_n 2, 1) := by decide +kernel
theorem dX7_ticks_48 : decode cX7_ticks 48 = .ok (.iadd, 1) := by decide +kernel
theorem dX7_ticks_49 : decode cX7_ticks 49 = .ok (.dup2, 1) := by decide +kernel
theorem dX7_ticks_50 : decode cX7_ticks 50 = .ok (.iaload, 1) := by decide +kernel
theorem dX7_ticks_51 : decode cX7_ticks 51 = .ok (.iconst 1, 1) := by decide +kernel
theorem dX7_ticks_52 : decode cX7_ticks 52 = .ok (.iadd, 1) := by decide +kernel
theorem dX7_ticks_53 : decode cX7_ticks 53 = .ok (.iastore, 1) := by decide +kernel
theorem dX7_ticks_54 : decode cX7_ticks 54 = .ok (.aload_n 0, 1) := by decide +kernel
theorem dX7_ticks_55 : decode cX7_ticks 55 = .ok (.getfield 7, 3) := by decide +kernel
theorem dX7_ticks_58 : decode cX7_ticks 58 = .ok (.bipush 36, 2) := by decide +kernel
theorem dX7_ticks_60 : decode cX7_ticks 60 = .ok (.iload_n 1, 1) := by decide +kernel
theorem dX7_ticks_61 : decode cX7_ticks 61 = .ok (.iadd, 1) := by decide +kernel
theorem dX7_ticks_62 : decode cX7_ticks 62 = .ok (.dup2, 1) := by decide +kernel
theorem dX7_ticks_63 : decode cX7_ticks 63 = .ok (.iaload, 1) := by decide +kernel
theorem dX7_ticks_64 : decode cX7_ticks 64 = .ok (.iconst 1, 1) := by decide +kernel
theorem dX7_ticks_65 : decode cX7_ticks 65 = .ok (.isub, 1) := by decide +kernel
theorem dX7_ticks_66 : decode cX7_ticks 66 = .ok (.iastore, 1) := by decide +kernel
theorem dX7_ticks_67 : decode cX7_ticks 67 = .ok (.aload_n 0, 1) := by decide +kernel
theorem dX7_ticks_68 : decode cX7_ticks 68 = .ok (.getfield 7, 3) := by decide +kernel
theorem dX7_ticks_71 : decode cX7_ticks 71 = .ok (.bipush 36, 2) := by decide +kernel
theorem dX7_ticks_73 : decode cX7_ticks 73 = .ok (.iload_n 1, 1) := by decide +kernel
theorem dX7_ticks_74 : decode cX7_ticks 74 = .ok (.iadd, 1) := by decide +kernel
theorem dX7_ticks_75 : decode cX7_ticks 75 = .ok (.iaload, 1) := by decide +kernel
theorem dX7_ticks_76 : decode cX7_ticks 76 = .ok (.ifCond .ne 69, 3) := by decide +kernel
theorem dX7_ticks_79 : decode cX7_ticks 79 = .ok (.aload_n 0, 1) := by decide +kernel
theorem dX7_ticks_80 : decode cX7_ticks 80 = .ok (.iload_n 1, 1) := by decide +kernel
theorem dX7_ticks_81 : decode cX7_ticks 81 = .ok (.invokevirtual 35, 3) := by decide +kernel
theorem dX7_ticks_84 : decode cX7_ticks 84 = .ok (.aload_n 0, 1) := by decide +kernel
theorem dX7_ticks_85 : decode cX7_ticks 85 = .ok (.iconst 2, 1) := by decide +kernel
theorem dX7_ticks_86 : decode cX7_ticks 86 = .ok (.iload_n 1, 1) := by decide +kernel
theorem dX7_ticks_87 : decode cX7_ticks 87 = .ok (.iload_n 2, 1) := by decide +kernel
theorem dX7_ticks_88 : decode cX7_ticks 88 = .ok (.invokevirtual 58, 3) := by decide +kernel
theorem dX7_ticks_91 : decode cX7_ticks 91 = .ok (.goto 54, 3) := by decide +kernel
theorem dX7_ticks_94 : decode cX7_ticks 94 = .ok (.aload_n 0, 1) := by decide +kernel
theorem dX7_ticks_95 : decode cX7_ticks 95 = .ok (.getfield 7, 3) := by decide +kernel
theorem dX7_ticks_98 : decode cX7_ticks 98 = .ok (.iconst 0, 1) := by decide +kernel
theorem dX7_ticks_99 : decode cX7_ticks 99 = .ok (.iload_n 1, 1) := by decide +kernel
theorem dX7_ticks_100 : decode cX7_ticks 100 = .ok (.iadd, 1) := by decide +kernel
theorem dX7_ticks_101 : decode cX7_ticks 101 = .ok (.iaload, 1) := by decide +kernel
theorem dX7_ticks_102 : decode cX7_ticks 102 = .ok (.iconst 3, 1) := by decide +kernel
theorem dX7_ticks_103 : decode cX7_ticks 103 = .ok (.if_icmp .ne 42, 3) := by decide +kernel
theorem dX7_ticks_106 : decode cX7_ticks 106 = .ok (.aload_n 0, 1) := by decide +kernel
theorem dX7_ticks_107 : decode cX7_ticks 107 = .ok (.getfield 7, 3) := by decide +kernel
theorem dX7_ticks_110 : decode cX7_ticks 110 = .ok (.bipush 103, 2) := by decide +kernel
theorem dX7_ticks_112 : decode cX7_ticks 112 = .ok (.iaload, 1) := by decide +kernel
theorem dX7_ticks_113 : decode cX7_ticks 113 = .ok (.aload_n 0, 1) := by decide +kernel
theorem dX7_ticks_114 : decode cX7_ticks 114 = .ok (.getfield 7, 3) := by decide +kernel
theorem dX7_ticks_117 : decode cX7_ticks 117 = .ok (.bipush 24, 2) := by decide +kernel
theorem dX7_ticks_119 : decode cX7_ticks 119 = .ok (.iload_n 1, 1) := by decide +kernel
theorem dX7_ticks_120 : decode cX7_ticks 120 = .ok (.iadd, 1) := by decide +kernel
theorem dX7_ticks_121 : decode cX7_ticks 121 = .ok (.iaload, 1) := by decide +kernel
theorem dX7_ticks_122 : decode cX7_ticks 122 = .ok (.isub, 1) := by decide +kernel
theorem dX7_ticks_123 : decode cX7_ticks 123 = .ok (.aload_n 0, 1) := by decide +kernel
theorem dX7_ticks_124 : decode cX7_ticks 124 = .ok (.getfield 7, 3) := by decide +kernel
theorem dX7_ticks_127 : decode cX7_ticks 127 = .ok (.bipush 102, 2) := by decide +kernel
theorem dX7_ticks_129 : decode cX7_ticks 129 = .ok (.iaload, 1) := by decide +kernel
theorem dX7_ticks_130 : decode cX7_ticks 130 = .ok (.if_icmp .lt 15, 3) := by decide +kernel
theorem dX7_ticks_133 : decode cX7_ticks 133 = .ok (.aload_n 0, 1) := by decide +kernel
theorem dX7_ticks_134 : decode cX7_ticks 134 = .ok (.iload_n 1, 1) := by decide +kernel
theorem dX7_ticks_135 : decode cX7_ticks 135 = .ok (.invokevirtual 35, 3) := by decide +kernel
theorem dX7_ticks_138 : decode cX7_ticks 138 = .ok (.aload_n 0, 1) := by decide +kernel
theorem dX7_ticks_139 : decode cX7_ticks 139 = .ok (.iconst 4, 1) := by decide +kernel
theorem dX7_ticks_140 : decode cX7_ticks 140 = .ok (.iload_n 1, 1) := by decide +kernel
theorem dX7_ticks_141 : decode cX7_ticks 141 = .ok (.iload_n 2, 1) := by decide +kernel
theorem dX7_ticks_142 : decode cX7_ticks 142 = .ok (.invokevirtual 58, 3) := by decide +kernel
theorem dX7_ticks_145 : decode cX7_ticks 145 = .ok (.iinc 1 1, 3) := by decide +kernel
theorem dX7_ticks_148 : decode cX7_ticks 148 = .ok (.goto (-135), 3) := by decide +kernel
theorem dX7_ticks_151 : decode cX7_ticks 151 = .ok (.aload_n 0, 1) := by decide +kernel
theorem dX7_ticks_152 : decode cX7_ticks 152 = .ok (.invokevirtual 85, 3) := by decide +kernel
theorem dX7_ticks_155 : decode cX7_ticks 155 = .ok (.return_, 1) := by decide +kernel
theorem dX7_setCapacity_0 : decode cX7_setCapacity 0 = .ok (.iload_n 1, 1) := by decide +kernel
theorem dX7_setCapacity_1 : decode cX7_setCapacity 1 = .ok (.invokestatic 88, 3) := by decide +kernel
theorem dX7_setCapacity_4 : decode cX7_setCapacity 4 = .ok (.ifCond .eq 13, 3) := by decide +kernel
theorem dX7_setCapacity_7 : decode cX7_setCapacity 7 = .ok (.iload_n 2, 1) := by decide +kernel
theorem dX7_setCapacity_8 : decode cX7_setCapacity 8 = .ok (.iconst 1, 1) := by decide +kernel
theorem dX7_setCapacity_9 : decode cX7_setCapacity 9 = .ok (.bipush 8, 2) := by decide +kernel
theorem dX7_setCapacity_11 : decode cX7_setCapacity 11 = .ok (.invokestatic 39, 3) := by decide +kernel
theorem dX7_setCapacity_14 : decode cX7_setCapacity 14 = .ok (.ifCond .ne 6, 3) := by decide +kernel
theorem dX7_setCapacity_17 : decode cX7_setCapacity 17 = .ok (.bipush (-2), 2) := by decide +kernel
theorem dX7_setCapacity_19 : decode cX7_setCapacity 19 = .ok (.ireturn, 1) := by decide +kernel
theorem dX7_setCapacity_20 : decode cX7_setCapacity 20 = .ok (.aload_n 0, 1) := by decide +kernel
theorem dX7_setCapacity_21 : decode cX7_setCapacity 21 = .ok (.getfield 7, 3) := by decide +kernel
theorem dX7_setCapacity_24 : decode cX7_setCapacity 24 = .ok (.bipush 60, 2) := by decide +kernel
theorem dX7_setCapacity_26 : decode cX7_setCapacity 26 = .ok (.iload_n 1, 1) := by decide +kernel
theorem dX7_setCapacity_27 : decode cX7_setCapacity 27 = .ok (.iadd, 1) := by decide +kernel
theorem dX7_setCapacity_28 : decode cX7_setCapacity 28 = .ok (.iaload, 1) := by decide +kernel
theorem dX7_setCapacity_29 : decode cX7_setCapacity 29 = .ok (.istore_n 3, 1) := by decide +kernel
theorem dX7_setCapacity_30 : decode cX7_setCapacity 30 = .ok (.aload_n 0, 1) := by decide +kernel
theorem dX7_setCapacity_31 : decode cX7_setCapacity 31 = .ok (.getfield 7, 3) := by decide +kernel
theorem dX7_setCapacity_34 : decode cX7_setCapacity 34 = .ok (.bipush 60, 2) := by decide +kernel
theorem dX7_setCapacity_36 : decode cX7_setCapacity 36 = .ok (.iload_n 1, 1) := by decide +kernel
theorem dX7_setCapacity_37 : decode cX7_setCapacity 37 = .ok (.iadd, 1) := by decide +kernel
theorem dX7_setCapacity_38 : decode cX7_setCapacity 38 = .ok (.iload_n 2, 1) := by decide +kernel
theorem dX7_setCapacity_39 : decode cX7_setCapacity 39 = .ok (.iastore, 1) := by decide +kernel
theorem dX7_setCapacity_40 : decode cX7_setCapacity 40 = .ok (.iload_n 3, 1) := by decide +kernel
theorem dX7_setCapacity_41 : decode cX7_setCapacity 41 = .ok (.ireturn, 1) := by decide +kernel
theorem dX7_setShare_0 : decode cX7_setShare 0 = .ok (.iload_n 1, 1) := by decide +kernel
theorem dX7_setShare_1 : decode cX7_setShare 1 = .ok (.invokestatic 88, 3) := by decide +kernel
theorem dX7_setShare_4 : decode cX7_setShare 4 = .ok (.ifCond .eq 13, 3) := by decide +kernel
theorem dX7_setShare_7 : decode cX7_setShare 7 = .ok (.iload_n 2, 1) := by decide +kernel
theorem dX7_setShare_8 : decode cX7_setShare 8 = .ok (.iconst 1, 1) := by decide +kernel
theorem dX7_setShare_9 : decode cX7_setShare 9 = .ok (.bipush 9, 2) := by decide +kernel
theorem dX7_setShare_11 : decode cX7_setShare 11 = .ok (.invokestatic 39, 3) := by decide +kernel
theorem dX7_setShare_14 : decode cX7_setShare 14 = .ok (.ifCond .ne 6, 3) := by decide +kernel
theorem dX7_setShare_17 : decode cX7_setShare 17 = .ok (.bipush (-2), 2) := by decide +kernel
theorem dX7_setShare_19 : decode cX7_setShare 19 = .ok (.ireturn, 1) := by decide +kernel
theorem dX7_setShare_20 : decode cX7_setShare 20 = .ok (.aload_n 0, 1) := by decide +kernel
theorem dX7_setShare_21 : decode cX7_setShare 21 = .ok (.getfield 7, 3) := by decide +kernel
theorem dX7_setShare_24 : decode cX7_setShare 24 = .ok (.bipush 65, 2) := by decide +kernel
theorem dX7_setShare_26 : decode cX7_setShare 26 = .ok (.iload_n 1, 1) := by decide +kernel
theorem dX7_setShare_27 : decode cX7_setShare 27 = .ok (.iadd, 1) := by decide +kernel
theorem dX7_setShare_28 : decode cX7_setShare 28 = .ok (.iaload, 1) := by decide +kernel
theorem dX7_setShare_29 : decode cX7_setShare 29 = .ok (.istore_n 3, 1) := by decide +kernel
theorem dX7_setShare_30 : decode cX7_setShare 30 = .ok (.aload_n 0, 1) := by decide +kernel
theorem dX7_setShare_31 : decode cX7_setShare 31 = .ok (.getfield 7, 3) := by decide +kernel
theorem dX7_setShare_34 : decode cX7_setShare 34 = .ok (.bipush 65, 2) := by decide +kernel
theorem dX7_setShare_36 : decode cX7_setShare 36 = .ok (.iload_n 1, 1) := by decide +kernel
theorem dX7_setShare_37 : decode cX7_setShare 37 = .ok (.iadd, 1) := by decide +kernel
theorem dX7_setShare_38 : decode cX7_setShare 38 = .ok (.iload_n 2, 1) := by decide +kernel
theorem dX7_setShare_39 : decode cX7_setShare 39 = .ok (.iastore, 1) := by decide +kernel
theorem dX7_setShare_40 : decode cX7_setShare 40 = .ok (.iload_n 3, 1) := by decide +kernel
theorem dX7_setShare_41 : decode cX7_setShare 41 = .ok (.ireturn, 1) := by decide +kernel
theorem dX7_setRule_0 : decode cX7_setRule 0 = .ok (.iload_n 1, 1) := by decide +kernel
theorem dX7_setRule_1 : decode cX7_setRule 1 = .ok (.iconst 0, 1) := by decide +kernel
theorem dX7_setRule_2 : decode cX7_setRule 2 = .ok (.iconst 2, 1) := by decide +kernel
theorem dX7_setRule_3 : decode cX7_setRule 3 = .ok (.invokestatic 39, 3) := by decide +kernel
theorem dX7_setRule_6 : decode cX7_setRule 6 = .ok (.ifCond .eq 32, 3) := by decide +kernel
theorem dX7_setRule_9 : decode cX7_setRule 9 = .ok (.iload_n 2, 1) := by decide +kernel
theorem dX7_setRule_10 : decode cX7_setRule 10 = .ok (.iconst 1, 1) := by decide +kernel
theorem dX7_setRule_11 : decode cX7_setRule 11 = .ok (.iload_n 1, 1) := by decide +kernel
theorem dX7_setRule_12 : decode cX7_setRule 12 = .ok (.ifCond .ne 8, 3) := by decide +kernel
theorem dX7_setRule_15 : decode cX7_setRule 15 = .ok (.bipush 100, 2) := by decide +kernel
theorem dX7_setRule_17 : decode cX7_setRule 17 = .ok (.goto 15, 3) := by decide +kernel
theorem dX7_setRule_20 : decode cX7_setRule 20 = .ok (.iload_n 1, 1) := by decide +kernel
theorem dX7_setRule_21 : decode cX7_setRule 21 = .ok (.iconst 1, 1) := by decide +kernel
theorem dX7_setRule_22 : decode cX7_setRule 22 = .ok (.if_icmp .ne 8, 3) := by decide +kernel
theorem dX7_setRule_25 : decode cX7_setRule 25 = .ok (.bipush 20, 2) := by decide +kernel
theorem dX7_setRule_27 : decode cX7_setRule 27 = .ok (.goto 5, 3) := by decide +kernel
theorem dX7_setRule_30 : decode cX7_setRule 30 = .ok (.bipush 50, 2) := by decide +kernel
theorem dX7_setRule_32 : decode cX7_setRule 32 = .ok (.invokestatic 39, 3) := by decide +kernel
theorem dX7_setRule_35 : decode cX7_setRule 35 = .ok (.ifCond .ne 6, 3) := by decide +kernel
theorem dX7_setRule_38 : decode cX7_setRule 38 = .ok (.bipush (-2), 2) := by decide +kernel
theorem dX7_setRule_40 : decode cX7_setRule 40 = .ok (.ireturn, 1) := by decide +kernel
theorem dX7_setRule_41 : decode cX7_setRule 41 = .ok (.aload_n 0, 1) := by decide +kernel
theorem dX7_setRule_42 : decode cX7_setRule 42 = .ok (.getfield 7, 3) := by decide +kernel
theorem dX7_setRule_45 : decode cX7_setRule 45 = .ok (.bipush 100, 2) := by decide +kernel
theorem dX7_setRule_47 : decode cX7_setRule 47 = .ok (.iload_n 1, 1) := by decide +kernel
theorem dX7_setRule_48 : decode cX7_setRule 48 = .ok (.iadd, 1) := by decide +kernel
theorem dX7_setRule_49 : decode cX7_setRule 49 = .ok (.iaload, 1) := by decide +kernel
theorem dX7_setRule_50 : decode cX7_setRule 50 = .ok (.istore_n 3, 1) := by decide +kernel
theorem dX7_setRule_51 : decode cX7_setRule 51 = .ok (.aload_n 0, 1) := by decide +kernel
theorem dX7_setRule_52 : decode cX7_setRule 52 = .ok (.getfield 7, 3) := by decide +kernel
theorem dX7_setRule_55 : decode cX7_setRule 55 = .ok (.bipush 100, 2) := by decide +kernel
theorem dX7_setRule_57 : decode cX7_setRule 57 = .ok (.iload_n 1, 1) := by decide +kernel
theorem dX7_setRule_58 : decode cX7_setRule 58 = .ok (.iadd, 1) := by decide +kernel
theorem dX7_setRule_59 : decode cX7_setRule 59 = .ok (.iload_n 2, 1) := by decide +kernel
theorem dX7_setRule_60 : decode cX7_setRule 60 = .ok (.iastore, 1) := by decide +kernel
theorem dX7_setRule_61 : decode cX7_setRule 61 = .ok (.iload_n 3, 1) := by decide +kernel
theorem dX7_setRule_62 : decode cX7_setRule 62 = .ok (.ireturn, 1) := by decide +kernel
theorem dX7_request_0 : decode cX7_request 0 = .ok (.iload_n 1, 1) := by decide +kernel
theorem dX7_request_1 : decode cX7_request 1 = .ok (.invokestatic 91, 3) := by decide +kernel
theorem dX7_request_4 : decode cX7_request 4 = .ok (.ifCond .eq 21, 3) := by decide +kernel
theorem dX7_request_7 : decode cX7_request 7 = .ok (.iload_n 2, 1) := by decide +kernel
theorem dX7_request_8 : decode cX7_request 8 = .ok (.invokestatic 88, 3) := by decide +kernel
theorem dX7_request_11 : decode cX7_request 11 = .ok (.ifCond .eq 14, 3) := by decide +kernel
theorem dX7_request_14 : decode cX7_request 14 = .ok (.iload_n 3, 1) := by decide +kernel
theorem dX7_request_15 : decode cX7_request 15 = .ok (.iconst 1, 1) := by decide +kernel
theorem dX7_request_16 : decode cX7_request 16 = .ok (.sipush 999, 3) := by decide +kernel
theorem dX7_request_19 : decode cX7_request 19 = .ok (.invokestatic 39, 3) := by decide +kernel
theorem dX7_request_22 : decode cX7_request 22 = .ok (.ifCond .ne 6, 3) := by decide +kernel
theorem dX7_request_25 : decode cX7_request 25 = .ok (.bipush (-2), 2) := by decide +kernel
theorem dX7_request_27 : decode cX7_request 27 = .ok (.ireturn, 1) := by decide +kernel
theorem dX7_request_28 : decode cX7_request 28 = .ok (.aload_n 0, 1) := by decide +kernel
theorem dX7_request_29 : decode cX7_request 29 = .ok (.getfield 7, 3) := by decide +kernel
theorem dX7_request_32 : decode cX7_request 32 = .ok (.iconst 0, 1) := by decide +kernel
theorem dX7_request_33 : decode cX7_request 33 = .ok (.iload_n 1, 1) := by decide +kernel
theorem dX7_request_34 : decode cX7_request 34 = .ok (.iadd, 1) := by decide +kernel
theorem dX7_request_35 : decode cX7_request 35 = .ok (.iaload, 1) := by decide +kernel
theorem dX7_request_36 : decode cX7_request 36 = .ok (.ifCond .eq 6, 3) := by decide +kernel
theorem dX7_request_39 : decode cX7_request 39 = .ok (.bipush (-3), 2) := by decide +kernel
theorem dX7_request_41 : decode cX7_request 41 = .ok (.ireturn, 1) := by decide +kernel
theorem dX7_request_42 : decode cX7_request 42 = .ok (.aload_n 0, 1) := by decide +kernel
theorem dX7_request_43 : decode cX7_request 43 = .ok (.invokevirtual 65, 3) := by decide +kernel
theorem dX7_request_46 : decode cX7_request 46 = .ok (.iload_n 2, 1) := by decide +kernel
theorem dX7_request_47 : decode cX7_request 47 = .ok (.if_icmp .eq 46, 3) := by decide +kernel
theorem dX7_request_50 : decode cX7_request 50 = .ok (.aload_n 0, 1) := by decide +kernel
theorem dX7_request_51 : decode cX7_request 51 = .ok (.iload_n 2, 1) := by decide +kernel
theorem dX7_request_52 : decode cX7_request 52 = .ok (.invokevirtual 51, 3) := by decide +kernel
theorem dX7_request_55 : decode cX7_request 55 = .ok (.ifCond .ne 38, 3) := by decide +kernel
theorem dX7_request_58 : decode cX7_request 58 = .ok (.aload_n 0, 1) := by decide +kernel
theorem dX7_request_59 : decode cX7_request 59 = .ok (.getfield 7, 3) := by decide +kernel
theorem dX7_request_62 : decode cX7_request 62 = .ok (.bipush 70, 2) := by decide +kernel
theorem dX7_request_64 : decode cX7_request 64 = .ok (.iload_n 2, 1) := by decide +kernel
theorem dX7_request_65 : decode cX7_request 65 = .ok (.iadd, 1) := by decide +kernel
theorem dX7_request_66 : decode cX7_request 66 = .ok (.iaload, 1) := by decide +kernel
theorem dX7_request_67 : decode cX7_request 67 = .ok (.aload_n 0, 1) := by decide +kernel
theorem dX7_request_68 : decode cX7_request 68 = .ok (.getfield 7, 3) := by decide +kernel
theorem dX7_request_71 : decode cX7_request 71 = .ok (.bipush 106, 2) := by decide +kernel
theorem dX7_request_73 : decode cX7_request 73 = .ok (.iaload, 1) := by decide +kernel
theorem dX7_request_74 : decode cX7_request 74 = .ok (.if_icmp .ge 19, 3) := by decide +kernel
theorem dX7_request_77 : decode cX7_request 77 = .ok (.aload_n 0, 1) := by decide +kernel
theorem dX7_request_78 : decode cX7_request 78 = .ok (.getfield 7, 3) := by decide +kernel
theorem dX7_request_81 : decode cX7_request 81 = .ok (.bipush 70, 2) := by decide +kernel
theorem dX7_request_83 : decode cX7_request 83 = .ok (.iload_n 2, 1) := by decide +kernel
theorem dX7_request_84 : decode cX7_request 84 = .ok (.iadd, 1) := by decide +kernel
theorem dX7_request_85 : decode cX7_request 85 = .ok (.aload_n 0, 1) := by decide +kernel
theorem dX7_request_86 : decode cX7_request 86 = .ok (.getfield 7, 3) := by decide +kernel
theorem dX7_request_89 : decode cX7_request 89 = .ok (.bipush 106, 2) := by decide +kernel
theorem dX7_request_91 : decode cX7_request 91 = .ok (.iaload, 1) := by decide +kernel
theorem dX7_request_92 : decode cX7_request 92 = .ok (.iastore, 1) := by decide +kernel
theorem dX7_request_93 : decode cX7_request 93 = .ok (.aload_n 0, 1) := by decide +kernel
theorem dX7_request_94 : decode cX7_request 94 = .ok (.getfield 7, 3) := by decide +kernel
theorem dX7_request_97 : decode cX7_request 97 = .ok (.iconst 0, 1) := by decide +kernel
theorem dX7_request_98 : decode cX7_request 98 = .ok (.iload_n 1, 1) := by decide +kernel
theorem dX7_request_99 : decode cX7_request 99 = .ok (.iadd, 1) := by decide +kernel
theorem dX7_request_100 : decode cX7_request 100 = .ok (.iconst 1, 1) := by decide +kernel
theorem dX7_request_101 : decode cX7_request 101 = .ok (.iastore, 1) := by decide +kernel
theorem dX7_request_102 : decode cX7_request 102 = .ok (.aload_n 0, 1) := by decide +kernel
theorem dX7_request_103 : decode cX7_request 103 = .ok (.getfield 7, 3) := by decide +kernel
theorem dX7_request_106 : decode cX7_request 106 = .ok (.bipush 12, 2) := by decide +kernel
theorem dX7_request_108 : decode cX7_request 108 = .ok (.iload_n 1, 1) := by decide +kernel
theorem dX7_request_109 : decode cX7_request 109 = .ok (.iadd, 1) := by decide +kernel
theorem dX7_request_110 : decode cX7_request 110 = .ok (.iload_n 2, 1) := by decide +kernel
theorem dX7_request_111 : decode cX7_request 111 = .ok (.iastore, 1) := by decide +kernel
theorem dX7_request_112 : decode cX7_request 112 = .ok (.aload_n 0, 1) := by decide +kernel
theorem dX7_request_113 : decode cX7_request 113 = .ok (.getfield 7, 3) := by decide +kernel
theorem dX7_request_116 : decode cX7_request 116 = .ok (.bipush 24, 2) := by decide +kernel
theorem dX7_request_118 : decode cX7_request 118 = .ok (.iload_n 1, 1) := by decide +kernel
theorem dX7_request_119 : decode cX7_request 119 = .ok (.iadd, 1) := by decide +kernel
theorem dX7_request_120 : decode cX7_request 120 = .ok (.aload_n 0, 1) := by decide +kernel
theorem dX7_request_121 : decode cX7_request 121 = .ok (.getfield 7, 3) := by decide +kernel
theorem dX7_request_124 : decode cX7_request 124 = .ok (.bipush 103, 2) := by decide +kernel
theorem dX7_request_126 : decode cX7_request 126 = .ok (.iaload, 1) := by decide +kernel
theorem dX7_request_127 : decode cX7_request 127 = .ok (.iastore, 1) := by decide +kernel
theorem dX7_request_128 : decode cX7_request 128 = .ok (.aload_n 0, 1) := by decide +kernel
theorem dX7_request_129 : decode cX7_request 129 = .ok (.getfield 7, 3) := by decide +kernel
theorem dX7_request_132 : decode cX7_request 132 = .ok (.bipush 36, 2) := by decide +kernel
theorem dX7_request_134 : decode cX7_request 134 = .ok (.iload_n 1, 1) := by decide +kernel
theorem dX7_request_135 : decode cX7_request 135 = .ok (.iadd, 1) := by decide +kernel
theorem dX7_request_136 : decode cX7_request 136 = .ok (.iload_n 3, 1) := by decide +kernel
theorem dX7_request_137 : decode cX7_request 137 = .ok (.iastore, 1) := by decide +kernel
theorem dX7_request_138 : decode cX7_request 138 = .ok (.aload_n 0, 1) := by decide +kernel
theorem dX7_request_139 : decode cX7_request 139 = .ok (.getfield 7, 3) := by decide +kernel
theorem dX7_request_142 : decode cX7_request 142 = .ok (.bipush 48, 2) := by decide +kernel
theorem dX7_request_144 : decode cX7_request 144 = .ok (.iload_n 1, 1) := by decide +kernel
theorem dX7_request_145 : decode cX7_request 145 = .ok (.iadd, 1) := by decide +kernel
theorem dX7_request_146 : decode cX7_request 146 = .ok (.aload_n 0, 1) := by decide +kernel
theorem dX7_request_147 : decode cX7_request 147 = .ok (.getfield 7, 3) := by decide +kernel
theorem dX7_request_150 : decode cX7_request 150 = .ok (.bipush 107, 2) := by decide +kernel
theorem dX7_request_152 : decode cX7_request 152 = .ok (.iaload, 1) := by decide +kernel
theorem dX7_request_153 : decode cX7_request 153 = .ok (.iastore, 1) := by decide +kernel
theorem dX7_request_154 : decode cX7_request 154 = .ok (.aload_n 0, 1) := by decide +kernel
theorem dX7_request_155 : decode cX7_request 155 = .ok (.getfield 7, 3) := by decide +kernel
theorem dX7_request_158 : decode cX7_request 158 = .ok (.bipush 107, 2) := by decide +kernel
theorem dX7_request_160 : decode cX7_request 160 = .ok (.dup2, 1) := by decide +kernel
theorem dX7_request_161 : decode cX7_request 161 = .ok (.iaload, 1) := by decide +kernel
theorem dX7_request_162 : decode cX7_request 162 = .ok (.iconst 1, 1) := by decide +kernel
theorem dX7_request_163 : decode cX7_request 163 = .ok (.iadd, 1) := by decide +kernel
theorem dX7_request_164 : decode cX7_request 164 = .ok (.iastore, 1) := by decide +kernel
theorem dX7_request_165 : decode cX7_request 165 = .ok (.aload_n 0, 1) := by decide +kernel
theorem dX7_request_166 : decode cX7_request 166 = .ok (.invokevirtual 85, 3) := by decide +kernel
theorem dX7_request_169 : decode cX7_request 169 = .ok (.aload_n 0, 1) := by decide +kernel
theorem dX7_request_170 : decode cX7_request 170 = .ok (.getfield 7, 3) := by decide +kernel
theorem dX7_request_173 : decode cX7_request 173 = .ok (.iconst 0, 1) := by decide +kernel
theorem dX7_request_174 : decode cX7_request 174 = .ok (.iload_n 1, 1) := by decide +kernel
theorem dX7_request_175 : decode cX7_request 175 = .ok (.iadd, 1) := by decide +kernel
theorem dX7_request_176 : decode cX7_request 176 = .ok (.iaload, 1) := by decide +kernel
theorem dX7_request_177 : decode cX7_request 177 = .ok (.ireturn, 1) := by decide +kernel
theorem dX7_withdraw_0 : decode cX7_withdraw 0 = .ok (.iload_n 1, 1) := by decide +kernel
theorem dX7_withdraw_1 : decode cX7_withdraw 1 = .ok (.invokestatic 91, 3) := by decide +kernel
theorem dX7_withdraw_4 : decode cX7_withdraw 4 = .ok (.ifCond .ne 6, 3) := by decide +kernel
theorem dX7_withdraw_7 : decode cX7_withdraw 7 = .ok (.bipush (-2), 2) := by decide +kernel
theorem dX7_withdraw_9 : decode cX7_withdraw 9 = .ok (.ireturn, 1) := by decide +kernel
theorem dX7_withdraw_10 : decode cX7_withdraw 10 = .ok (.aload_n 0, 1) := by decide +kernel
theorem dX7_withdraw_11 : decode cX7_withdraw 11 = .ok (.getfield 7, 3) := by decide +kernel
theorem dX7_withdraw_14 : decode cX7_withdraw 14 = .ok (.iconst 0, 1) := by decide +kernel
theorem dX7_withdraw_15 : decode cX7_withdraw 15 = .ok (.iload_n 1, 1) := by decide +kernel
theorem dX7_withdraw_16 : decode cX7_withdraw 16 = .ok (.iadd, 1) := by decide +kernel
theorem dX7_withdraw_17 : decode cX7_withdraw 17 = .ok (.iaload, 1) := by decide +kernel
theorem dX7_withdraw_18 : decode cX7_withdraw 18 = .ok (.iconst 1, 1) := by decide +kernel
theorem dX7_withdraw_19 : decode cX7_withdraw 19 = .ok (.if_icmp .eq 6, 3) := by decide +kernel
theorem dX7_withdraw_22 : decode cX7_withdraw 22 = .ok (.bipush (-3), 2) := by decide +kernel
theorem dX7_withdraw_24 : decode cX7_withdraw 24 = .ok (.ireturn, 1) := by decide +kernel
theorem dX7_withdraw_25 : decode cX7_withdraw 25 = .ok (.aload_n 0, 1) := by decide +kernel
theorem dX7_withdraw_26 : decode cX7_withdraw 26 = .ok (.getfield 7, 3) := by decide +kernel
theorem dX7_withdraw_29 : decode cX7_withdraw 29 = .ok (.bipush 103, 2) := by decide +kernel
theorem dX7_withdraw_31 : decode cX7_withdraw 31 = .ok (.iaload, 1) := by decide +kernel
theorem dX7_withdraw_32 : decode cX7_withdraw 32 = .ok (.aload_n 0, 1) := by decide +kernel
theorem dX7_withdraw_33 : decode cX7_withdraw 33 = .ok (.getfield 7, 3) := by decide +kernel
theorem dX7_withdraw_36 : decode cX7_withdraw 36 = .ok (.bipush 24, 2) := by decide +kernel
theorem dX7_withdraw_38 : decode cX7_withdraw 38 = .ok (.iload_n 1, 1) := by decide +kernel
theorem dX7_withdraw_39 : decode cX7_withdraw 39 = .ok (.iadd, 1) := by decide +kernel
theorem dX7_withdraw_40 : decode cX7_withdraw 40 = .ok (.iaload, 1) := by decide +kernel
theorem dX7_withdraw_41 : decode cX7_withdraw 41 = .ok (.isub, 1) := by decide +kernel
theorem dX7_withdraw_42 : decode cX7_withdraw 42 = .ok (.istore_n 2, 1) := by decide +kernel
theorem dX7_withdraw_43 : decode cX7_withdraw 43 = .ok (.aload_n 0, 1) := by decide +kernel
theorem dX7_withdraw_44 : decode cX7_withdraw 44 = .ok (.iload_n 1, 1) := by decide +kernel
theorem dX7_withdraw_45 : decode cX7_withdraw 45 = .ok (.invokevirtual 35, 3) := by decide +kernel
theorem dX7_withdraw_48 : decode cX7_withdraw 48 = .ok (.aload_n 0, 1) := by decide +kernel
theorem dX7_withdraw_49 : decode cX7_withdraw 49 = .ok (.invokevirtual 85, 3) := by decide +kernel
theorem dX7_withdraw_52 : decode cX7_withdraw 52 = .ok (.iload_n 2, 1) := by decide +kernel
theorem dX7_withdraw_53 : decode cX7_withdraw 53 = .ok (.ireturn, 1) := by decide +kernel
theorem dX7_leave_0 : decode cX7_leave 0 = .ok (.iload_n 1, 1) := by decide +kernel
theorem dX7_leave_1 : decode cX7_leave 1 = .ok (.invokestatic 91, 3) := by decide +kernel
theorem dX7_leave_4 : decode cX7_leave 4 = .ok (.ifCond .ne 6, 3) := by decide +kernel
theorem dX7_leave_7 : decode cX7_leave 7 = .ok (.bipush (-2), 2) := by decide +kernel
theorem dX7_leave_9 : decode cX7_leave 9 = .ok (.ireturn, 1) := by decide +kernel
theorem dX7_leave_10 : decode cX7_leave 10 = .ok (.aload_n 0, 1) := by decide +kernel
theorem dX7_leave_11 : decode cX7_leave 11 = .ok (.getfield 7, 3) := by decide +kernel
theorem dX7_leave_14 : decode cX7_leave 14 = .ok (.iconst 0, 1) := by decide +kernel
theorem dX7_leave_15 : decode cX7_leave 15 = .ok (.iload_n 1, 1) := by decide +kernel
theorem dX7_leave_16 : decode cX7_leave 16 = .ok (.iadd, 1) := by decide +kernel
theorem dX7_leave_17 : decode cX7_leave 17 = .ok (.iaload, 1) := by decide +kernel
theorem dX7_leave_18 : decode cX7_leave 18 = .ok (.iconst 2, 1) := by decide +kernel
theorem dX7_leave_19 : decode cX7_leave 19 = .ok (.if_icmp .eq 6, 3) := by decide +kernel
theorem dX7_leave_22 : decode cX7_leave 22 = .ok (.bipush (-3), 2) := by decide +kernel
theorem dX7_leave_24 : decode cX7_leave 24 = .ok (.ireturn, 1) := by decide +kernel
theorem dX7_leave_25 : decode cX7_leave 25 = .ok (.aload_n 0, 1) := by decide +kernel
theorem dX7_leave_26 : decode cX7_leave 26 = .ok (.getfield 7, 3) := by decide +kernel
theorem dX7_leave_29 : decode cX7_leave 29 = .ok (.bipush 36, 2) := by decide +kernel
theorem dX7_leave_31 : decode cX7_leave 31 = .ok (.iload_n 1, 1) := by decide +kernel
theorem dX7_leave_32 : decode cX7_leave 32 = .ok (.iadd, 1) := by decide +kernel
theorem dX7_leave_33 : decode cX7_leave 33 = .ok (.iaload, 1) := by decide +kernel
theorem dX7_leave_34 : decode cX7_leave 34 = .ok (.istore_n 2, 1) := by decide +kernel
theorem dX7_leave_35 : decode cX7_leave 35 = .ok (.aload_n 0, 1) := by decide +kernel
theorem dX7_leave_36 : decode cX7_leave 36 = .ok (.getfield 7, 3) := by decide +kernel
theorem dX7_leave_39 : decode cX7_leave 39 = .ok (.bipush 12, 2) := by decide +kernel
theorem dX7_leave_41 : decode cX7_leave 41 = .ok (.iload_n 1, 1) := by decide +kernel
theorem dX7_leave_42 : decode cX7_leave 42 = .ok (.iadd, 1) := by decide +kernel
theorem dX7_leave_43 : decode cX7_leave 43 = .ok (.iaload, 1) := by decide +kernel
theorem dX7_leave_44 : decode cX7_leave 44 = .ok (.istore_n 3, 1) := by decide +kernel
theorem dX7_leave_45 : decode cX7_leave 45 = .ok (.aload_n 0, 1) := by decide +kernel
theorem dX7_leave_46 : decode cX7_leave 46 = .ok (.iload_n 1, 1) := by decide +kernel
theorem dX7_leave_47 : decode cX7_leave 47 = .ok (.invokevirtual 35, 3) := by decide +kernel
theorem dX7_leave_50 : decode cX7_leave 50 = .ok (.aload_n 0, 1) := by decide +kernel
theorem dX7_leave_51 : decode cX7_leave 51 = .ok (.iconst 2, 1) := by decide +kernel
theorem dX7_leave_52 : decode cX7_leave 52 = .ok (.iload_n 1, 1) := by decide +kernel
theorem dX7_leave_53 : decode cX7_leave 53 = .ok (.iload_n 3, 1) := by decide +kernel
theorem dX7_leave_54 : decode cX7_leave 54 = .ok (.invokevirtual 58, 3) := by decide +kernel
theorem dX7_leave_57 : decode cX7_leave 57 = .ok (.aload_n 0, 1) := by decide +kernel
theorem dX7_leave_58 : decode cX7_leave 58 = .ok (.invokevirtual 85, 3) := by decide +kernel
theorem dX7_leave_61 : decode cX7_leave 61 = .ok (.iload_n 2, 1) := by decide +kernel
theorem dX7_leave_62 : decode cX7_leave 62 = .ok (.ireturn, 1) := by decide +kernel
theorem dX7_collapse_0 : decode cX7_collapse 0 = .ok (.iload_n 1, 1) := by decide +kernel
theorem dX7_collapse_1 : decode cX7_collapse 1 = .ok (.invokestatic 91, 3) := by decide +kernel
theorem dX7_collapse_4 : decode cX7_collapse 4 = .ok (.ifCond .ne 6, 3) := by decide +kernel
theorem dX7_collapse_7 : decode cX7_collapse 7 = .ok (.bipush (-2), 2) := by decide +kernel
theorem dX7_collapse_9 : decode cX7_collapse 9 = .ok (.ireturn, 1) := by decide +kernel
theorem dX7_collapse_10 : decode cX7_collapse 10 = .ok (.aload_n 0, 1) := by decide +kernel
theorem dX7_collapse_11 : decode cX7_collapse 11 = .ok (.getfield 7, 3) := by decide +kernel
theorem dX7_collapse_14 : decode cX7_collapse 14 = .ok (.iconst 0, 1) := by decide +kernel
theorem dX7_collapse_15 : decode cX7_collapse 15 = .ok (.iload_n 1, 1) := by decide +kernel
theorem dX7_collapse_16 : decode cX7_collapse 16 = .ok (.iadd, 1) := by decide +kernel
theorem dX7_collapse_17 : decode cX7_collapse 17 = .ok (.iaload, 1) := by decide +kernel
theorem dX7_collapse_18 : decode cX7_collapse 18 = .ok (.iconst 2, 1) := by decide +kernel
theorem dX7_collapse_19 : decode cX7_collapse 19 = .ok (.if_icmp .eq 6, 3) := by decide +kernel
theorem dX7_collapse_22 : decode cX7_collapse 22 = .ok (.bipush (-3), 2) := by decide +kernel
theorem dX7_collapse_24 : decode cX7_collapse 24 = .ok (.ireturn, 1) := by decide +kernel
theorem dX7_collapse_25 : decode cX7_collapse 25 = .ok (.aload_n 0, 1) := by decide +kernel
theorem dX7_collapse_26 : decode cX7_collapse 26 = .ok (.getfield 7, 3) := by decide +kernel
theorem dX7_collapse_29 : decode cX7_collapse 29 = .ok (.bipush 36, 2) := by decide +kernel
theorem dX7_collapse_31 : decode cX7_collapse 31 = .ok (.iload_n 1, 1) := by decide +kernel
theorem dX7_collapse_32 : decode cX7_collapse 32 = .ok (.iadd, 1) := by decide +kernel
theorem dX7_collapse_33 : decode cX7_collapse 33 = .ok (.iaload, 1) := by decide +kernel
theorem dX7_collapse_34 : decode cX7_collapse 34 = .ok (.istore_n 2, 1) := by decide +kernel
theorem dX7_collapse_35 : decode cX7_collapse 35 = .ok (.aload_n 0, 1) := by decide +kernel
theorem dX7_collapse_36 : decode cX7_collapse 36 = .ok (.getfield 7, 3) := by decide +kernel
theorem dX7_collapse_39 : decode cX7_collapse 39 = .ok (.iconst 0, 1) := by decide +kernel
theorem dX7_collapse_40 : decode cX7_collapse 40 = .ok (.iload_n 1, 1) := by decide +kernel
theorem dX7_collapse_41 : decode cX7_collapse 41 = .ok (.iadd, 1) := by decide +kernel
theorem dX7_collapse_42 : decode cX7_collapse 42 = .ok (.iconst 3, 1) := by decide +kernel
theorem dX7_collapse_43 : decode cX7_collapse 43 = .ok (.iastore, 1) := by decide +kernel
theorem dX7_collapse_44 : decode cX7_collapse 44 = .ok (.aload_n 0, 1) := by decide +kernel
theorem dX7_collapse_45 : decode cX7_collapse 45 = .ok (.getfield 7, 3) := by decide +kernel
