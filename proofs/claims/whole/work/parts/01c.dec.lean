theorem dX2_kept_6 : decode cX2_kept 6 = .ok (.invokestatic 19, 3) := by decide +kernel
theorem dX2_kept_9 : decode cX2_kept 9 = .ok (.ireturn, 1) := by decide +kernel
theorem dX2_part_0 : decode cX2_part 0 = .ok (.iload_n 1, 1) := by decide +kernel
theorem dX2_part_1 : decode cX2_part 1 = .ok (.aload_n 0, 1) := by decide +kernel
theorem dX2_part_2 : decode cX2_part 2 = .ok (.invokevirtual 25, 3) := by decide +kernel
theorem dX2_part_5 : decode cX2_part 5 = .ok (.if_icmp .lt 5, 3) := by decide +kernel
theorem dX2_part_8 : decode cX2_part 8 = .ok (.iconst (-1), 1) := by decide +kernel
theorem dX2_part_9 : decode cX2_part 9 = .ok (.ireturn, 1) := by decide +kernel
theorem dX2_part_10 : decode cX2_part 10 = .ok (.aload_n 0, 1) := by decide +kernel
theorem dX2_part_11 : decode cX2_part 11 = .ok (.getfield 15, 3) := by decide +kernel
theorem dX2_part_14 : decode cX2_part 14 = .ok (.aload_n 0, 1) := by decide +kernel
theorem dX2_part_15 : decode cX2_part 15 = .ok (.invokevirtual 25, 3) := by decide +kernel
theorem dX2_part_18 : decode cX2_part 18 = .ok (.isub, 1) := by decide +kernel
theorem dX2_part_19 : decode cX2_part 19 = .ok (.iload_n 1, 1) := by decide +kernel
theorem dX2_part_20 : decode cX2_part 20 = .ok (.iadd, 1) := by decide +kernel
theorem dX2_part_21 : decode cX2_part 21 = .ok (.istore_n 3, 1) := by decide +kernel
theorem dX2_part_22 : decode cX2_part 22 = .ok (.aload_n 0, 1) := by decide +kernel
theorem dX2_part_23 : decode cX2_part 23 = .ok (.getfield 11, 3) := by decide +kernel
theorem dX2_part_26 : decode cX2_part 26 = .ok (.iload_n 3, 1) := by decide +kernel
theorem dX2_part_27 : decode cX2_part 27 = .ok (.bipush 40, 2) := by decide +kernel
theorem dX2_part_29 : decode cX2_part 29 = .ok (.irem, 1) := by decide +kernel
theorem dX2_part_30 : decode cX2_part 30 = .ok (.iconst 4, 1) := by decide +kernel
theorem dX2_part_31 : decode cX2_part 31 = .ok (.imul, 1) := by decide +kernel
theorem dX2_part_32 : decode cX2_part 32 = .ok (.iload_n 2, 1) := by decide +kernel
theorem dX2_part_33 : decode cX2_part 33 = .ok (.iadd, 1) := by decide +kernel
theorem dX2_part_34 : decode cX2_part 34 = .ok (.iaload, 1) := by decide +kernel
theorem dX2_part_35 : decode cX2_part 35 = .ok (.ireturn, 1) := by decide +kernel
theorem dX2_copyFrom_0 : decode cX2_copyFrom 0 = .ok (.aload_n 0, 1) := by decide +kernel
theorem dX2_copyFrom_1 : decode cX2_copyFrom 1 = .ok (.aload_n 1, 1) := by decide +kernel
theorem dX2_copyFrom_2 : decode cX2_copyFrom 2 = .ok (.getfield 15, 3) := by decide +kernel
theorem dX2_copyFrom_5 : decode cX2_copyFrom 5 = .ok (.putfield 15, 3) := by decide +kernel
theorem dX2_copyFrom_8 : decode cX2_copyFrom 8 = .ok (.aload_n 1, 1) := by decide +kernel
theorem dX2_copyFrom_9 : decode cX2_copyFrom 9 = .ok (.getfield 11, 3) := by decide +kernel
theorem dX2_copyFrom_12 : decode cX2_copyFrom 12 = .ok (.iconst 0, 1) := by decide +kernel
theorem dX2_copyFrom_13 : decode cX2_copyFrom 13 = .ok (.aload_n 0, 1) := by decide +kernel
theorem dX2_copyFrom_14 : decode cX2_copyFrom 14 = .ok (.getfield 11, 3) := by decide +kernel
theorem dX2_copyFrom_17 : decode cX2_copyFrom 17 = .ok (.iconst 0, 1) := by decide +kernel
theorem dX2_copyFrom_18 : decode cX2_copyFrom 18 = .ok (.aload_n 0, 1) := by decide +kernel
theorem dX2_copyFrom_19 : decode cX2_copyFrom 19 = .ok (.getfield 11, 3) := by decide +kernel
theorem dX2_copyFrom_22 : decode cX2_copyFrom 22 = .ok (.arraylength, 1) := by decide +kernel
theorem dX2_copyFrom_23 : decode cX2_copyFrom 23 = .ok (.invokestatic 29, 3) := by decide +kernel
theorem dX2_copyFrom_26 : decode cX2_copyFrom 26 = .ok (.return_, 1) := by decide +kernel
theorem dX3_init_0 : decode cX3_init 0 = .ok (.aload_n 0, 1) := by decide +kernel
theorem dX3_init_1 : decode cX3_init 1 = .ok (.invokespecial 3, 3) := by decide +kernel
theorem dX3_init_4 : decode cX3_init 4 = .ok (.aload_n 0, 1) := by decide +kernel
theorem dX3_init_5 : decode cX3_init 5 = .ok (.iconst 0, 1) := by decide +kernel
theorem dX3_init_6 : decode cX3_init 6 = .ok (.putfield 9, 3) := by decide +kernel
theorem dX3_init_9 : decode cX3_init 9 = .ok (.aload_n 0, 1) := by decide +kernel
theorem dX3_init_10 : decode cX3_init 10 = .ok (.iconst (-1), 1) := by decide +kernel
theorem dX3_init_11 : decode cX3_init 11 = .ok (.putfield 15, 3) := by decide +kernel
theorem dX3_init_14 : decode cX3_init 14 = .ok (.aload_n 0, 1) := by decide +kernel
theorem dX3_init_15 : decode cX3_init 15 = .ok (.iconst (-1), 1) := by decide +kernel
theorem dX3_init_16 : decode cX3_init 16 = .ok (.putfield 18, 3) := by decide +kernel
theorem dX3_init_19 : decode cX3_init 19 = .ok (.aload_n 0, 1) := by decide +kernel
theorem dX3_init_20 : decode cX3_init 20 = .ok (.iconst 0, 1) := by decide +kernel
theorem dX3_init_21 : decode cX3_init 21 = .ok (.putfield 21, 3) := by decide +kernel
theorem dX3_init_24 : decode cX3_init 24 = .ok (.return_, 1) := by decide +kernel
theorem dX3_become_0 : decode cX3_become 0 = .ok (.aload_n 0, 1) := by decide +kernel
theorem dX3_become_1 : decode cX3_become 1 = .ok (.iload_n 1, 1) := by decide +kernel
theorem dX3_become_2 : decode cX3_become 2 = .ok (.putfield 9, 3) := by decide +kernel
theorem dX3_become_5 : decode cX3_become 5 = .ok (.aload_n 0, 1) := by decide +kernel
theorem dX3_become_6 : decode cX3_become 6 = .ok (.iload_n 2, 1) := by decide +kernel
theorem dX3_become_7 : decode cX3_become 7 = .ok (.putfield 15, 3) := by decide +kernel
theorem dX3_become_10 : decode cX3_become 10 = .ok (.aload_n 0, 1) := by decide +kernel
theorem dX3_become_11 : decode cX3_become 11 = .ok (.iload_n 3, 1) := by decide +kernel
theorem dX3_become_12 : decode cX3_become 12 = .ok (.putfield 18, 3) := by decide +kernel
theorem dX3_become_15 : decode cX3_become 15 = .ok (.aload_n 0, 1) := by decide +kernel
theorem dX3_become_16 : decode cX3_become 16 = .ok (.iload 4, 2) := by decide +kernel
theorem dX3_become_18 : decode cX3_become 18 = .ok (.putfield 21, 3) := by decide +kernel
theorem dX3_become_21 : decode cX3_become 21 = .ok (.return_, 1) := by decide +kernel
theorem dX3_copyFrom_0 : decode cX3_copyFrom 0 = .ok (.aload_n 0, 1) := by decide +kernel
theorem dX3_copyFrom_1 : decode cX3_copyFrom 1 = .ok (.aload_n 1, 1) := by decide +kernel
theorem dX3_copyFrom_2 : decode cX3_copyFrom 2 = .ok (.getfield 9, 3) := by decide +kernel
theorem dX3_copyFrom_5 : decode cX3_copyFrom 5 = .ok (.aload_n 1, 1) := by decide +kernel
theorem dX3_copyFrom_6 : decode cX3_copyFrom 6 = .ok (.getfield 15, 3) := by decide +kernel
theorem dX3_copyFrom_9 : decode cX3_copyFrom 9 = .ok (.aload_n 1, 1) := by decide +kernel
theorem dX3_copyFrom_10 : decode cX3_copyFrom 10 = .ok (.getfield 18, 3) := by decide +kernel
theorem dX3_copyFrom_13 : decode cX3_copyFrom 13 = .ok (.aload_n 1, 1) := by decide +kernel
theorem dX3_copyFrom_14 : decode cX3_copyFrom 14 = .ok (.getfield 21, 3) := by decide +kernel
theorem dX3_copyFrom_17 : decode cX3_copyFrom 17 = .ok (.invokevirtual 24, 3) := by decide +kernel
theorem dX3_copyFrom_20 : decode cX3_copyFrom 20 = .ok (.return_, 1) := by decide +kernel
theorem dX4_init_0 : decode cX4_init 0 = .ok (.aload_n 0, 1) := by decide +kernel
theorem dX4_init_1 : decode cX4_init 1 = .ok (.invokespecial 1, 3) := by decide +kernel
theorem dX4_init_4 : decode cX4_init 4 = .ok (.aload_n 0, 1) := by decide +kernel
theorem dX4_init_5 : decode cX4_init 5 = .ok (.iconst 3, 1) := by decide +kernel
theorem dX4_init_6 : decode cX4_init 6 = .ok (.putfield 7, 3) := by decide +kernel
theorem dX4_init_9 : decode cX4_init 9 = .ok (.aload_n 0, 1) := by decide +kernel
theorem dX4_init_10 : decode cX4_init 10 = .ok (.iconst 1, 1) := by decide +kernel
theorem dX4_init_11 : decode cX4_init 11 = .ok (.putfield 13, 3) := by decide +kernel
theorem dX4_init_14 : decode cX4_init 14 = .ok (.aload_n 0, 1) := by decide +kernel
theorem dX4_init_15 : decode cX4_init 15 = .ok (.iconst 0, 1) := by decide +kernel
theorem dX4_init_16 : decode cX4_init 16 = .ok (.putfield 16, 3) := by decide +kernel
theorem dX4_init_19 : decode cX4_init 19 = .ok (.aload_n 0, 1) := by decide +kernel
theorem dX4_init_20 : decode cX4_init 20 = .ok (.iconst 0, 1) := by decide +kernel
theorem dX4_init_21 : decode cX4_init 21 = .ok (.putfield 19, 3) := by decide +kernel
theorem dX4_init_24 : decode cX4_init 24 = .ok (.aload_n 0, 1) := by decide +kernel
theorem dX4_init_25 : decode cX4_init 25 = .ok (.iconst 0, 1) := by decide +kernel
theorem dX4_init_26 : decode cX4_init 26 = .ok (.putfield 22, 3) := by decide +kernel
theorem dX4_init_29 : decode cX4_init 29 = .ok (.aload_n 0, 1) := by decide +kernel
theorem dX4_init_30 : decode cX4_init 30 = .ok (.iconst 0, 1) := by decide +kernel
theorem dX4_init_31 : decode cX4_init 31 = .ok (.putfield 25, 3) := by decide +kernel
theorem dX4_init_34 : decode cX4_init 34 = .ok (.aload_n 0, 1) := by decide +kernel
theorem dX4_init_35 : decode cX4_init 35 = .ok (.iconst 0, 1) := by decide +kernel
theorem dX4_init_36 : decode cX4_init 36 = .ok (.putfield 28, 3) := by decide +kernel
theorem dX4_init_39 : decode cX4_init 39 = .ok (.aload_n 0, 1) := by decide +kernel
theorem dX4_init_40 : decode cX4_init 40 = .ok (.iconst 0, 1) := by decide +kernel
theorem dX4_init_41 : decode cX4_init 41 = .ok (.putfield 31, 3) := by decide +kernel
theorem dX4_init_44 : decode cX4_init 44 = .ok (.aload_n 0, 1) := by decide +kernel
theorem dX4_init_45 : decode cX4_init 45 = .ok (.iconst 0, 1) := by decide +kernel
theorem dX4_init_46 : decode cX4_init 46 = .ok (.putfield 34, 3) := by decide +kernel
theorem dX4_init_49 : decode cX4_init 49 = .ok (.return_, 1) := by decide +kernel
theorem dX4_byShare_0 : decode cX4_byShare 0 = .ok (.aload_n 0, 1) := by decide +kernel
theorem dX4_byShare_1 : decode cX4_byShare 1 = .ok (.getfield 13, 3) := by decide +kernel
theorem dX4_byShare_4 : decode cX4_byShare 4 = .ok (.iconst 1, 1) := by decide +kernel
theorem dX4_byShare_5 : decode cX4_byShare 5 = .ok (.if_icmp .ge 7, 3) := by decide +kernel
theorem dX4_byShare_8 : decode cX4_byShare 8 = .ok (.iload_n 1, 1) := by decide +kernel
theorem dX4_byShare_9 : decode cX4_byShare 9 = .ok (.goto 9, 3) := by decide +kernel
theorem dX4_byShare_12 : decode cX4_byShare 12 = .ok (.iload_n 1, 1) := by decide +kernel
theorem dX4_byShare_13 : decode cX4_byShare 13 = .ok (.aload_n 0, 1) := by decide +kernel
theorem dX4_byShare_14 : decode cX4_byShare 14 = .ok (.getfield 13, 3) := by decide +kernel
theorem dX4_byShare_17 : decode cX4_byShare 17 = .ok (.idiv, 1) := by decide +kernel
theorem dX4_byShare_18 : decode cX4_byShare 18 = .ok (.ireturn, 1) := by decide +kernel
theorem dX4_countEntry_0 : decode cX4_countEntry 0 = .ok (.aload_n 0, 1) := by decide +kernel
theorem dX4_countEntry_1 : decode cX4_countEntry 1 = .ok (.dup, 1) := by decide +kernel
theorem dX4_countEntry_2 : decode cX4_countEntry 2 = .ok (.getfield 19, 3) := by decide +kernel
theorem dX4_countEntry_5 : decode cX4_countEntry 5 = .ok (.iconst 1, 1) := by decide +kernel
theorem dX4_countEntry_6 : decode cX4_countEntry 6 = .ok (.iadd, 1) := by decide +kernel
theorem dX4_countEntry_7 : decode cX4_countEntry 7 = .ok (.putfield 19, 3) := by decide +kernel
theorem dX4_countEntry_10 : decode cX4_countEntry 10 = .ok (.aload_n 0, 1) := by decide +kernel
theorem dX4_countEntry_11 : decode cX4_countEntry 11 = .ok (.dup, 1) := by decide +kernel
theorem dX4_countEntry_12 : decode cX4_countEntry 12 = .ok (.getfield 25, 3) := by decide +kernel
theorem dX4_countEntry_15 : decode cX4_countEntry 15 = .ok (.iconst 1, 1) := by decide +kernel
theorem dX4_countEntry_16 : decode cX4_countEntry 16 = .ok (.iadd, 1) := by decide +kernel
theorem dX4_countEntry_17 : decode cX4_countEntry 17 = .ok (.putfield 25, 3) := by decide +kernel
theorem dX4_countEntry_20 : decode cX4_countEntry 20 = .ok (.aload_n 0, 1) := by decide +kernel
theorem dX4_countEntry_21 : decode cX4_countEntry 21 = .ok (.dup, 1) := by decide +kernel
theorem dX4_countEntry_22 : decode cX4_countEntry 22 = .ok (.getfield 31, 3) := by decide +kernel
theorem dX4_countEntry_25 : decode cX4_countEntry 25 = .ok (.iload_n 1, 1) := by decide +kernel
theorem dX4_countEntry_26 : decode cX4_countEntry 26 = .ok (.iadd, 1) := by decide +kernel
theorem dX4_countEntry_27 : decode cX4_countEntry 27 = .ok (.putfield 31, 3) := by decide +kernel
theorem dX4_countEntry_30 : decode cX4_countEntry 30 = .ok (.aload_n 0, 1) := by decide +kernel
theorem dX4_countEntry_31 : decode cX4_countEntry 31 = .ok (.aload_n 0, 1) := by decide +kernel
theorem dX4_countEntry_32 : decode cX4_countEntry 32 = .ok (.getfield 34, 3) := by decide +kernel
theorem dX4_countEntry_35 : decode cX4_countEntry 35 = .ok (.iload_n 1, 1) := by decide +kernel
theorem dX4_countEntry_36 : decode cX4_countEntry 36 = .ok (.invokestatic 37, 3) := by decide +kernel
theorem dX4_countEntry_39 : decode cX4_countEntry 39 = .ok (.putfield 34, 3) := by decide +kernel
theorem dX4_countEntry_42 : decode cX4_countEntry 42 = .ok (.return_, 1) := by decide +kernel
theorem dX4_copyFrom_0 : decode cX4_copyFrom 0 = .ok (.aload_n 0, 1) := by decide +kernel
theorem dX4_copyFrom_1 : decode cX4_copyFrom 1 = .ok (.aload_n 1, 1) := by decide +kernel
theorem dX4_copyFrom_2 : decode cX4_copyFrom 2 = .ok (.getfield 7, 3) := by decide +kernel
theorem dX4_copyFrom_5 : decode cX4_copyFrom 5 = .ok (.putfield 7, 3) := by decide +kernel
theorem dX4_copyFrom_8 : decode cX4_copyFrom 8 = .ok (.aload_n 0, 1) := by decide +kernel
theorem dX4_copyFrom_9 : decode cX4_copyFrom 9 = .ok (.aload_n 1, 1) := by decide +kernel
theorem dX4_copyFrom_10 : decode cX4_copyFrom 10 = .ok (.getfield 13, 3) := by decide +kernel
theorem dX4_copyFrom_13 : decode cX4_copyFrom 13 = .ok (.putfield 13, 3) := by decide +kernel
theorem dX4_copyFrom_16 : decode cX4_copyFrom 16 = .ok (.aload_n 0, 1) := by decide +kernel
theorem dX4_copyFrom_17 : decode cX4_copyFrom 17 = .ok (.aload_n 1, 1) := by decide +kernel
theorem dX4_copyFrom_18 : decode cX4_copyFrom 18 = .ok (.getfield 16, 3) := by decide +kernel
theorem dX4_copyFrom_21 : decode cX4_copyFrom 21 = .ok (.putfield 16, 3) := by decide +kernel
theorem dX4_copyFrom_24 : decode cX4_copyFrom 24 = .ok (.aload_n 0, 1) := by decide +kernel
theorem dX4_copyFrom_25 : decode cX4_copyFrom 25 = .ok (.aload_n 1, 1) := by decide +kernel
theorem dX4_copyFrom_26 : decode cX4_copyFrom 26 = .ok (.getfield 19, 3) := by decide +kernel
theorem dX4_copyFrom_29 : decode cX4_copyFrom 29 = .ok (.putfield 19, 3) := by decide +kernel
theorem dX4_copyFrom_32 : decode cX4_copyFrom 32 = .ok (.aload_n 0, 1) := by decide +kernel
theorem dX4_copyFrom_33 : decode cX4_copyFrom 33 = .ok (.aload_n 1, 1) := by decide +kernel
theorem dX4_copyFrom_34 : decode cX4_copyFrom 34 = .ok (.getfield 22, 3) := by decide +kernel
theorem dX4_copyFrom_37 : decode cX4_copyFrom 37 = .ok (.putfield 22, 3) := by decide +kernel
theorem dX4_copyFrom_40 : decode cX4_copyFrom 40 = .ok (.aload_n 0, 1) := by decide +kernel
theorem dX4_copyFrom_41 : decode cX4_copyFrom 41 = .ok (.aload_n 1, 1) := by decide +kernel
theorem dX4_copyFrom_42 : decode cX4_copyFrom 42 = .ok (.getfield 25, 3) := by decide +kernel
theorem dX4_copyFrom_45 : decode cX4_copyFrom 45 = .ok (.putfield 25, 3) := by decide +kernel
theorem dX4_copyFrom_48 : decode cX4_copyFrom 48 = .ok (.aload_n 0, 1) := by decide +kernel
theorem dX4_copyFrom_49 : decode cX4_copyFrom 49 = .ok (.aload_n 1, 1) := by decide +kernel
theorem dX4_copyFrom_50 : decode cX4_copyFrom 50 = .ok (.getfield 28, 3) := by decide +kernel
theorem dX4_copyFrom_53 : decode cX4_copyFrom 53 = .ok (.putfield 28, 3) := by decide +kernel
theorem dX4_copyFrom_56 : decode cX4_copyFrom 56 = .ok (.aload_n 0, 1) := by decide +kernel
theorem dX4_copyFrom_57 : decode cX4_copyFrom 57 = .ok (.aload_n 1, 1) := by decide +kernel
theorem dX4_copyFrom_58 : decode cX4_copyFrom 58 = .ok (.getfield 31, 3) := by decide +kernel
theorem dX4_copyFrom_61 : decode cX4_copyFrom 61 = .ok (.putfield 31, 3) := by decide +kernel
theorem dX4_copyFrom_64 : decode cX4_copyFrom 64 = .ok (.aload_n 0, 1) := by decide +kernel
theorem dX4_copyFrom_65 : decode cX4_copyFrom 65 = .ok (.aload_n 1, 1) := by decide +kernel
theorem dX4_copyFrom_66 : decode cX4_copyFrom 66 = .ok (.getfield 34, 3) := by decide +kernel
theorem dX4_copyFrom_69 : decode cX4_copyFrom 69 = .ok (.putfield 34, 3) := by decide +kernel
theorem dX4_copyFrom_72 : decode cX4_copyFrom 72 = .ok (.return_, 1) := by decide +kernel
theorem dX5_init_0 : decode cX5_init 0 = .ok (.aload_n 0, 1) := by decide +kernel
theorem dX5_init_1 : decode cX5_init 1 = .ok (.invokespecial 3, 3) := by decide +kernel
theorem dX5_init_4 : decode cX5_init 4 = .ok (.aload_n 0, 1) := by decide +kernel
theorem dX5_init_5 : decode cX5_init 5 = .ok (.bipush 100, 2) := by decide +kernel
theorem dX5_init_7 : decode cX5_init 7 = .ok (.newarray .int, 2) := by decide +kernel
theorem dX5_init_9 : decode cX5_init 9 = .ok (.putfield 11, 3) := by decide +kernel
theorem dX5_init_12 : decode cX5_init 12 = .ok (.aload_n 0, 1) := by decide +kernel
theorem dX5_init_13 : decode cX5_init 13 = .ok (.iconst 0, 1) := by decide +kernel
theorem dX5_init_14 : decode cX5_init 14 = .ok (.putfield 15, 3) := by decide +kernel
theorem dX5_init_17 : decode cX5_init 17 = .ok (.aload_n 0, 1) := by decide +kernel
theorem dX5_init_18 : decode cX5_init 18 = .ok (.bipush 100, 2) := by decide +kernel
theorem dX5_init_20 : decode cX5_init 20 = .ok (.newarray .int, 2) := by decide +kernel
theorem dX5_init_22 : decode cX5_init 22 = .ok (.putfield 19, 3) := by decide +kernel
theorem dX5_init_25 : decode cX5_init 25 = .ok (.aload_n 0, 1) := by decide +kernel
theorem dX5_init_26 : decode cX5_init 26 = .ok (.bipush 100, 2) := by decide +kernel
theorem dX5_init_28 : decode cX5_init 28 = .ok (.newarray .int, 2) := by decide +kernel
theorem dX5_init_30 : decode cX5_init 30 = .ok (.putfield 22, 3) := by decide +kernel
theorem dX5_init_33 : decode cX5_init 33 = .ok (.aload_n 0, 1) := by decide +kernel
theorem dX5_init_34 : decode cX5_init 34 = .ok (.bipush 100, 2) := by decide +kernel
theorem dX5_init_36 : decode cX5_init 36 = .ok (.newarray .int, 2) := by decide +kernel
theorem dX5_init_38 : decode cX5_init 38 = .ok (.putfield 25, 3) := by decide +kernel
theorem dX5_init_41 : decode cX5_init 41 = .ok (.aload_n 0, 1) := by decide +kernel
theorem dX5_init_42 : decode cX5_init 42 = .ok (.bipush 100, 2) := by decide +kernel
theorem dX5_init_44 : decode cX5_init 44 = .ok (.newarray .int, 2) := by decide +kernel
theorem dX5_init_46 : decode cX5_init 46 = .ok (.putfield 28, 3) := by decide +kernel
theorem dX5_init_49 : decode cX5_init 49 = .ok (.aload_n 0, 1) := by decide +kernel
theorem dX5_init_50 : decode cX5_init 50 = .ok (.iconst 0, 1) := by decide +kernel
theorem dX5_init_51 : decode cX5_init 51 = .ok (.putfield 31, 3) := by decide +kernel
theorem dX5_init_54 : decode cX5_init 54 = .ok (.aload_n 0, 1) := by decide +kernel
theorem dX5_init_55 : decode cX5_init 55 = .ok (.iconst 0, 1) := by decide +kernel
theorem dX5_init_56 : decode cX5_init 56 = .ok (.putfield 34, 3) := by decide +kernel
theorem dX5_init_59 : decode cX5_init 59 = .ok (.aload_n 0, 1) := by decide +kernel
theorem dX5_init_60 : decode cX5_init 60 = .ok (.iconst (-1), 1) := by decide +kernel
theorem dX5_init_61 : decode cX5_init 61 = .ok (.putfield 37, 3) := by decide +kernel
theorem dX5_init_64 : decode cX5_init 64 = .ok (.aload_n 0, 1) := by decide +kernel
theorem dX5_init_65 : decode cX5_init 65 = .ok (.iconst 0, 1) := by decide +kernel
theorem dX5_init_66 : decode cX5_init 66 = .ok (.putfield 40, 3) := by decide +kernel
theorem dX5_init_69 : decode cX5_init 69 = .ok (.aload_n 0, 1) := by decide +kernel
theorem dX5_init_70 : decode cX5_init 70 = .ok (.iconst 4, 1) := by decide +kernel
theorem dX5_init_71 : decode cX5_init 71 = .ok (.newarray .int, 2) := by decide +kernel
theorem dX5_init_73 : decode cX5_init 73 = .ok (.putfield 43, 3) := by decide +kernel
theorem dX5_init_76 : decode cX5_init 76 = .ok (.aload_n 0, 1) := by decide +kernel
theorem dX5_init_77 : decode cX5_init 77 = .ok (.iconst 0, 1) := by decide +kernel
theorem dX5_init_78 : decode cX5_init 78 = .ok (.putfield 46, 3) := by decide +kernel
theorem dX5_init_81 : decode cX5_init 81 = .ok (.aload_n 0, 1) := by decide +kernel
theorem dX5_init_82 : decode cX5_init 82 = .ok (.iconst 0, 1) := by decide +kernel
theorem dX5_init_83 : decode cX5_init 83 = .ok (.putfield 49, 3) := by decide +kernel
theorem dX5_init_86 : decode cX5_init 86 = .ok (.aload_n 0, 1) := by decide +kernel
theorem dX5_init_87 : decode cX5_init 87 = .ok (.bipush 100, 2) := by decide +kernel
theorem dX5_init_89 : decode cX5_init 89 = .ok (.newarray .int, 2) := by decide +kernel
theorem dX5_init_91 : decode cX5_init 91 = .ok (.putfield 52, 3) := by decide +kernel
theorem dX5_init_94 : decode cX5_init 94 = .ok (.return_, 1) := by decide +kernel
theorem dX5_append_0 : decode cX5_append 0 = .ok (.aload_n 0, 1) := by decide +kernel
theorem dX5_append_1 : decode cX5_append 1 = .ok (.getfield 15, 3) := by decide +kernel
theorem dX5_append_4 : decode cX5_append 4 = .ok (.bipush 100, 2) := by decide +kernel
theorem dX5_append_6 : decode cX5_append 6 = .ok (.if_icmp .ge 23, 3) := by decide +kernel
theorem dX5_append_9 : decode cX5_append 9 = .ok (.aload_n 0, 1) := by decide +kernel
theorem dX5_append_10 : decode cX5_append 10 = .ok (.getfield 11, 3) := by decide +kernel
theorem dX5_append_13 : decode cX5_append 13 = .ok (.aload_n 0, 1) := by decide +kernel
theorem dX5_append_14 : decode cX5_append 14 = .ok (.getfield 15, 3) := by decide +kernel
theorem dX5_append_17 : decode cX5_append 17 = .ok (.iload_n 1, 1) := by decide +kernel
theorem dX5_append_18 : decode cX5_append 18 = .ok (.iastore, 1) := by decide +kernel
theorem dX5_append_19 : decode cX5_append 19 = .ok (.aload_n 0, 1) := by decide +kernel
theorem dX5_append_20 : decode cX5_append 20 = .ok (.dup, 1) := by decide +kernel
theorem dX5_append_21 : decode cX5_append 21 = .ok (.getfield 15, 3) := by decide +kernel
theorem dX5_append_24 : decode cX5_append 24 = .ok (.iconst 1, 1) := by decide +kernel
theorem dX5_append_25 : decode cX5_append 25 = .ok (.iadd, 1) := by decide +kernel
theorem dX5_append_26 : decode cX5_append 26 = .ok (.putfield 15, 3) := by decide +kernel
theorem dX5_append_29 : decode cX5_append 29 = .ok (.return_, 1) := by decide +kernel
theorem dX5_read_0 : decode cX5_read 0 = .ok (.aload_n 0, 1) := by decide +kernel
theorem dX5_read_1 : decode cX5_read 1 = .ok (.iconst 0, 1) := by decide +kernel
theorem dX5_read_2 : decode cX5_read 2 = .ok (.putfield 34, 3) := by decide +kernel
theorem dX5_read_5 : decode cX5_read 5 = .ok (.aload_n 0, 1) := by decide +kernel
theorem dX5_read_6 : decode cX5_read 6 = .ok (.iconst (-1), 1) := by decide +kernel
theorem dX5_read_7 : decode cX5_read 7 = .ok (.putfield 37, 3) := by decide +kernel
theorem dX5_read_10 : decode cX5_read 10 = .ok (.aload_n 0, 1) := by decide +kernel
theorem dX5_read_11 : decode cX5_read 11 = .ok (.iconst 0, 1) := by decide +kernel
theorem dX5_read_12 : decode cX5_read 12 = .ok (.putfield 40, 3) := by decide +kernel
theorem dX5_read_15 : decode cX5_read 15 = .ok (.aload_n 0, 1) := by decide +kernel
theorem dX5_read_16 : decode cX5_read 16 = .ok (.iconst 0, 1) := by decide +kernel
theorem dX5_read_17 : decode cX5_read 17 = .ok (.putfield 31, 3) := by decide +kernel
theorem dX5_read_20 : decode cX5_read 20 = .ok (.aload_n 0, 1) := by decide +kernel
theorem dX5_read_21 : decode cX5_read 21 = .ok (.invokevirtual 55, 3) := by decide +kernel
theorem dX5_read_24 : decode cX5_read 24 = .ok (.iconst 0, 1) := by decide +kernel
theorem dX5_read_25 : decode cX5_read 25 = .ok (.istore_n 1, 1) := by decide +kernel
theorem dX5_read_26 : decode cX5_read 26 = .ok (.iload_n 1, 1) := by decide +kernel
theorem dX5_read_27 : decode cX5_read 27 = .ok (.bipush 100, 2) := by decide +kernel
theorem dX5_read_29 : decode cX5_read 29 = .ok (.if_icmp .ge 36, 3) := by decide +kernel
theorem dX5_read_32 : decode cX5_read 32 = .ok (.aload_n 0, 1) := by decide +kernel
theorem dX5_read_33 : decode cX5_read 33 = .ok (.getfield 34, 3) := by decide +kernel
theorem dX5_read_36 : decode cX5_read 36 = .ok (.aload_n 0, 1) := by decide +kernel
theorem dX5_read_37 : decode cX5_read 37 = .ok (.getfield 15, 3) := by decide +kernel
theorem dX5_read_40 : decode cX5_read 40 = .ok (.if_icmp .ge 25, 3) := by decide +kernel
theorem dX5_read_43 : decode cX5_read 43 = .ok (.aload_n 0, 1) := by decide +kernel
theorem dX5_read_44 : decode cX5_read 44 = .ok (.getfield 37, 3) := by decide +kernel
theorem dX5_read_47 : decode cX5_read 47 = .ok (.iconst (-1), 1) := by decide +kernel
theorem dX5_read_48 : decode cX5_read 48 = .ok (.if_icmp .ne 17, 3) := by decide +kernel
theorem dX5_read_51 : decode cX5_read 51 = .ok (.aload_n 0, 1) := by decide +kernel
theorem dX5_read_52 : decode cX5_read 52 = .ok (.invokevirtual 58, 3) := by decide +kernel
theorem dX5_read_55 : decode cX5_read 55 = .ok (.aload_n 0, 1) := by decide +kernel
theorem dX5_read_56 : decode cX5_read 56 = .ok (.invokevirtual 55, 3) := by decide +kernel
theorem dX5_read_59 : decode cX5_read 59 = .ok (.iinc 1 1, 3) := by decide +kernel
theorem dX5_read_62 : decode cX5_read 62 = .ok (.goto (-36), 3) := by decide +kernel
theorem dX5_read_65 : decode cX5_read 65 = .ok (.aload_n 0, 1) := by decide +kernel
theorem dX5_read_66 : decode cX5_read 66 = .ok (.getfield 37, 3) := by decide +kernel
theorem dX5_read_69 : decode cX5_read 69 = .ok (.iconst (-1), 1) := by decide +kernel
theorem dX5_read_70 : decode cX5_read 70 = .ok (.if_icmp .ne 18, 3) := by decide +kernel
theorem dX5_read_73 : decode cX5_read 73 = .ok (.aload_n 0, 1) := by decide +kernel
theorem dX5_read_74 : decode cX5_read 74 = .ok (.getfield 40, 3) := by decide +kernel
theorem dX5_read_77 : decode cX5_read 77 = .ok (.ifCond .le 11, 3) := by decide +kernel
theorem dX5_read_80 : decode cX5_read 80 = .ok (.aload_n 0, 1) := by decide +kernel
theorem dX5_read_81 : decode cX5_read 81 = .ok (.aload_n 0, 1) := by decide +kernel
theorem dX5_read_82 : decode cX5_read 82 = .ok (.getfield 15, 3) := by decide +kernel
theorem dX5_read_85 : decode cX5_read 85 = .ok (.putfield 37, 3) := by decide +kernel
theorem dX5_read_88 : decode cX5_read 88 = .ok (.aload_n 0, 1) := by decide +kernel
theorem dX5_read_89 : decode cX5_read 89 = .ok (.getfield 37, 3) := by decide +kernel
theorem dX5_read_92 : decode cX5_read 92 = .ok (.ireturn, 1) := by decide +kernel
theorem dX5_readStep_0 : decode cX5_readStep 0 = .ok (.aload_n 0, 1) := by decide +kernel
theorem dX5_readStep_1 : decode cX5_readStep 1 = .ok (.getfield 11, 3) := by decide +kernel
theorem dX5_readStep_4 : decode cX5_readStep 4 = .ok (.aload_n 0, 1) := by decide +kernel
theorem dX5_readStep_5 : decode cX5_readStep 5 = .ok (.getfield 34, 3) := by decide +kernel
theorem dX5_readStep_8 : decode cX5_readStep 8 = .ok (.iaload, 1) := by decide +kernel
theorem dX5_readStep_9 : decode cX5_readStep 9 = .ok (.istore_n 1, 1) := by decide +kernel
theorem dX5_readStep_10 : decode cX5_readStep 10 = .ok (.iload_n 1, 1) := by decide +kernel
theorem dX5_readStep_11 : decode cX5_readStep 11 = .ok (.invokestatic 61, 3) := by decide +kernel
theorem dX5_readStep_14 : decode cX5_readStep 14 = .ok (.ifCond .eq 8, 3) := by decide +kernel
theorem dX5_readStep_17 : decode cX5_readStep 17 = .ok (.aload_n 0, 1) := by decide +kernel
theorem dX5_readStep_18 : decode cX5_readStep 18 = .ok (.invokevirtual 65, 3) := by decide +kernel
theorem dX5_readStep_21 : decode cX5_readStep 21 = .ok (.return_, 1) := by decide +kernel
theorem dX5_readStep_22 : decode cX5_readStep 22 = .ok (.aload_n 0, 1) := by decide +kernel
theorem dX5_readStep_23 : decode cX5_readStep 23 = .ok (.dup, 1) := by decide +kernel
theorem dX5_readStep_24 : decode cX5_readStep 24 = .ok (.getfield 34, 3) := by decide +kernel
theorem dX5_readStep_27 : decode cX5_readStep 27 = .ok (.iconst 1, 1) := by decide +kernel
theorem dX5_readStep_28 : decode cX5_readStep 28 = .ok (.iadd, 1) := by decide +kernel
theorem dX5_readStep_29 : decode cX5_readStep 29 = .ok (.putfield 34, 3) := by decide +kernel
theorem dX5_readStep_32 : decode cX5_readStep 32 = .ok (.iload_n 1, 1) := by decide +kernel
theorem dX5_readStep_33 : decode cX5_readStep 33 = .ok (.lookupswitch 129 #[(41, 59), (99, 73), (108, 73), (114, 66), (116, 103), (119, 73)], 59) := by decide +kernel
theorem dX5_readStep_92 : decode cX5_readStep 92 = .ok (.aload_n 0, 1) := by decide +kernel
theorem dX5_readStep_93 : decode cX5_readStep 93 = .ok (.invokevirtual 68, 3) := by decide +kernel
theorem dX5_readStep_96 : decode cX5_readStep 96 = .ok (.goto 76, 3) := by decide +kernel
theorem dX5_readStep_99 : decode cX5_readStep 99 = .ok (.aload_n 0, 1) := by decide +kernel
theorem dX5_readStep_100 : decode cX5_readStep 100 = .ok (.invokevirtual 71, 3) := by decide +kernel
theorem dX5_readStep_103 : decode cX5_readStep 103 = .ok (.goto 69, 3) := by decide +kernel
theorem dX5_readStep_106 : decode cX5_readStep 106 = .ok (.aload_n 0, 1) := by decide +kernel
theorem dX5_readStep_107 : decode cX5_readStep 107 = .ok (.iload_n 1, 1) := by decide +kernel
theorem dX5_readStep_108 : decode cX5_readStep 108 = .ok (.aload_n 0, 1) := by decide +kernel
theorem dX5_readStep_109 : decode cX5_readStep 109 = .ok (.bipush 97, 2) := by decide +kernel
theorem dX5_readStep_111 : decode cX5_readStep 111 = .ok (.bipush 108, 2) := by decide +kernel
theorem dX5_readStep_113 : decode cX5_readStep 113 = .ok (.invokevirtual 74, 3) := by decide +kernel
theorem dX5_readStep_116 : decode cX5_readStep 116 = .ok (.bipush 97, 2) := by decide +kernel
theorem dX5_readStep_118 : decode cX5_readStep 118 = .ok (.isub, 1) := by decide +kernel
theorem dX5_readStep_119 : decode cX5_readStep 119 = .ok (.iconst 0, 1) := by decide +kernel
theorem dX5_readStep_120 : decode cX5_readStep 120 = .ok (.iconst 0, 1) := by decide +kernel
theorem dX5_readStep_121 : decode cX5_readStep 121 = .ok (.invokevirtual 78, 3) := by decide +kernel
theorem dX5_readStep_124 : decode cX5_readStep 124 = .ok (.aload_n 0, 1) := by decide +kernel
theorem dX5_readStep_125 : decode cX5_readStep 125 = .ok (.bipush 59, 2) := by decide +kernel
theorem dX5_readStep_127 : decode cX5_readStep 127 = .ok (.bipush 59, 2) := by decide +kernel
theorem dX5_readStep_129 : decode cX5_readStep 129 = .ok (.invokevirtual 74, 3) := by decide +kernel
theorem dX5_readStep_132 : decode cX5_readStep 132 = .ok (.pop, 1) := by decide +kernel
theorem dX5_readStep_133 : decode cX5_readStep 133 = .ok (.goto 39, 3) := by decide +kernel
theorem dX5_readStep_136 : decode cX5_readStep 136 = .ok (.aload_n 0, 1) := by decide +kernel
theorem dX5_readStep_137 : decode cX5_readStep 137 = .ok (.iload_n 1, 1) := by decide +kernel
theorem dX5_readStep_138 : decode cX5_readStep 138 = .ok (.iconst 0, 1) := by decide +kernel
theorem dX5_readStep_139 : decode cX5_readStep 139 = .ok (.iconst 0, 1) := by decide +kernel
theorem dX5_readStep_140 : decode cX5_readStep 140 = .ok (.aload_n 0, 1) := by decide +kernel
theorem dX5_readStep_141 : decode cX5_readStep 141 = .ok (.sipush 999, 3) := by decide +kernel
theorem dX5_readStep_144 : decode cX5_readStep 144 = .ok (.invokevirtual 82, 3) := by decide +kernel
theorem dX5_readStep_147 : decode cX5_readStep 147 = .ok (.invokevirtual 78, 3) := by decide +kernel
theorem dX5_readStep_150 : decode cX5_readStep 150 = .ok (.aload_n 0, 1) := by decide +kernel
theorem dX5_readStep_151 : decode cX5_readStep 151 = .ok (.bipush 59, 2) := by decide +kernel
theorem dX5_readStep_153 : decode cX5_readStep 153 = .ok (.bipush 59, 2) := by decide +kernel
theorem dX5_readStep_155 : decode cX5_readStep 155 = .ok (.invokevirtual 74, 3) := by decide +kernel
theorem dX5_readStep_158 : decode cX5_readStep 158 = .ok (.pop, 1) := by decide +kernel
theorem dX5_readStep_159 : decode cX5_readStep 159 = .ok (.goto 13, 3) := by decide +kernel
theorem dX5_readStep_162 : decode cX5_readStep 162 = .ok (.aload_n 0, 1) := by decide +kernel
theorem dX5_readStep_163 : decode cX5_readStep 163 = .ok (.aload_n 0, 1) := by decide +kernel
theorem dX5_readStep_164 : decode cX5_readStep 164 = .ok (.getfield 34, 3) := by decide +kernel
theorem dX5_readStep_167 : decode cX5_readStep 167 = .ok (.iconst 1, 1) := by decide +kernel
theorem dX5_readStep_168 : decode cX5_readStep 168 = .ok (.isub, 1) := by decide +kernel
theorem dX5_readStep_169 : decode cX5_readStep 169 = .ok (.putfield 37, 3) := by decide +kernel
theorem dX5_readStep_172 : decode cX5_readStep 172 = .ok (.return_, 1) := by decide +kernel
theorem dX5_readRequest_0 : decode cX5_readRequest 0 = .ok (.aload_n 0, 1) := by decide +kernel
theorem dX5_readRequest_1 : decode cX5_readRequest 1 = .ok (.bipush 97, 2) := by decide +kernel
theorem dX5_readRequest_3 : decode cX5_readRequest 3 = .ok (.bipush 108, 2) := by decide +kernel
theorem dX5_readRequest_5 : decode cX5_readRequest 5 = .ok (.invokevirtual 74, 3) := by decide +kernel
theorem dX5_readRequest_8 : decode cX5_readRequest 8 = .ok (.bipush 97, 2) := by decide +kernel
theorem dX5_readRequest_10 : decode cX5_readRequest 10 = .ok (.isub, 1) := by decide +kernel
theorem dX5_readRequest_11 : decode cX5_readRequest 11 = .ok (.istore_n 1, 1) := by decide +kernel
theorem dX5_readRequest_12 : decode cX5_readRequest 12 = .ok (.aload_n 0, 1) := by decide +kernel
theorem dX5_readRequest_13 : decode cX5_readRequest 13 = .ok (.bipush 48, 2) := by decide +kernel
theorem dX5_readRequest_15 : decode cX5_readRequest 15 = .ok (.bipush 52, 2) := by decide +kernel
theorem dX5_readRequest_17 : decode cX5_readRequest 17 = .ok (.invokevirtual 74, 3) := by decide +kernel
theorem dX5_readRequest_20 : decode cX5_readRequest 20 = .ok (.bipush 48, 2) := by decide +kernel
theorem dX5_readRequest_22 : decode cX5_readRequest 22 = .ok (.isub, 1) := by decide +kernel
theorem dX5_readRequest_23 : decode cX5_readRequest 23 = .ok (.istore_n 2, 1) := by decide +kernel
theorem dX5_readRequest_24 : decode cX5_readRequest 24 = .ok (.aload_n 0, 1) := by decide +kernel
theorem dX5_readRequest_25 : decode cX5_readRequest 25 = .ok (.bipush 44, 2) := by decide +kernel
theorem dX5_readRequest_27 : decode cX5_readRequest 27 = .ok (.bipush 44, 2) := by decide +kernel
theorem dX5_readRequest_29 : decode cX5_readRequest 29 = .ok (.invokevirtual 74, 3) := by decide +kernel
theorem dX5_readRequest_32 : decode cX5_readRequest 32 = .ok (.pop, 1) := by decide +kernel
theorem dX5_readRequest_33 : decode cX5_readRequest 33 = .ok (.aload_n 0, 1) := by decide +kernel
theorem dX5_readRequest_34 : decode cX5_readRequest 34 = .ok (.bipush 114, 2) := by decide +kernel
theorem dX5_readRequest_36 : decode cX5_readRequest 36 = .ok (.iload_n 1, 1) := by decide +kernel
theorem dX5_readRequest_37 : decode cX5_readRequest 37 = .ok (.iload_n 2, 1) := by decide +kernel
theorem dX5_readRequest_38 : decode cX5_readRequest 38 = .ok (.aload_n 0, 1) := by decide +kernel
theorem dX5_readRequest_39 : decode cX5_readRequest 39 = .ok (.sipush 999, 3) := by decide +kernel
theorem dX5_readRequest_42 : decode cX5_readRequest 42 = .ok (.invokevirtual 82, 3) := by decide +kernel
theorem dX5_readRequest_45 : decode cX5_readRequest 45 = .ok (.invokevirtual 78, 3) := by decide +kernel
theorem dX5_readRequest_48 : decode cX5_readRequest 48 = .ok (.aload_n 0, 1) := by decide +kernel
theorem dX5_readRequest_49 : decode cX5_readRequest 49 = .ok (.bipush 59, 2) := by decide +kernel
theorem dX5_readRequest_51 : decode cX5_readRequest 51 = .ok (.bipush 59, 2) := by decide +kernel
theorem dX5_readRequest_53 : decode cX5_readRequest 53 = .ok (.invokevirtual 74, 3) := by decide +kernel
theorem dX5_readRequest_56 : decode cX5_readRequest 56 = .ok (.pop, 1) := by decide +kernel
theorem dX5_readRequest_57 : decode cX5_readRequest 57 = .ok (.return_, 1) := by decide +kernel
theorem dX5_readOpening_0 : decode cX5_readOpening 0 = .ok (.aload_n 0, 1) := by decide +kernel
theorem dX5_readOpening_1 : decode cX5_readOpening 1 = .ok (.bipush 50, 2) := by decide +kernel
theorem dX5_readOpening_3 : decode cX5_readOpening 3 = .ok (.invokevirtual 82, 3) := by decide +kernel
theorem dX5_readOpening_6 : decode cX5_readOpening 6 = .ok (.istore_n 1, 1) := by decide +kernel
theorem dX5_readOpening_7 : decode cX5_readOpening 7 = .ok (.aload_n 0, 1) := by decide +kernel
theorem dX5_readOpening_8 : decode cX5_readOpening 8 = .ok (.getfield 37, 3) := by decide +kernel
theorem dX5_readOpening_11 : decode cX5_readOpening 11 = .ok (.iconst (-1), 1) := by decide +kernel
theorem dX5_readOpening_12 : decode cX5_readOpening 12 = .ok (.if_icmp .ne 23, 3) := by decide +kernel
theorem dX5_readOpening_15 : decode cX5_readOpening 15 = .ok (.aload_n 0, 1) := by decide +kernel
theorem dX5_readOpening_16 : decode cX5_readOpening 16 = .ok (.getfield 40, 3) := by decide +kernel
theorem dX5_readOpening_19 : decode cX5_readOpening 19 = .ok (.iconst 4, 1) := by decide +kernel
theorem dX5_readOpening_20 : decode cX5_readOpening 20 = .ok (.if_icmp .lt 15, 3) := by decide +kernel
theorem dX5_readOpening_23 : decode cX5_readOpening 23 = .ok (.aload_n 0, 1) := by decide +kernel
theorem dX5_readOpening_24 : decode cX5_readOpening 24 = .ok (.invokevirtual 55, 3) := by decide +kernel
theorem dX5_readOpening_27 : decode cX5_readOpening 27 = .ok (.aload_n 0, 1) := by decide +kernel
theorem dX5_readOpening_28 : decode cX5_readOpening 28 = .ok (.aload_n 0, 1) := by decide +kernel
theorem dX5_readOpening_29 : decode cX5_readOpening 29 = .ok (.getfield 34, 3) := by decide +kernel
theorem dX5_readOpening_32 : decode cX5_readOpening 32 = .ok (.putfield 37, 3) := by decide +kernel
theorem dX5_readOpening_35 : decode cX5_readOpening 35 = .ok (.aload_n 0, 1) := by decide +kernel
theorem dX5_readOpening_36 : decode cX5_readOpening 36 = .ok (.bipush 40, 2) := by decide +kernel
theorem dX5_readOpening_38 : decode cX5_readOpening 38 = .ok (.bipush 40, 2) := by decide +kernel
theorem dX5_readOpening_40 : decode cX5_readOpening 40 = .ok (.invokevirtual 74, 3) := by decide +kernel
theorem dX5_readOpening_43 : decode cX5_readOpening 43 = .ok (.pop, 1) := by decide +kernel
theorem dX5_readOpening_44 : decode cX5_readOpening 44 = .ok (.aload_n 0, 1) := by decide +kernel
theorem dX5_readOpening_45 : decode cX5_readOpening 45 = .ok (.getfield 37, 3) := by decide +kernel
theorem dX5_readOpening_48 : decode cX5_readOpening 48 = .ok (.iconst (-1), 1) := by decide +kernel
theorem dX5_readOpening_49 : decode cX5_readOpening 49 = .ok (.if_icmp .ne 35, 3) := by decide +kernel
theorem dX5_readOpening_52 : decode cX5_readOpening 52 = .ok (.aload_n 0, 1) := by decide +kernel
theorem dX5_readOpening_53 : decode cX5_readOpening 53 = .ok (.getfield 43, 3) := by decide +kernel
theorem dX5_readOpening_56 : decode cX5_readOpening 56 = .ok (.aload_n 0, 1) := by decide +kernel
theorem dX5_readOpening_57 : decode cX5_readOpening 57 = .ok (.getfield 40, 3) := by decide +kernel
theorem dX5_readOpening_60 : decode cX5_readOpening 60 = .ok (.aload_n 0, 1) := by decide +kernel
theorem dX5_readOpening_61 : decode cX5_readOpening 61 = .ok (.getfield 31, 3) := by decide +kernel
theorem dX5_readOpening_64 : decode cX5_readOpening 64 = .ok (.iastore, 1) := by decide +kernel
theorem dX5_readOpening_65 : decode cX5_readOpening 65 = .ok (.aload_n 0, 1) := by decide +kernel
theorem dX5_readOpening_66 : decode cX5_readOpening 66 = .ok (.dup, 1) := by decide +kernel
theorem dX5_readOpening_67 : decode cX5_readOpening 67 = .ok (.getfield 40, 3) := by decide +kernel
theorem dX5_readOpening_70 : decode cX5_readOpening 70 = .ok (.iconst 1, 1) := by decide +kernel
theorem dX5_readOpening_71 : decode cX5_readOpening 71 = .ok (.iadd, 1) := by decide +kernel
theorem dX5_readOpening_72 : decode cX5_readOpening 72 = .ok (.putfield 40, 3) := by decide +kernel
theorem dX5_readOpening_75 : decode cX5_readOpening 75 = .ok (.aload_n 0, 1) := by decide +kernel
theorem dX5_readOpening_76 : decode cX5_readOpening 76 = .ok (.bipush 40, 2) := by decide +kernel
theorem dX5_readOpening_78 : decode cX5_readOpening 78 = .ok (.iconst 0, 1) := by decide +kernel
theorem dX5_readOpening_79 : decode cX5_readOpening 79 = .ok (.iconst 0, 1) := by decide +kernel
theorem dX5_readOpening_80 : decode cX5_readOpening 80 = .ok (.iload_n 1, 1) := by decide +kernel
theorem dX5_readOpening_81 : decode cX5_readOpening 81 = .ok (.invokevirtual 78, 3) := by decide +kernel
theorem dX5_readOpening_84 : decode cX5_readOpening 84 = .ok (.return_, 1) := by decide +kernel
theorem dX5_readClosing_0 : decode cX5_readClosing 0 = .ok (.aload_n 0, 1) := by decide +kernel
theorem dX5_readClosing_1 : decode cX5_readClosing 1 = .ok (.getfield 40, 3) := by decide +kernel
theorem dX5_readClosing_4 : decode cX5_readClosing 4 = .ok (.ifCond .ne 14, 3) := by decide +kernel
theorem dX5_readClosing_7 : decode cX5_readClosing 7 = .ok (.aload_n 0, 1) := by decide +kernel
theorem dX5_readClosing_8 : decode cX5_readClosing 8 = .ok (.aload_n 0, 1) := by decide +kernel
theorem dX5_readClosing_9 : decode cX5_readClosing 9 = .ok (.getfield 34, 3) := by decide +kernel
theorem dX5_readClosing_12 : decode cX5_readClosing 12 = .ok (.iconst 1, 1) := by decide +kernel
theorem dX5_readClosing_13 : decode cX5_readClosing 13 = .ok (.isub, 1) := by decide +kernel
theorem dX5_readClosing_14 : decode cX5_readClosing 14 = .ok (.putfield 37, 3) := by decide +kernel
theorem dX5_readClosing_17 : decode cX5_readClosing 17 = .ok (.return_, 1) := by decide +kernel
theorem dX5_readClosing_18 : decode cX5_readClosing 18 = .ok (.aload_n 0, 1) := by decide +kernel
theorem dX5_readClosing_19 : decode cX5_readClosing 19 = .ok (.dup, 1) := by decide +kernel
theorem dX5_readClosing_20 : decode cX5_readClosing 20 = .ok (.getfield 40, 3) := by decide +kernel
theorem dX5_readClosing_23 : decode cX5_readClosing 23 = .ok (.iconst 1, 1) := by decide +kernel
theorem dX5_readClosing_24 : decode cX5_readClosing 24 = .ok (.isub, 1) := by decide +kernel
theorem dX5_readClosing_25 : decode cX5_readClosing 25 = .ok (.putfield 40, 3) := by decide +kernel
theorem dX5_readClosing_28 : decode cX5_readClosing 28 = .ok (.aload_n 0, 1) := by decide +kernel
theorem dX5_readClosing_29 : decode cX5_readClosing 29 = .ok (.bipush 41, 2) := by decide +kernel
theorem dX5_readClosing_31 : decode cX5_readClosing 31 = .ok (.iconst 0, 1) := by decide +kernel
theorem dX5_readClosing_32 : decode cX5_readClosing 32 = .ok (.iconst 0, 1) := by decide +kernel
theorem dX5_readClosing_33 : decode cX5_readClosing 33 = .ok (.aload_n 0, 1) := by decide +kernel
theorem dX5_readClosing_34 : decode cX5_readClosing 34 = .ok (.getfield 43, 3) := by decide +kernel
theorem dX5_readClosing_37 : decode cX5_readClosing 37 = .ok (.aload_n 0, 1) := by decide +kernel
theorem dX5_readClosing_38 : decode cX5_readClosing 38 = .ok (.getfield 40, 3) := by decide +kernel
theorem dX5_readClosing_41 : decode cX5_readClosing 41 = .ok (.iaload, 1) := by decide +kernel
theorem dX5_readClosing_42 : decode cX5_readClosing 42 = .ok (.invokevirtual 78, 3) := by decide +kernel
theorem dX5_readClosing_45 : decode cX5_readClosing 45 = .ok (.return_, 1) := by decide +kernel
theorem dX5_addStep_0 : decode cX5_addStep 0 = .ok (.aload_n 0, 1) := by decide +kernel
theorem dX5_addStep_1 : decode cX5_addStep 1 = .ok (.getfield 37, 3) := by decide +kernel
theorem dX5_addStep_4 : decode cX5_addStep 4 = .ok (.iconst (-1), 1) := by decide +kernel
theorem dX5_addStep_5 : decode cX5_addStep 5 = .ok (.if_icmp .ne 63, 3) := by decide +kernel
theorem dX5_addStep_8 : decode cX5_addStep 8 = .ok (.aload_n 0, 1) := by decide +kernel
theorem dX5_addStep_9 : decode cX5_addStep 9 = .ok (.getfield 31, 3) := by decide +kernel
theorem dX5_addStep_12 : decode cX5_addStep 12 = .ok (.bipush 100, 2) := by decide +kernel
theorem dX5_addStep_14 : decode cX5_addStep 14 = .ok (.if_icmp .ge 54, 3) := by decide +kernel
theorem dX5_addStep_17 : decode cX5_addStep 17 = .ok (.aload_n 0, 1) := by decide +kernel
theorem dX5_addStep_18 : decode cX5_addStep 18 = .ok (.getfield 19, 3) := by decide +kernel
theorem dX5_addStep_21 : decode cX5_addStep 21 = .ok (.aload_n 0, 1) := by decide +kernel
theorem dX5_addStep_22 : decode cX5_addStep 22 = .ok (.getfield 31, 3) := by decide +kernel
theorem dX5_addStep_25 : decode cX5_addStep 25 = .ok (.iload_n 1, 1) := by decide +kernel
theorem dX5_addStep_26 : decode cX5_addStep 26 = .ok (.iastore, 1) := by decide +kernel
theorem dX5_addStep_27 : decode cX5_addStep 27 = .ok (.aload_n 0, 1) := by decide +kernel
theorem dX5_addStep_28 : decode cX5_addStep 28 = .ok (.getfield 22, 3) := by decide +kernel
theorem dX5_addStep_31 : decode cX5_addStep 31 = .ok (.aload_n 0, 1) := by decide +kernel
theorem dX5_addStep_32 : decode cX5_addStep 32 = .ok (.getfield 31, 3) := by decide +kernel
theorem dX5_addStep_35 : decode cX5_addStep 35 = .ok (.iload_n 2, 1) := by decide +kernel
theorem dX5_addStep_36 : decode cX5_addStep 36 = .ok (.iastore, 1) := by decide +kernel
theorem dX5_addStep_37 : decode cX5_addStep 37 = .ok (.aload_n 0, 1) := by decide +kernel
theorem dX5_addStep_38 : decode cX5_addStep 38 = .ok (.getfield 25, 3) := by decide +kernel
theorem dX5_addStep_41 : decode cX5_addStep 41 = .ok (.aload_n 0, 1) := by decide +kernel
theorem dX5_addStep_42 : decode cX5_addStep 42 = .ok (.getfield 31, 3) := by decide +kernel
theorem dX5_addStep_45 : decode cX5_addStep 45 = .ok (.iload_n 3, 1) := by decide +kernel
theorem dX5_addStep_46 : decode cX5_addStep 46 = .ok (.iastore, 1) := by decide +kernel
theorem dX5_addStep_47 : decode cX5_addStep 47 = .ok (.aload_n 0, 1) := by decide +kernel
theorem dX5_addStep_48 : decode cX5_addStep 48 = .ok (.getfield 28, 3) := by decide +kernel
theorem dX5_addStep_51 : decode cX5_addStep 51 = .ok (.aload_n 0, 1) := by decide +kernel
theorem dX5_addStep_52 : decode cX5_addStep 52 = .ok (.getfield 31, 3) := by decide +kernel
theorem dX5_addStep_55 : decode cX5_addStep 55 = .ok (.iload 4, 2) := by decide +kernel
theorem dX5_addStep_57 : decode cX5_addStep 57 = .ok (.iastore, 1) := by decide +kernel
theorem dX5_addStep_58 : decode cX5_addStep 58 = .ok (.aload_n 0, 1) := by decide +kernel
theorem dX5_addStep_59 : decode cX5_addStep 59 = .ok (.dup, 1) := by decide +kernel
theorem dX5_addStep_60 : decode cX5_addStep 60 = .ok (.getfield 31, 3) := by decide +kernel
theorem dX5_addStep_63 : decode cX5_addStep 63 = .ok (.iconst 1, 1) := by decide +kernel
theorem dX5_addStep_64 : decode cX5_addStep 64 = .ok (.iadd, 1) := by decide +kernel
theorem dX5_addStep_65 : decode cX5_addStep 65 = .ok (.putfield 31, 3) := by decide +kernel
theorem dX5_addStep_68 : decode cX5_addStep 68 = .ok (.return_, 1) := by decide +kernel
theorem dX5_readByte_0 : decode cX5_readByte 0 = .ok (.aload_n 0, 1) := by decide +kernel
theorem dX5_readByte_1 : decode cX5_readByte 1 = .ok (.getfield 37, 3) := by decide +kernel
theorem dX5_readByte_4 : decode cX5_readByte 4 = .ok (.iconst (-1), 1) := by decide +kernel
theorem dX5_readByte_5 : decode cX5_readByte 5 = .ok (.if_icmp .eq 5, 3) := by decide +kernel
theorem dX5_readByte_8 : decode cX5_readByte 8 = .ok (.iload_n 1, 1) := by decide +kernel
theorem dX5_readByte_9 : decode cX5_readByte 9 = .ok (.ireturn, 1) := by decide +kernel
theorem dX5_readByte_10 : decode cX5_readByte 10 = .ok (.aload_n 0, 1) := by decide +kernel
theorem dX5_readByte_11 : decode cX5_readByte 11 = .ok (.invokevirtual 55, 3) := by decide +kernel
theorem dX5_readByte_14 : decode cX5_readByte 14 = .ok (.aload_n 0, 1) := by decide +kernel
theorem dX5_readByte_15 : decode cX5_readByte 15 = .ok (.getfield 34, 3) := by decide +kernel
theorem dX5_readByte_18 : decode cX5_readByte 18 = .ok (.aload_n 0, 1) := by decide +kernel
theorem dX5_readByte_19 : decode cX5_readByte 19 = .ok (.getfield 15, 3) := by decide +kernel
theorem dX5_readByte_22 : decode cX5_readByte 22 = .ok (.if_icmp .ge 29, 3) := by decide +kernel
theorem dX5_readByte_25 : decode cX5_readByte 25 = .ok (.aload_n 0, 1) := by decide +kernel
theorem dX5_readByte_26 : decode cX5_readByte 26 = .ok (.getfield 11, 3) := by decide +kernel
theorem dX5_readByte_29 : decode cX5_readByte 29 = .ok (.aload_n 0, 1) := by decide +kernel
theorem dX5_readByte_30 : decode cX5_readByte 30 = .ok (.getfield 34, 3) := by decide +kernel
theorem dX5_readByte_33 : decode cX5_readByte 33 = .ok (.iaload, 1) := by decide +kernel
theorem dX5_readByte_34 : decode cX5_readByte 34 = .ok (.iload_n 1, 1) := by decide +kernel
theorem dX5_readByte_35 : decode cX5_readByte 35 = .ok (.if_icmp .lt 16, 3) := by decide +kernel
theorem dX5_readByte_38 : decode cX5_readByte 38 = .ok (.aload_n 0, 1) := by decide +kernel
theorem dX5_readByte_39 : decode cX5_readByte 39 = .ok (.getfield 11, 3) := by decide +kernel
theorem dX5_readByte_42 : decode cX5_readByte 42 = .ok (.aload_n 0, 1) := by decide +kernel
theorem dX5_readByte_43 : decode cX5_readByte 43 = .ok (.getfield 34, 3) := by decide +kernel
theorem dX5_readByte_46 : decode cX5_readByte 46 = .ok (.iaload, 1) := by decide +kernel
theorem dX5_readByte_47 : decode cX5_readByte 47 = .ok (.iload_n 2, 1) := by decide +kernel
theorem dX5_readByte_48 : decode cX5_readByte 48 = .ok (.if_icmp .le 13, 3) := by decide +kernel
theorem dX5_readByte_51 : decode cX5_readByte 51 = .ok (.aload_n 0, 1) := by decide +kernel
theorem dX5_readByte_52 : decode cX5_readByte 52 = .ok (.aload_n 0, 1) := by decide +kernel
theorem dX5_readByte_53 : decode cX5_readByte 53 = .ok (.getfield 34, 3) := by decide +kernel
theorem dX5_readByte_56 : decode cX5_readByte 56 = .ok (.putfield 37, 3) := by decide +kernel
theorem dX5_readByte_59 : decode cX5_readByte 59 = .ok (.iload_n 1, 1) := by decide +kernel
theorem dX5_readByte_60 : decode cX5_readByte 60 = .ok (.ireturn, 1) := by decide +kernel
theorem dX5_readByte_61 : decode cX5_readByte 61 = .ok (.aload_n 0, 1) := by decide +kernel
theorem dX5_readByte_62 : decode cX5_readByte 62 = .ok (.dup, 1) := by decide +kernel
theorem dX5_readByte_63 : decode cX5_readByte 63 = .ok (.getfield 34, 3) := by decide +kernel
theorem dX5_readByte_66 : decode cX5_readByte 66 = .ok (.iconst 1, 1) := by decide +kernel
theorem dX5_readByte_67 : decode cX5_readByte 67 = .ok (.iadd, 1) := by decide +kernel
theorem dX5_readByte_68 : decode cX5_readByte 68 = .ok (.putfield 34, 3) := by decide +kernel
theorem dX5_readByte_71 : decode cX5_readByte 71 = .ok (.aload_n 0, 1) := by decide +kernel
theorem dX5_readByte_72 : decode cX5_readByte 72 = .ok (.getfield 11, 3) := by decide +kernel
theorem dX5_readByte_75 : decode cX5_readByte 75 = .ok (.aload_n 0, 1) := by decide +kernel
theorem dX5_readByte_76 : decode cX5_readByte 76 = .ok (.getfield 34, 3) := by decide +kernel
theorem dX5_readByte_79 : decode cX5_readByte 79 = .ok (.iconst 1, 1) := by decide +kernel
theorem dX5_readByte_80 : decode cX5_readByte 80 = .ok (.isub, 1) := by decide +kernel
theorem dX5_readByte_81 : decode cX5_readByte 81 = .ok (.iaload, 1) := by decide +kernel
theorem dX5_readByte_82 : decode cX5_readByte 82 = .ok (.ireturn, 1) := by decide +kernel
theorem dX5_readNumber_0 : decode cX5_readNumber 0 = .ok (.aload_n 0, 1) := by decide +kernel
theorem dX5_readNumber_1 : decode cX5_readNumber 1 = .ok (.getfield 37, 3) := by decide +kernel
theorem dX5_readNumber_4 : decode cX5_readNumber 4 = .ok (.iconst (-1), 1) := by decide +kernel
theorem dX5_readNumber_5 : decode cX5_readNumber 5 = .ok (.if_icmp .eq 5, 3) := by decide +kernel
theorem dX5_readNumber_8 : decode cX5_readNumber 8 = .ok (.iconst 0, 1) := by decide +kernel
theorem dX5_readNumber_9 : decode cX5_readNumber 9 = .ok (.ireturn, 1) := by decide +kernel
theorem dX5_readNumber_10 : decode cX5_readNumber 10 = .ok (.aload_n 0, 1) := by decide +kernel
theorem dX5_readNumber_11 : decode cX5_readNumber 11 = .ok (.invokevirtual 55, 3) := by decide +kernel
theorem dX5_readNumber_14 : decode cX5_readNumber 14 = .ok (.aload_n 0, 1) := by decide +kernel
theorem dX5_readNumber_15 : decode cX5_readNumber 15 = .ok (.getfield 34, 3) := by decide +kernel
theorem dX5_readNumber_18 : decode cX5_readNumber 18 = .ok (.istore_n 2, 1) := by decide +kernel
theorem dX5_readNumber_19 : decode cX5_readNumber 19 = .ok (.iconst 0, 1) := by decide +kernel
theorem dX5_readNumber_20 : decode cX5_readNumber 20 = .ok (.istore_n 3, 1) := by decide +kernel
theorem dX5_readNumber_21 : decode cX5_readNumber 21 = .ok (.iconst 0, 1) := by decide +kernel
theorem dX5_readNumber_22 : decode cX5_readNumber 22 = .ok (.istore 4, 2) := by decide +kernel
theorem dX5_readNumber_24 : decode cX5_readNumber 24 = .ok (.iload 4, 2) := by decide +kernel
theorem dX5_readNumber_26 : decode cX5_readNumber 26 = .ok (.iconst 3, 1) := by decide +kernel
theorem dX5_readNumber_27 : decode cX5_readNumber 27 = .ok (.if_icmp .ge 63, 3) := by decide +kernel
theorem dX5_readNumber_30 : decode cX5_readNumber 30 = .ok (.aload_n 0, 1) := by decide +kernel
theorem dX5_readNumber_31 : decode cX5_readNumber 31 = .ok (.getfield 34, 3) := by decide +kernel
theorem dX5_readNumber_34 : decode cX5_readNumber 34 = .ok (.aload_n 0, 1) := by decide +kernel
theorem dX5_readNumber_35 : decode cX5_readNumber 35 = .ok (.getfield 15, 3) := by decide +kernel
theorem dX5_readNumber_38 : decode cX5_readNumber 38 = .ok (.if_icmp .ge 52, 3) := by decide +kernel
theorem dX5_readNumber_41 : decode cX5_readNumber 41 = .ok (.aload_n 0, 1) := by decide +kernel
theorem dX5_readNumber_42 : decode cX5_readNumber 42 = .ok (.getfield 11, 3) := by decide +kernel
theorem dX5_readNumber_45 : decode cX5_readNumber 45 = .ok (.aload_n 0, 1) := by decide +kernel
theorem dX5_readNumber_46 : decode cX5_readNumber 46 = .ok (.getfield 34, 3) := by decide +kernel
theorem dX5_readNumber_49 : decode cX5_readNumber 49 = .ok (.iaload, 1) := by decide +kernel
theorem dX5_readNumber_50 : decode cX5_readNumber 50 = .ok (.invokestatic 61, 3) := by decide +kernel
theorem dX5_readNumber_53 : decode cX5_readNumber 53 = .ok (.ifCond .eq 37, 3) := by decide +kernel
theorem dX5_readNumber_56 : decode cX5_readNumber 56 = .ok (.iload_n 3, 1) := by decide +kernel
theorem dX5_readNumber_57 : decode cX5_readNumber 57 = .ok (.bipush 10, 2) := by decide +kernel
theorem dX5_readNumber_59 : decode cX5_readNumber 59 = .ok (.imul, 1) := by decide +kernel
theorem dX5_readNumber_60 : decode cX5_readNumber 60 = .ok (.aload_n 0, 1) := by decide +kernel
theorem dX5_readNumber_61 : decode cX5_readNumber 61 = .ok (.getfield 11, 3) := by decide +kernel
theorem dX5_readNumber_64 : decode cX5_readNumber 64 = .ok (.aload_n 0, 1) := by decide +kernel
theorem dX5_readNumber_65 : decode cX5_readNumber 65 = .ok (.getfield 34, 3) := by decide +kernel
theorem dX5_readNumber_68 : decode cX5_readNumber 68 = .ok (.iaload, 1) := by decide +kernel
theorem dX5_readNumber_69 : decode cX5_readNumber 69 = .ok (.iadd, 1) := by decide +kernel
theorem dX5_readNumber_70 : decode cX5_readNumber 70 = .ok (.bipush 48, 2) := by decide +kernel
theorem dX5_readNumber_72 : decode cX5_readNumber 72 = .ok (.isub, 1) := by decide +kernel
theorem dX5_readNumber_73 : decode cX5_readNumber 73 = .ok (.istore_n 3, 1) := by decide +kernel
theorem dX5_readNumber_74 : decode cX5_readNumber 74 = .ok (.aload_n 0, 1) := by decide +kernel
theorem dX5_readNumber_75 : decode cX5_readNumber 75 = .ok (.dup, 1) := by decide +kernel
theorem dX5_readNumber_76 : decode cX5_readNumber 76 = .ok (.getfield 34, 3) := by decide +kernel
theorem dX5_readNumber_79 : decode cX5_readNumber 79 = .ok (.iconst 1, 1) := by decide +kernel
theorem dX5_readNumber_80 : decode cX5_readNumber 80 = .ok (.iadd, 1) := by decide +kernel
theorem dX5_readNumber_81 : decode cX5_readNumber 81 = .ok (.putfield 34, 3) := by decide +kernel
theorem dX5_readNumber_84 : decode cX5_readNumber 84 = .ok (.iinc 4 1, 3) := by decide +kernel
theorem dX5_readNumber_87 : decode cX5_readNumber 87 = .ok (.goto (-63), 3) := by decide +kernel
theorem dX5_readNumber_90 : decode cX5_readNumber 90 = .ok (.iload_n 3, 1) := by decide +kernel
theorem dX5_readNumber_91 : decode cX5_readNumber 91 = .ok (.iconst 1, 1) := by decide +kernel
theorem dX5_readNumber_92 : decode cX5_readNumber 92 = .ok (.if_icmp .lt 8, 3) := by decide +kernel
theorem dX5_readNumber_95 : decode cX5_readNumber 95 = .ok (.iload_n 3, 1) := by decide +kernel
theorem dX5_readNumber_96 : decode cX5_readNumber 96 = .ok (.iload_n 1, 1) := by decide +kernel
theorem dX5_readNumber_97 : decode cX5_readNumber 97 = .ok (.if_icmp .le 8, 3) := by decide +kernel
theorem dX5_readNumber_100 : decode cX5_readNumber 100 = .ok (.aload_n 0, 1) := by decide +kernel
theorem dX5_readNumber_101 : decode cX5_readNumber 101 = .ok (.iload_n 2, 1) := by decide +kernel
theorem dX5_readNumber_102 : decode cX5_readNumber 102 = .ok (.putfield 37, 3) := by decide +kernel
theorem dX5_readNumber_105 : decode cX5_readNumber 105 = .ok (.iload_n 3, 1) := by decide +kernel
theorem dX5_readNumber_106 : decode cX5_readNumber 106 = .ok (.ireturn, 1) := by decide +kernel
theorem dX5_skipBlanks_0 : decode cX5_skipBlanks 0 = .ok (.aload_n 0, 1) := by decide +kernel
theorem dX5_skipBlanks_1 : decode cX5_skipBlanks 1 = .ok (.getfield 34, 3) := by decide +kernel
theorem dX5_skipBlanks_4 : decode cX5_skipBlanks 4 = .ok (.aload_n 0, 1) := by decide +kernel
theorem dX5_skipBlanks_5 : decode cX5_skipBlanks 5 = .ok (.getfield 15, 3) := by decide +kernel
theorem dX5_skipBlanks_8 : decode cX5_skipBlanks 8 = .ok (.if_icmp .ge 30, 3) := by decide +kernel
theorem dX5_skipBlanks_11 : decode cX5_skipBlanks 11 = .ok (.aload_n 0, 1) := by decide +kernel
theorem dX5_skipBlanks_12 : decode cX5_skipBlanks 12 = .ok (.getfield 11, 3) := by decide +kernel
theorem dX5_skipBlanks_15 : decode cX5_skipBlanks 15 = .ok (.aload_n 0, 1) := by decide +kernel
theorem dX5_skipBlanks_16 : decode cX5_skipBlanks 16 = .ok (.getfield 34, 3) := by decide +kernel
theorem dX5_skipBlanks_19 : decode cX5_skipBlanks 19 = .ok (.iaload, 1) := by decide +kernel
theorem dX5_skipBlanks_20 : decode cX5_skipBlanks 20 = .ok (.bipush 32, 2) := by decide +kernel
theorem dX5_skipBlanks_22 : decode cX5_skipBlanks 22 = .ok (.if_icmp .ne 16, 3) := by decide +kernel
theorem dX5_skipBlanks_25 : decode cX5_skipBlanks 25 = .ok (.aload_n 0, 1) := by decide +kernel
theorem dX5_skipBlanks_26 : decode cX5_skipBlanks 26 = .ok (.dup, 1) := by decide +kernel
theorem dX5_skipBlanks_27 : decode cX5_skipBlanks 27 = .ok (.getfield 34, 3) := by decide +kernel
theorem dX5_skipBlanks_30 : decode cX5_skipBlanks 30 = .ok (.iconst 1, 1) := by decide +kernel
theorem dX5_skipBlanks_31 : decode cX5_skipBlanks 31 = .ok (.iadd, 1) := by decide +kernel
theorem dX5_skipBlanks_32 : decode cX5_skipBlanks 32 = .ok (.putfield 34, 3) := by decide +kernel
theorem dX5_skipBlanks_35 : decode cX5_skipBlanks 35 = .ok (.goto (-35), 3) := by decide +kernel
theorem dX5_skipBlanks_38 : decode cX5_skipBlanks 38 = .ok (.return_, 1) := by decide +kernel
theorem dX5_isDigit_0 : decode cX5_isDigit 0 = .ok (.iload_n 0, 1) := by decide +kernel
theorem dX5_isDigit_1 : decode cX5_isDigit 1 = .ok (.bipush 48, 2) := by decide +kernel
theorem dX5_isDigit_3 : decode cX5_isDigit 3 = .ok (.if_icmp .lt 13, 3) := by decide +kernel
theorem dX5_isDigit_6 : decode cX5_isDigit 6 = .ok (.iload_n 0, 1) := by decide +kernel
theorem dX5_isDigit_7 : decode cX5_isDigit 7 = .ok (.bipush 57, 2) := by decide +kernel
theorem dX5_isDigit_9 : decode cX5_isDigit 9 = .ok (.if_icmp .gt 7, 3) := by decide +kernel
theorem dX5_isDigit_12 : decode cX5_isDigit 12 = .ok (.iconst 1, 1) := by decide +kernel
theorem dX5_isDigit_13 : decode cX5_isDigit 13 = .ok (.goto 4, 3) := by decide +kernel
theorem dX5_isDigit_16 : decode cX5_isDigit 16 = .ok (.iconst 0, 1) := by decide +kernel
theorem dX5_isDigit_17 : decode cX5_isDigit 17 = .ok (.ireturn, 1) := by decide +kernel
theorem dX5_begin_0 : decode cX5_begin 0 = .ok (.aload_n 0, 1) := by decide +kernel
theorem dX5_begin_1 : decode cX5_begin 1 = .ok (.iconst 0, 1) := by decide +kernel
theorem dX5_begin_2 : decode cX5_begin 2 = .ok (.putfield 46, 3) := by decide +kernel
theorem dX5_begin_5 : decode cX5_begin 5 = .ok (.aload_n 0, 1) := by decide +kernel
theorem dX5_begin_6 : decode cX5_begin 6 = .ok (.iconst 0, 1) := by decide +kernel
theorem dX5_begin_7 : decode cX5_begin 7 = .ok (.putfield 49, 3) := by decide +kernel
theorem dX5_begin_10 : decode cX5_begin 10 = .ok (.return_, 1) := by decide +kernel
theorem dX5_nextCall_0 : decode cX5_nextCall 0 = .ok (.iconst 0, 1) := by decide +kernel
theorem dX5_nextCall_1 : decode cX5_nextCall 1 = .ok (.istore_n 1, 1) := by decide +kernel
theorem dX5_nextCall_2 : decode cX5_nextCall 2 = .ok (.iload_n 1, 1) := by decide +kernel
theorem dX5_nextCall_3 : decode cX5_nextCall 3 = .ok (.sipush 1000, 3) := by decide +kernel
theorem dX5_nextCall_6 : decode cX5_nextCall 6 = .ok (.if_icmp .ge 96, 3) := by decide +kernel
theorem dX5_nextCall_9 : decode cX5_nextCall 9 = .ok (.aload_n 0, 1) := by decide +kernel
theorem dX5_nextCall_10 : decode cX5_nextCall 10 = .ok (.getfield 46, 3) := by decide +kernel
theorem dX5_nextCall_13 : decode cX5_nextCall 13 = .ok (.aload_n 0, 1) := by decide +kernel
theorem dX5_nextCall_14 : decode cX5_nextCall 14 = .ok (.getfield 31, 3) := by decide +kernel
theorem dX5_nextCall_17 : decode cX5_nextCall 17 = .ok (.if_icmp .ge 85, 3) := by decide +kernel
theorem dX5_nextCall_20 : decode cX5_nextCall 20 = .ok (.aload_n 0, 1) := by decide +kernel
theorem dX5_nextCall_21 : decode cX5_nextCall 21 = .ok (.getfield 46, 3) := by decide +kernel
theorem dX5_nextCall_24 : decode cX5_nextCall 24 = .ok (.istore_n 2, 1) := by decide +kernel
theorem dX5_nextCall_25 : decode cX5_nextCall 25 = .ok (.aload_n 0, 1) := by decide +kernel
theorem dX5_nextCall_26 : decode cX5_nextCall 26 = .ok (.dup, 1) := by decide +kernel
theorem dX5_nextCall_27 : decode cX5_nextCall 27 = .ok (.getfield 46, 3) := by decide +kernel
theorem dX5_nextCall_30 : decode cX5_nextCall 30 = .ok (.iconst 1, 1) := by decide +kernel
theorem dX5_nextCall_31 : decode cX5_nextCall 31 = .ok (.iadd, 1) := by decide +kernel
theorem dX5_nextCall_32 : decode cX5_nextCall 32 = .ok (.putfield 46, 3) := by decide +kernel
theorem dX5_nextCall_35 : decode cX5_nextCall 35 = .ok (.aload_n 0, 1) := by decide +kernel
theorem dX5_nextCall_36 : decode cX5_nextCall 36 = .ok (.getfield 19, 3) := by decide +kernel
theorem dX5_nextCall_39 : decode cX5_nextCall 39 = .ok (.iload_n 2, 1) := by decide +kernel
theorem dX5_nextCall_40 : decode cX5_nextCall 40 = .ok (.iaload, 1) := by decide +kernel
theorem dX5_nextCall_41 : decode cX5_nextCall 41 = .ok (.bipush 41, 2) := by decide +kernel
theorem dX5_nextCall_43 : decode cX5_nextCall 43 = .ok (.if_icmp .ne 16, 3) := by decide +kernel
theorem dX5_nextCall_46 : decode cX5_nextCall 46 = .ok (.aload_n 0, 1) := by decide +kernel
theorem dX5_nextCall_47 : decode cX5_nextCall 47 = .ok (.aload_n 0, 1) := by decide +kernel
theorem dX5_nextCall_48 : decode cX5_nextCall 48 = .ok (.getfield 28, 3) := by decide +kernel
theorem dX5_nextCall_51 : decode cX5_nextCall 51 = .ok (.iload_n 2, 1) := by decide +kernel
theorem dX5_nextCall_52 : decode cX5_nextCall 52 = .ok (.iaload, 1) := by decide +kernel
theorem dX5_nextCall_53 : decode cX5_nextCall 53 = .ok (.invokevirtual 86, 3) := by decide +kernel
theorem dX5_nextCall_56 : decode cX5_nextCall 56 = .ok (.goto 40, 3) := by decide +kernel
theorem dX5_nextCall_59 : decode cX5_nextCall 59 = .ok (.aload_n 0, 1) := by decide +kernel
theorem dX5_nextCall_60 : decode cX5_nextCall 60 = .ok (.invokevirtual 90, 3) := by decide +kernel
theorem dX5_nextCall_63 : decode cX5_nextCall 63 = .ok (.ifCond .ne 5, 3) := by decide +kernel
theorem dX5_nextCall_66 : decode cX5_nextCall 66 = .ok (.iconst (-1), 1) := by decide +kernel
theorem dX5_nextCall_67 : decode cX5_nextCall 67 = .ok (.ireturn, 1) := by decide +kernel
theorem dX5_nextCall_68 : decode cX5_nextCall 68 = .ok (.aload_n 0, 1) := by decide +kernel
theorem dX5_nextCall_69 : decode cX5_nextCall 69 = .ok (.getfield 19, 3) := by decide +kernel
theorem dX5_nextCall_72 : decode cX5_nextCall 72 = .ok (.iload_n 2, 1) := by decide +kernel
theorem dX5_nextCall_73 : decode cX5_nextCall 73 = .ok (.iaload, 1) := by decide +kernel
theorem dX5_nextCall_74 : decode cX5_nextCall 74 = .ok (.bipush 40, 2) := by decide +kernel
theorem dX5_nextCall_76 : decode cX5_nextCall 76 = .ok (.if_icmp .ne 18, 3) := by decide +kernel
theorem dX5_nextCall_79 : decode cX5_nextCall 79 = .ok (.aload_n 0, 1) := by decide +kernel
theorem dX5_nextCall_80 : decode cX5_nextCall 80 = .ok (.getfield 52, 3) := by decide +kernel
theorem dX5_nextCall_83 : decode cX5_nextCall 83 = .ok (.iload_n 2, 1) := by decide +kernel
theorem dX5_nextCall_84 : decode cX5_nextCall 84 = .ok (.aload_n 0, 1) := by decide +kernel
theorem dX5_nextCall_85 : decode cX5_nextCall 85 = .ok (.getfield 28, 3) := by decide +kernel
theorem dX5_nextCall_88 : decode cX5_nextCall 88 = .ok (.iload_n 2, 1) := by decide +kernel
theorem dX5_nextCall_89 : decode cX5_nextCall 89 = .ok (.iaload, 1) := by decide +kernel
theorem dX5_nextCall_90 : decode cX5_nextCall 90 = .ok (.iastore, 1) := by decide +kernel
theorem dX5_nextCall_91 : decode cX5_nextCall 91 = .ok (.goto 5, 3) := by decide +kernel
theorem dX5_nextCall_94 : decode cX5_nextCall 94 = .ok (.iload_n 2, 1) := by decide +kernel
theorem dX5_nextCall_95 : decode cX5_nextCall 95 = .ok (.ireturn, 1) := by decide +kernel
theorem dX5_nextCall_96 : decode cX5_nextCall 96 = .ok (.iinc 1 1, 3) := by decide +kernel
theorem dX5_nextCall_99 : decode cX5_nextCall 99 = .ok (.goto (-97), 3) := by decide +kernel
theorem dX5_nextCall_102 : decode cX5_nextCall 102 = .ok (.iconst (-1), 1) := by decide +kernel
theorem dX5_nextCall_103 : decode cX5_nextCall 103 = .ok (.ireturn, 1) := by decide +kernel
theorem dX5_endRepetition_0 : decode cX5_endRepetition 0 = .ok (.aload_n 0, 1) := by decide +kernel
theorem dX5_endRepetition_1 : decode cX5_endRepetition 1 = .ok (.getfield 52, 3) := by decide +kernel
theorem dX5_endRepetition_4 : decode cX5_endRepetition 4 = .ok (.iload_n 1, 1) := by decide +kernel
theorem dX5_endRepetition_5 : decode cX5_endRepetition 5 = .ok (.dup2, 1) := by decide +kernel
theorem dX5_endRepetition_6 : decode cX5_endRepetition 6 = .ok (.iaload, 1) := by decide +kernel
theorem dX5_endRepetition_7 : decode cX5_endRepetition 7 = .ok (.iconst 1, 1) := by decide +kernel
theorem dX5_endRepetition_8 : decode cX5_endRepetition 8 = .ok (.isub, 1) := by decide +kernel
theorem dX5_endRepetition_9 : decode cX5_endRepetition 9 = .ok (.iastore, 1) := by decide +kernel
theorem dX5_endRepetition_10 : decode cX5_endRepetition 10 = .ok (.aload_n 0, 1) := by decide +kernel
theorem dX5_endRepetition_11 : decode cX5_endRepetition 11 = .ok (.getfield 52, 3) := by decide +kernel
theorem dX5_endRepetition_14 : decode cX5_endRepetition 14 = .ok (.iload_n 1, 1) := by decide +kernel
theorem dX5_endRepetition_15 : decode cX5_endRepetition 15 = .ok (.iaload, 1) := by decide +kernel
theorem dX5_endRepetition_16 : decode cX5_endRepetition 16 = .ok (.ifCond .le 17, 3) := by decide +kernel
theorem dX5_endRepetition_19 : decode cX5_endRepetition 19 = .ok (.aload_n 0, 1) := by decide +kernel
theorem dX5_endRepetition_20 : decode cX5_endRepetition 20 = .ok (.invokevirtual 90, 3) := by decide +kernel
theorem dX5_endRepetition_23 : decode cX5_endRepetition 23 = .ok (.ifCond .eq 10, 3) := by decide +kernel
theorem dX5_endRepetition_26 : decode cX5_endRepetition 26 = .ok (.aload_n 0, 1) := by decide +kernel
theorem dX5_endRepetition_27 : decode cX5_endRepetition 27 = .ok (.iload_n 1, 1) := by decide +kernel
theorem dX5_endRepetition_28 : decode cX5_endRepetition 28 = .ok (.iconst 1, 1) := by decide +kernel
theorem dX5_endRepetition_29 : decode cX5_endRepetition 29 = .ok (.iadd, 1) := by decide +kernel
theorem dX5_endRepetition_30 : decode cX5_endRepetition 30 = .ok (.putfield 46, 3) := by decide +kernel
theorem dX5_endRepetition_33 : decode cX5_endRepetition 33 = .ok (.return_, 1) := by decide +kernel
theorem dX5_useUnit_0 : decode cX5_useUnit 0 = .ok (.aload_n 0, 1) := by decide +kernel
theorem dX5_useUnit_1 : decode cX5_useUnit 1 = .ok (.getfield 49, 3) := by decide +kernel
theorem dX5_useUnit_4 : decode cX5_useUnit 4 = .ok (.sipush 200, 3) := by decide +kernel
theorem dX5_useUnit_7 : decode cX5_useUnit 7 = .ok (.if_icmp .lt 13, 3) := by decide +kernel
theorem dX5_useUnit_10 : decode cX5_useUnit 10 = .ok (.aload_n 0, 1) := by decide +kernel
theorem dX5_useUnit_11 : decode cX5_useUnit 11 = .ok (.aload_n 0, 1) := by decide +kernel
theorem dX5_useUnit_12 : decode cX5_useUnit 12 = .ok (.getfield 31, 3) := by decide +kernel
theorem dX5_useUnit_15 : decode cX5_useUnit 15 = .ok (.putfield 46, 3) := by decide +kernel
theorem dX5_useUnit_18 : decode cX5_useUnit 18 = .ok (.iconst 0, 1) := by decide +kernel
theorem dX5_useUnit_19 : decode cX5_useUnit 19 = .ok (.ireturn, 1) := by decide +kernel
theorem dX5_useUnit_20 : decode cX5_useUnit 20 = .ok (.aload_n 0, 1) := by decide +kernel
theorem dX5_useUnit_21 : decode cX5_useUnit 21 = .ok (.dup, 1) := by decide +kernel
theorem dX5_useUnit_22 : decode cX5_useUnit 22 = .ok (.getfield 49, 3) := by decide +kernel
theorem dX5_useUnit_25 : decode cX5_useUnit 25 = .ok (.iconst 1, 1) := by decide +kernel
theorem dX5_useUnit_26 : decode cX5_useUnit 26 = .ok (.iadd, 1) := by decide +kernel
theorem dX5_useUnit_27 : decode cX5_useUnit 27 = .ok (.putfield 49, 3) := by decide +kernel
theorem dX5_useUnit_30 : decode cX5_useUnit 30 = .ok (.iconst 1, 1) := by decide +kernel
theorem dX5_useUnit_31 : decode cX5_useUnit 31 = .ok (.ireturn, 1) := by decide +kernel
theorem dX6_init_0 : decode cX6_init 0 = .ok (.aload_n 0, 1) := by decide +kernel
theorem dX6_init_1 : decode cX6_init 1 = .ok (.invokespecial 1, 3) := by decide +kernel
theorem dX6_init_4 : decode cX6_init 4 = .ok (.aload_n 0, 1) := by decide +kernel
theorem dX6_init_5 : decode cX6_init 5 = .ok (.new 7, 3) := by decide +kernel
theorem dX6_init_8 : decode cX6_init 8 = .ok (.dup, 1) := by decide +kernel
theorem dX6_init_9 : decode cX6_init 9 = .ok (.invokespecial 9, 3) := by decide +kernel
theorem dX6_init_12 : decode cX6_init 12 = .ok (.putfield 10, 3) := by decide +kernel
theorem dX6_init_15 : decode cX6_init 15 = .ok (.aload_n 0, 1) := by decide +kernel
theorem dX6_init_16 : decode cX6_init 16 = .ok (.new 7, 3) := by decide +kernel
theorem dX6_init_19 : decode cX6_init 19 = .ok (.dup, 1) := by decide +kernel
theorem dX6_init_20 : decode cX6_init 20 = .ok (.invokespecial 9, 3) := by decide +kernel
theorem dX6_init_23 : decode cX6_init 23 = .ok (.putfield 16, 3) := by decide +kernel
theorem dX6_init_26 : decode cX6_init 26 = .ok (.aload_n 0, 1) := by decide +kernel
theorem dX6_init_27 : decode cX6_init 27 = .ok (.iconst 2, 1) := by decide +kernel
theorem dX6_init_28 : decode cX6_init 28 = .ok (.anewarray 7, 3) := by decide +kernel
theorem dX6_init_31 : decode cX6_init 31 = .ok (.putfield 19, 3) := by decide +kernel
theorem dX6_init_34 : decode cX6_init 34 = .ok (.iconst 0, 1) := by decide +kernel
theorem dX6_init_35 : decode cX6_init 35 = .ok (.istore_n 1, 1) := by decide +kernel
theorem dX6_init_36 : decode cX6_init 36 = .ok (.iload_n 1, 1) := by decide +kernel
theorem dX6_init_37 : decode cX6_init 37 = .ok (.iconst 2, 1) := by decide +kernel
theorem dX6_init_38 : decode cX6_init 38 = .ok (.if_icmp .ge 22, 3) := by decide +kernel
theorem dX6_init_41 : decode cX6_init 41 = .ok (.aload_n 0, 1) := by decide +kernel
theorem dX6_init_42 : decode cX6_init 42 = .ok (.getfield 19, 3) := by decide +kernel
theorem dX6_init_45 : decode cX6_init 45 = .ok (.iload_n 1, 1) := by decide +kernel
theorem dX6_init_46 : decode cX6_init 46 = .ok (.new 7, 3) := by decide +kernel
theorem dX6_init_49 : decode cX6_init 49 = .ok (.dup, 1) := by decide +kernel
theorem dX6_init_50 : decode cX6_init 50 = .ok (.invokespecial 9, 3) := by decide +kernel
theorem dX6_init_53 : decode cX6_init 53 = .ok (.aastore, 1) := by decide +kernel
theorem dX6_init_54 : decode cX6_init 54 = .ok (.iinc 1 1, 3) := by decide +kernel
theorem dX6_init_57 : decode cX6_init 57 = .ok (.goto (-21), 3) := by decide +kernel
theorem dX6_init_60 : decode cX6_init 60 = .ok (.aload_n 0, 1) := by decide +kernel
theorem dX6_init_61 : decode cX6_init 61 = .ok (.iconst 2, 1) := by decide +kernel
theorem dX6_init_62 : decode cX6_init 62 = .ok (.newarray .boolean, 2) := by decide +kernel
theorem dX6_init_64 : decode cX6_init 64 = .ok (.putfield 23, 3) := by decide +kernel
theorem dX6_init_67 : decode cX6_init 67 = .ok (.aload_n 0, 1) := by decide +kernel
theorem dX6_init_68 : decode cX6_init 68 = .ok (.new 27, 3) := by decide +kernel
theorem dX6_init_71 : decode cX6_init 71 = .ok (.dup, 1) := by decide +kernel
theorem dX6_init_72 : decode cX6_init 72 = .ok (.invokespecial 29, 3) := by decide +kernel
theorem dX6_init_75 : decode cX6_init 75 = .ok (.putfield 30, 3) := by decide +kernel
theorem dX6_init_78 : decode cX6_init 78 = .ok (.return_, 1) := by decide +kernel
theorem dX6_setCapacity_0 : decode cX6_setCapacity 0 = .ok (.iload_n 1, 1) := by decide +kernel
theorem dX6_setCapacity_1 : decode cX6_setCapacity 1 = .ok (.invokestatic 34, 3) := by decide +kernel
theorem dX6_setCapacity_4 : decode cX6_setCapacity 4 = .ok (.ifCond .eq 13, 3) := by decide +kernel
theorem dX6_setCapacity_7 : decode cX6_setCapacity 7 = .ok (.iload_n 2, 1) := by decide +kernel
theorem dX6_setCapacity_8 : decode cX6_setCapacity 8 = .ok (.iconst 1, 1) := by decide +kernel
theorem dX6_setCapacity_9 : decode cX6_setCapacity 9 = .ok (.bipush 8, 2) := by decide +kernel
theorem dX6_setCapacity_11 : decode cX6_setCapacity 11 = .ok (.invokestatic 38, 3) := by decide +kernel
theorem dX6_setCapacity_14 : decode cX6_setCapacity 14 = .ok (.ifCond .ne 6, 3) := by decide +kernel
theorem dX6_setCapacity_17 : decode cX6_setCapacity 17 = .ok (.bipush (-2), 2) := by decide +kernel
theorem dX6_setCapacity_19 : decode cX6_setCapacity 19 = .ok (.ireturn, 1) := by decide +kernel
theorem dX6_setCapacity_20 : decode cX6_setCapacity 20 = .ok (.aload_n 0, 1) := by decide +kernel
theorem dX6_setCapacity_21 : decode cX6_setCapacity 21 = .ok (.getfield 10, 3) := by decide +kernel
theorem dX6_setCapacity_24 : decode cX6_setCapacity 24 = .ok (.getfield 42, 3) := by decide +kernel
theorem dX6_setCapacity_27 : decode cX6_setCapacity 27 = .ok (.iload_n 1, 1) := by decide +kernel
theorem dX6_setCapacity_28 : decode cX6_setCapacity 28 = .ok (.aaload, 1) := by decide +kernel
theorem dX6_setCapacity_29 : decode cX6_setCapacity 29 = .ok (.getfield 46, 3) := by decide +kernel
theorem dX6_setCapacity_32 : decode cX6_setCapacity 32 = .ok (.istore_n 3, 1) := by decide +kernel
theorem dX6_setCapacity_33 : decode cX6_setCapacity 33 = .ok (.aload_n 0, 1) := by decide +kernel
theorem dX6_setCapacity_34 : decode cX6_setCapacity 34 = .ok (.getfield 10, 3) := by decide +kernel
theorem dX6_setCapacity_37 : decode cX6_setCapacity 37 = .ok (.getfield 42, 3) := by decide +kernel
theorem dX6_setCapacity_40 : decode cX6_setCapacity 40 = .ok (.iload_n 1, 1) := by decide +kernel
theorem dX6_setCapacity_41 : decode cX6_setCapacity 41 = .ok (.aaload, 1) := by decide +kernel
theorem dX6_setCapacity_42 : decode cX6_setCapacity 42 = .ok (.iload_n 2, 1) := by decide +kernel
theorem dX6_setCapacity_43 : decode cX6_setCapacity 43 = .ok (.putfield 46, 3) := by decide +kernel
theorem dX6_setCapacity_46 : decode cX6_setCapacity 46 = .ok (.iload_n 3, 1) := by decide +kernel
theorem dX6_setCapacity_47 : decode cX6_setCapacity 47 = .ok (.ireturn, 1) := by decide +kernel
theorem dX6_setShare_0 : decode cX6_setShare 0 = .ok (.iload_n 1, 1) := by decide +kernel
theorem dX6_setShare_1 : decode cX6_setShare 1 = .ok (.invokestatic 34, 3) := by decide +kernel
theorem dX6_setShare_4 : decode cX6_setShare 4 = .ok (.ifCond .eq 13, 3) := by decide +kernel
theorem dX6_setShare_7 : decode cX6_setShare 7 = .ok (.iload_n 2, 1) := by decide +kernel
theorem dX6_setShare_8 : decode cX6_setShare 8 = .ok (.iconst 1, 1) := by decide +kernel
theorem dX6_setShare_9 : decode cX6_setShare 9 = .ok (.bipush 9, 2) := by decide +kernel
theorem dX6_setShare_11 : decode cX6_setShare 11 = .ok (.invokestatic 38, 3) := by decide +kernel
theorem dX6_setShare_14 : decode cX6_setShare 14 = .ok (.ifCond .ne 6, 3) := by decide +kernel
theorem dX6_setShare_17 : decode cX6_setShare 17 = .ok (.bipush (-2), 2) := by decide +kernel
theorem dX6_setShare_19 : decode cX6_setShare 19 = .ok (.ireturn, 1) := by decide +kernel
theorem dX6_setShare_20 : decode cX6_setShare 20 = .ok (.aload_n 0, 1) := by decide +kernel
theorem dX6_setShare_21 : decode cX6_setShare 21 = .ok (.getfield 10, 3) := by decide +kernel
theorem dX6_setShare_24 : decode cX6_setShare 24 = .ok (.getfield 42, 3) := by decide +kernel
theorem dX6_setShare_27 : decode cX6_setShare 27 = .ok (.iload_n 1, 1) := by decide +kernel
theorem dX6_setShare_28 : decode cX6_setShare 28 = .ok (.aaload, 1) := by decide +kernel
theorem dX6_setShare_29 : decode cX6_setShare 29 = .ok (.getfield 52, 3) := by decide +kernel
theorem dX6_setShare_32 : decode cX6_setShare 32 = .ok (.istore_n 3, 1) := by decide +kernel
theorem dX6_setShare_33 : decode cX6_setShare 33 = .ok (.aload_n 0, 1) := by decide +kernel
theorem dX6_setShare_34 : decode cX6_setShare 34 = .ok (.getfield 10, 3) := by decide +kernel
theorem dX6_setShare_37 : decode cX6_setShare 37 = .ok (.getfield 42, 3) := by decide +kernel
theorem dX6_setShare_40 : decode cX6_setShare 40 = .ok (.iload_n 1, 1) := by decide +kernel
theorem dX6_setShare_41 : decode cX6_setShare 41 = .ok (.aaload, 1) := by decide +kernel
theorem dX6_setShare_42 : decode cX6_setShare 42 = .ok (.iload_n 2, 1) := by decide +kernel
theorem dX6_setShare_43 : decode cX6_setShare 43 = .ok (.putfield 52, 3) := by decide +kernel
theorem dX6_setShare_46 : decode cX6_setShare 46 = .ok (.iload_n 3, 1) := by decide +kernel
theorem dX6_setShare_47 : decode cX6_setShare 47 = .ok (.ireturn, 1) := by decide +kernel
theorem dX6_setRule_0 : decode cX6_setRule 0 = .ok (.iload_n 1, 1) := by decide +kernel
theorem dX6_setRule_1 : decode cX6_setRule 1 = .ok (.iconst 0, 1) := by decide +kernel
theorem dX6_setRule_2 : decode cX6_setRule 2 = .ok (.iconst 2, 1) := by decide +kernel
theorem dX6_setRule_3 : decode cX6_setRule 3 = .ok (.invokestatic 38, 3) := by decide +kernel
theorem dX6_setRule_6 : decode cX6_setRule 6 = .ok (.ifCond .eq 15, 3) := by decide +kernel
theorem dX6_setRule_9 : decode cX6_setRule 9 = .ok (.iload_n 2, 1) := by decide +kernel
theorem dX6_setRule_10 : decode cX6_setRule 10 = .ok (.iconst 1, 1) := by decide +kernel
theorem dX6_setRule_11 : decode cX6_setRule 11 = .ok (.iload_n 1, 1) := by decide +kernel
theorem dX6_setRule_12 : decode cX6_setRule 12 = .ok (.invokestatic 55, 3) := by decide +kernel
theorem dX6_setRule_15 : decode cX6_setRule 15 = .ok (.invokestatic 38, 3) := by decide +kernel
theorem dX6_setRule_18 : decode cX6_setRule 18 = .ok (.ifCond .ne 6, 3) := by decide +kernel
theorem dX6_setRule_21 : decode cX6_setRule 21 = .ok (.bipush (-2), 2) := by decide +kernel
theorem dX6_setRule_23 : decode cX6_setRule 23 = .ok (.ireturn, 1) := by decide +kernel
theorem dX6_setRule_24 : decode cX6_setRule 24 = .ok (.aload_n 0, 1) := by decide +kernel
theorem dX6_setRule_25 : decode cX6_setRule 25 = .ok (.getfield 10, 3) := by decide +kernel
theorem dX6_setRule_28 : decode cX6_setRule 28 = .ok (.getfield 59, 3) := by decide +kernel
theorem dX6_setRule_31 : decode cX6_setRule 31 = .ok (.iload_n 1, 1) := by decide +kernel
theorem dX6_setRule_32 : decode cX6_setRule 32 = .ok (.iaload, 1) := by decide +kernel
theorem dX6_setRule_33 : decode cX6_setRule 33 = .ok (.istore_n 3, 1) := by decide +kernel
theorem dX6_setRule_34 : decode cX6_setRule 34 = .ok (.aload_n 0, 1) := by decide +kernel
theorem dX6_setRule_35 : decode cX6_setRule 35 = .ok (.getfield 10, 3) := by decide +kernel
theorem dX6_setRule_38 : decode cX6_setRule 38 = .ok (.getfield 59, 3) := by decide +kernel
theorem dX6_setRule_41 : decode cX6_setRule 41 = .ok (.iload_n 1, 1) := by decide +kernel
theorem dX6_setRule_42 : decode cX6_setRule 42 = .ok (.iload_n 2, 1) := by decide +kernel
theorem dX6_setRule_43 : decode cX6_setRule 43 = .ok (.iastore, 1) := by decide +kernel
theorem dX6_setRule_44 : decode cX6_setRule 44 = .ok (.iload_n 3, 1) := by decide +kernel
theorem dX6_setRule_45 : decode cX6_setRule 45 = .ok (.ireturn, 1) := by decide +kernel
theorem dX6_request_0 : decode cX6_request 0 = .ok (.iload_n 1, 1) := by decide +kernel
theorem dX6_request_1 : decode cX6_request 1 = .ok (.invokestatic 63, 3) := by decide +kernel
theorem dX6_request_4 : decode cX6_request 4 = .ok (.ifCond .eq 21, 3) := by decide +kernel
theorem dX6_request_7 : decode cX6_request 7 = .ok (.iload_n 2, 1) := by decide +kernel
theorem dX6_request_8 : decode cX6_request 8 = .ok (.invokestatic 34, 3) := by decide +kernel
theorem dX6_request_11 : decode cX6_request 11 = .ok (.ifCond .eq 14, 3) := by decide +kernel
theorem dX6_request_14 : decode cX6_request 14 = .ok (.iload_n 3, 1) := by decide +kernel
theorem dX6_request_15 : decode cX6_request 15 = .ok (.iconst 1, 1) := by decide +kernel
theorem dX6_request_16 : decode cX6_request 16 = .ok (.sipush 999, 3) := by decide +kernel
theorem dX6_request_19 : decode cX6_request 19 = .ok (.invokestatic 38, 3) := by decide +kernel
theorem dX6_request_22 : decode cX6_request 22 = .ok (.ifCond .ne 6, 3) := by decide +kernel
theorem dX6_request_25 : decode cX6_request 25 = .ok (.bipush (-2), 2) := by decide +kernel
theorem dX6_request_27 : decode cX6_request 27 = .ok (.ireturn, 1) := by decide +kernel
theorem dX6_request_28 : decode cX6_request 28 = .ok (.aload_n 0, 1) := by decide +kernel
theorem dX6_request_29 : decode cX6_request 29 = .ok (.getfield 10, 3) := by decide +kernel
theorem dX6_request_32 : decode cX6_request 32 = .ok (.getfield 66, 3) := by decide +kernel
theorem dX6_request_35 : decode cX6_request 35 = .ok (.iload_n 1, 1) := by decide +kernel
theorem dX6_request_36 : decode cX6_request 36 = .ok (.aaload, 1) := by decide +kernel
theorem dX6_request_37 : decode cX6_request 37 = .ok (.getfield 70, 3) := by decide +kernel
theorem dX6_request_40 : decode cX6_request 40 = .ok (.ifCond .eq 6, 3) := by decide +kernel
theorem dX6_request_43 : decode cX6_request 43 = .ok (.bipush (-3), 2) := by decide +kernel
theorem dX6_request_45 : decode cX6_request 45 = .ok (.ireturn, 1) := by decide +kernel
theorem dX6_request_46 : decode cX6_request 46 = .ok (.aload_n 0, 1) := by decide +kernel
theorem dX6_request_47 : decode cX6_request 47 = .ok (.getfield 10, 3) := by decide +kernel
theorem dX6_request_50 : decode cX6_request 50 = .ok (.iload_n 1, 1) := by decide +kernel
theorem dX6_request_51 : decode cX6_request 51 = .ok (.iload_n 2, 1) := by decide +kernel
theorem dX6_request_52 : decode cX6_request 52 = .ok (.iload_n 3, 1) := by decide +kernel
theorem dX6_request_53 : decode cX6_request 53 = .ok (.invokevirtual 75, 3) := by decide +kernel
theorem dX6_request_56 : decode cX6_request 56 = .ok (.aload_n 0, 1) := by decide +kernel
theorem dX6_request_57 : decode cX6_request 57 = .ok (.getfield 10, 3) := by decide +kernel
theorem dX6_request_60 : decode cX6_request 60 = .ok (.invokevirtual 79, 3) := by decide +kernel
theorem dX6_request_63 : decode cX6_request 63 = .ok (.aload_n 0, 1) := by decide +kernel
theorem dX6_request_64 : decode cX6_request 64 = .ok (.getfield 10, 3) := by decide +kernel
theorem dX6_request_67 : decode cX6_request 67 = .ok (.getfield 66, 3) := by decide +kernel
theorem dX6_request_70 : decode cX6_request 70 = .ok (.iload_n 1, 1) := by decide +kernel
theorem dX6_request_71 : decode cX6_request 71 = .ok (.aaload, 1) := by decide +kernel
theorem dX6_request_72 : decode cX6_request 72 = .ok (.getfield 70, 3) := by decide +kernel
theorem dX6_request_75 : decode cX6_request 75 = .ok (.ireturn, 1) := by decide +kernel
theorem dX6_withdraw_0 : decode cX6_withdraw 0 = .ok (.iload_n 1, 1) := by decide +kernel
theorem dX6_withdraw_1 : decode cX6_withdraw 1 = .ok (.invokestatic 63, 3) := by decide +kernel
theorem dX6_withdraw_4 : decode cX6_withdraw 4 = .ok (.ifCond .ne 6, 3) := by decide +kernel
theorem dX6_withdraw_7 : decode cX6_withdraw 7 = .ok (.bipush (-2), 2) := by decide +kernel
theorem dX6_withdraw_9 : decode cX6_withdraw 9 = .ok (.ireturn, 1) := by decide +kernel
theorem dX6_withdraw_10 : decode cX6_withdraw 10 = .ok (.aload_n 0, 1) := by decide +kernel
theorem dX6_withdraw_11 : decode cX6_withdraw 11 = .ok (.getfield 10, 3) := by decide +kernel
theorem dX6_withdraw_14 : decode cX6_withdraw 14 = .ok (.getfield 66, 3) := by decide +kernel
theorem dX6_withdraw_17 : decode cX6_withdraw 17 = .ok (.iload_n 1, 1) := by decide +kernel
theorem dX6_withdraw_18 : decode cX6_withdraw 18 = .ok (.aaload, 1) := by decide +kernel
theorem dX6_withdraw_19 : decode cX6_withdraw 19 = .ok (.getfield 70, 3) := by decide +kernel
theorem dX6_withdraw_22 : decode cX6_withdraw 22 = .ok (.iconst 1, 1) := by decide +kernel
theorem dX6_withdraw_23 : decode cX6_withdraw 23 = .ok (.if_icmp .eq 6, 3) := by decide +kernel
theorem dX6_withdraw_26 : decode cX6_withdraw 26 = .ok (.bipush (-3), 2) := by decide +kernel
theorem dX6_withdraw_28 : decode cX6_withdraw 28 = .ok (.ireturn, 1) := by decide +kernel
theorem dX6_withdraw_29 : decode cX6_withdraw 29 = .ok (.aload_n 0, 1) := by decide +kernel
theorem dX6_withdraw_30 : decode cX6_withdraw 30 = .ok (.getfield 10, 3) := by decide +kernel
theorem dX6_withdraw_33 : decode cX6_withdraw 33 = .ok (.getfield 82, 3) := by decide +kernel
theorem dX6_withdraw_36 : decode cX6_withdraw 36 = .ok (.aload_n 0, 1) := by decide +kernel
theorem dX6_withdraw_37 : decode cX6_withdraw 37 = .ok (.getfield 10, 3) := by decide +kernel
theorem dX6_withdraw_40 : decode cX6_withdraw 40 = .ok (.getfield 66, 3) := by decide +kernel
theorem dX6_withdraw_43 : decode cX6_withdraw 43 = .ok (.iload_n 1, 1) := by decide +kernel
theorem dX6_withdraw_44 : decode cX6_withdraw 44 = .ok (.aaload, 1) := by decide +kernel
theorem dX6_withdraw_45 : decode cX6_withdraw 45 = .ok (.getfield 85, 3) := by decide +kernel
theorem dX6_withdraw_48 : decode cX6_withdraw 48 = .ok (.isub, 1) := by decide +kernel
theorem dX6_withdraw_49 : decode cX6_withdraw 49 = .ok (.istore_n 2, 1) := by decide +kernel
theorem dX6_withdraw_50 : decode cX6_withdraw 50 = .ok (.aload_n 0, 1) := by decide +kernel
theorem dX6_withdraw_51 : decode cX6_withdraw 51 = .ok (.getfield 10, 3) := by decide +kernel
theorem dX6_withdraw_54 : decode cX6_withdraw 54 = .ok (.iload_n 1, 1) := by decide +kernel
theorem dX6_withdraw_55 : decode cX6_withdraw 55 = .ok (.invokevirtual 88, 3) := by decide +kernel
theorem dX6_withdraw_58 : decode cX6_withdraw 58 = .ok (.aload_n 0, 1) := by decide +kernel
theorem dX6_withdraw_59 : decode cX6_withdraw 59 = .ok (.getfield 10, 3) := by decide +kernel
theorem dX6_withdraw_62 : decode cX6_withdraw 62 = .ok (.invokevirtual 79, 3) := by decide +kernel
theorem dX6_withdraw_65 : decode cX6_withdraw 65 = .ok (.iload_n 2, 1) := by decide +kernel
theorem dX6_withdraw_66 : decode cX6_withdraw 66 = .ok (.ireturn, 1) := by decide +kernel
theorem dX6_leave_0 : decode cX6_leave 0 = .ok (.iload_n 1, 1) := by decide +kernel
theorem dX6_leave_1 : decode cX6_leave 1 = .ok (.invokestatic 63, 3) := by decide +kernel
theorem dX6_leave_4 : decode cX6_leave 4 = .ok (.ifCond .ne 6, 3) := by decide +kernel
theorem dX6_leave_7 : decode cX6_leave 7 = .ok (.bipush (-2), 2) := by decide +kernel
theorem dX6_leave_9 : decode cX6_leave 9 = .ok (.ireturn, 1) := by decide +kernel
theorem dX6_leave_10 : decode cX6_leave 10 = .ok (.aload_n 0, 1) := by decide +kernel
theorem dX6_leave_11 : decode cX6_leave 11 = .ok (.getfield 10, 3) := by decide +kernel
theorem dX6_leave_14 : decode cX6_leave 14 = .ok (.getfield 66, 3) := by decide +kernel
theorem dX6_leave_17 : decode cX6_leave 17 = .ok (.iload_n 1, 1) := by decide +kernel
theorem dX6_leave_18 : decode cX6_leave 18 = .ok (.aaload, 1) := by decide +kernel
theorem dX6_leave_19 : decode cX6_leave 19 = .ok (.getfield 70, 3) := by decide +kernel
theorem dX6_leave_22 : decode cX6_leave 22 = .ok (.iconst 2, 1) := by decide +kernel
theorem dX6_leave_23 : decode cX6_leave 23 = .ok (.if_icmp .eq 6, 3) := by decide +kernel
theorem dX6_leave_26 : decode cX6_leave 26 = .ok (.bipush (-3), 2) := by decide +kernel
theorem dX6_leave_28 : decode cX6_leave 28 = .ok (.ireturn, 1) := by decide +kernel
theorem dX6_leave_29 : decode cX6_leave 29 = .ok (.aload_n 0, 1) := by decide +kernel
theorem dX6_leave_30 : decode cX6_leave 30 = .ok (.getfield 10, 3) := by decide +kernel
theorem dX6_leave_33 : decode cX6_leave 33 = .ok (.getfield 66, 3) := by decide +kernel
theorem dX6_leave_36 : decode cX6_leave 36 = .ok (.iload_n 1, 1) := by decide +kernel
theorem dX6_leave_37 : decode cX6_leave 37 = .ok (.aaload, 1) := by decide +kernel
theorem dX6_leave_38 : decode cX6_leave 38 = .ok (.getfield 92, 3) := by decide +kernel
theorem dX6_leave_41 : decode cX6_leave 41 = .ok (.istore_n 2, 1) := by decide +kernel
theorem dX6_leave_42 : decode cX6_leave 42 = .ok (.aload_n 0, 1) := by decide +kernel
theorem dX6_leave_43 : decode cX6_leave 43 = .ok (.getfield 10, 3) := by decide +kernel
theorem dX6_leave_46 : decode cX6_leave 46 = .ok (.iload_n 1, 1) := by decide +kernel
theorem dX6_leave_47 : decode cX6_leave 47 = .ok (.iconst 2, 1) := by decide +kernel
theorem dX6_leave_48 : decode cX6_leave 48 = .ok (.invokevirtual 97, 3) := by decide +kernel
theorem dX6_leave_51 : decode cX6_leave 51 = .ok (.aload_n 0, 1) := by decide +kernel
theorem dX6_leave_52 : decode cX6_leave 52 = .ok (.getfield 10, 3) := by decide +kernel
theorem dX6_leave_55 : decode cX6_leave 55 = .ok (.invokevirtual 79, 3) := by decide +kernel
theorem dX6_leave_58 : decode cX6_leave 58 = .ok (.iload_n 2, 1) := by decide +kernel
theorem dX6_leave_59 : decode cX6_leave 59 = .ok (.ireturn, 1) := by decide +kernel
theorem dX6_collapse_0 : decode cX6_collapse 0 = .ok (.iload_n 1, 1) := by decide +kernel
theorem dX6_collapse_1 : decode cX6_collapse 1 = .ok (.invokestatic 63, 3) := by decide +kernel
theorem dX6_collapse_4 : decode cX6_collapse 4 = .ok (.ifCond .ne 6, 3) := by decide +kernel
theorem dX6_collapse_7 : decode cX6_collapse 7 = .ok (.bipush (-2), 2) := by decide +kernel
theorem dX6_collapse_9 : decode cX6_collapse 9 = .ok (.ireturn, 1) := by decide +kernel
theorem dX6_collapse_10 : decode cX6_collapse 10 = .ok (.aload_n 0, 1) := by decide +kernel
theorem dX6_collapse_11 : decode cX6_collapse 11 = .ok (.getfield 10, 3) := by decide +kernel
theorem dX6_collapse_14 : decode cX6_collapse 14 = .ok (.getfield 66, 3) := by decide +kernel
theorem dX6_collapse_17 : decode cX6_collapse 17 = .ok (.iload_n 1, 1) := by decide +kernel
theorem dX6_collapse_18 : decode cX6_collapse 18 = .ok (.aaload, 1) := by decide +kernel
theorem dX6_collapse_19 : decode cX6_collapse 19 = .ok (.getfield 70, 3) := by decide +kernel
theorem dX6_collapse_22 : decode cX6_collapse 22 = .ok (.iconst 2, 1) := by decide +kernel
theorem dX6_collapse_23 : decode cX6_collapse 23 = .ok (.if_icmp .eq 6, 3) := by decide +kernel
theorem dX6_collapse_26 : decode cX6_collapse 26 = .ok (.bipush (-3), 2) := by decide +kernel
theorem dX6_collapse_28 : decode cX6_collapse 28 = .ok (.ireturn, 1) := by decide +kernel
theorem dX6_collapse_29 : decode cX6_collapse 29 = .ok (.aload_n 0, 1) := by decide +kernel
theorem dX6_collapse_30 : decode cX6_collapse 30 = .ok (.getfield 10, 3) := by decide +kernel
theorem dX6_collapse_33 : decode cX6_collapse 33 = .ok (.getfield 66, 3) := by decide +kernel
theorem dX6_collapse_36 : decode cX6_collapse 36 = .ok (.iload_n 1, 1) := by decide +kernel
theorem dX6_collapse_37 : decode cX6_collapse 37 = .ok (.aaload, 1) := by decide +kernel
theorem dX6_collapse_38 : decode cX6_collapse 38 = .ok (.astore_n 2, 1) := by decide +kernel
theorem dX6_collapse_39 : decode cX6_collapse 39 = .ok (.aload_n 2, 1) := by decide +kernel
