theorem dX4_init_22 : decode cX4_init 22 = .ok (.getfield 11, 3) := by decide +kernel
theorem dX4_init_25 : decode cX4_init 25 = .ok (.iload_n 1, 1) := by decide +kernel
theorem dX4_init_26 : decode cX4_init 26 = .ok (.new 9, 3) := by decide +kernel
theorem dX4_init_29 : decode cX4_init 29 = .ok (.dup, 1) := by decide +kernel
theorem dX4_init_30 : decode cX4_init 30 = .ok (.invokespecial 17, 3) := by decide +kernel
theorem dX4_init_33 : decode cX4_init 33 = .ok (.aastore, 1) := by decide +kernel
theorem dX4_init_34 : decode cX4_init 34 = .ok (.iinc 1 1, 3) := by decide +kernel
theorem dX4_init_37 : decode cX4_init 37 = .ok (.goto (-22), 3) := by decide +kernel
theorem dX4_init_40 : decode cX4_init 40 = .ok (.return_, 1) := by decide +kernel
theorem dX4_keep_0 : decode cX4_keep 0 = .ok (.iconst 0, 1) := by decide +kernel
theorem dX4_keep_1 : decode cX4_keep 1 = .ok (.istore_n 2, 1) := by decide +kernel
theorem dX4_keep_2 : decode cX4_keep 2 = .ok (.iload_n 2, 1) := by decide +kernel
theorem dX4_keep_3 : decode cX4_keep 3 = .ok (.bipush 6, 2) := by decide +kernel
theorem dX4_keep_5 : decode cX4_keep 5 = .ok (.if_icmp .ge 27, 3) := by decide +kernel
theorem dX4_keep_8 : decode cX4_keep 8 = .ok (.aload_n 0, 1) := by decide +kernel
theorem dX4_keep_9 : decode cX4_keep 9 = .ok (.getfield 11, 3) := by decide +kernel
theorem dX4_keep_12 : decode cX4_keep 12 = .ok (.iload_n 2, 1) := by decide +kernel
theorem dX4_keep_13 : decode cX4_keep 13 = .ok (.aaload, 1) := by decide +kernel
theorem dX4_keep_14 : decode cX4_keep 14 = .ok (.aload_n 1, 1) := by decide +kernel
theorem dX4_keep_15 : decode cX4_keep 15 = .ok (.getfield 18, 3) := by decide +kernel
theorem dX4_keep_18 : decode cX4_keep 18 = .ok (.iload_n 2, 1) := by decide +kernel
theorem dX4_keep_19 : decode cX4_keep 19 = .ok (.aaload, 1) := by decide +kernel
theorem dX4_keep_20 : decode cX4_keep 20 = .ok (.getfield 24, 3) := by decide +kernel
theorem dX4_keep_23 : decode cX4_keep 23 = .ok (.invokevirtual 30, 3) := by decide +kernel
theorem dX4_keep_26 : decode cX4_keep 26 = .ok (.iinc 2 1, 3) := by decide +kernel
theorem dX4_keep_29 : decode cX4_keep 29 = .ok (.goto (-27), 3) := by decide +kernel
theorem dX4_keep_32 : decode cX4_keep 32 = .ok (.return_, 1) := by decide +kernel
theorem dX4_giveBack_0 : decode cX4_giveBack 0 = .ok (.iconst 0, 1) := by decide +kernel
theorem dX4_giveBack_1 : decode cX4_giveBack 1 = .ok (.istore_n 2, 1) := by decide +kernel
theorem dX4_giveBack_2 : decode cX4_giveBack 2 = .ok (.iload_n 2, 1) := by decide +kernel
theorem dX4_giveBack_3 : decode cX4_giveBack 3 = .ok (.bipush 6, 2) := by decide +kernel
theorem dX4_giveBack_5 : decode cX4_giveBack 5 = .ok (.if_icmp .ge 27, 3) := by decide +kernel
theorem dX4_giveBack_8 : decode cX4_giveBack 8 = .ok (.aload_n 1, 1) := by decide +kernel
theorem dX4_giveBack_9 : decode cX4_giveBack 9 = .ok (.getfield 18, 3) := by decide +kernel
theorem dX4_giveBack_12 : decode cX4_giveBack 12 = .ok (.iload_n 2, 1) := by decide +kernel
theorem dX4_giveBack_13 : decode cX4_giveBack 13 = .ok (.aaload, 1) := by decide +kernel
theorem dX4_giveBack_14 : decode cX4_giveBack 14 = .ok (.getfield 24, 3) := by decide +kernel
theorem dX4_giveBack_17 : decode cX4_giveBack 17 = .ok (.aload_n 0, 1) := by decide +kernel
theorem dX4_giveBack_18 : decode cX4_giveBack 18 = .ok (.getfield 11, 3) := by decide +kernel
theorem dX4_giveBack_21 : decode cX4_giveBack 21 = .ok (.iload_n 2, 1) := by decide +kernel
theorem dX4_giveBack_22 : decode cX4_giveBack 22 = .ok (.aaload, 1) := by decide +kernel
theorem dX4_giveBack_23 : decode cX4_giveBack 23 = .ok (.invokevirtual 30, 3) := by decide +kernel
theorem dX4_giveBack_26 : decode cX4_giveBack 26 = .ok (.iinc 2 1, 3) := by decide +kernel
theorem dX4_giveBack_29 : decode cX4_giveBack 29 = .ok (.goto (-27), 3) := by decide +kernel
theorem dX4_giveBack_32 : decode cX4_giveBack 32 = .ok (.return_, 1) := by decide +kernel
theorem dX5_init_0 : decode cX5_init 0 = .ok (.aload_n 0, 1) := by decide +kernel
theorem dX5_init_1 : decode cX5_init 1 = .ok (.invokespecial 3, 3) := by decide +kernel
theorem dX5_init_4 : decode cX5_init 4 = .ok (.aload_n 0, 1) := by decide +kernel
theorem dX5_init_5 : decode cX5_init 5 = .ok (.bipush 6, 2) := by decide +kernel
theorem dX5_init_7 : decode cX5_init 7 = .ok (.newarray .int, 2) := by decide +kernel
theorem dX5_init_9 : decode cX5_init 9 = .ok (.putfield 9, 3) := by decide +kernel
theorem dX5_init_12 : decode cX5_init 12 = .ok (.return_, 1) := by decide +kernel
theorem dX5_at_0 : decode cX5_at 0 = .ok (.iload_n 1, 1) := by decide +kernel
theorem dX5_at_1 : decode cX5_at 1 = .ok (.ifCond .lt 20, 3) := by decide +kernel
theorem dX5_at_4 : decode cX5_at 4 = .ok (.iload_n 1, 1) := by decide +kernel
theorem dX5_at_5 : decode cX5_at 5 = .ok (.aload_n 0, 1) := by decide +kernel
theorem dX5_at_6 : decode cX5_at 6 = .ok (.getfield 15, 3) := by decide +kernel
theorem dX5_at_9 : decode cX5_at 9 = .ok (.if_icmp .ge 12, 3) := by decide +kernel
theorem dX5_at_12 : decode cX5_at 12 = .ok (.aload_n 0, 1) := by decide +kernel
theorem dX5_at_13 : decode cX5_at 13 = .ok (.getfield 9, 3) := by decide +kernel
theorem dX5_at_16 : decode cX5_at 16 = .ok (.iload_n 1, 1) := by decide +kernel
theorem dX5_at_17 : decode cX5_at 17 = .ok (.iaload, 1) := by decide +kernel
theorem dX5_at_18 : decode cX5_at 18 = .ok (.goto 4, 3) := by decide +kernel
theorem dX5_at_21 : decode cX5_at 21 = .ok (.iconst (-1), 1) := by decide +kernel
theorem dX5_at_22 : decode cX5_at 22 = .ok (.ireturn, 1) := by decide +kernel
theorem dX5_placeOf_0 : decode cX5_placeOf 0 = .ok (.iconst 0, 1) := by decide +kernel
theorem dX5_placeOf_1 : decode cX5_placeOf 1 = .ok (.istore_n 2, 1) := by decide +kernel
theorem dX5_placeOf_2 : decode cX5_placeOf 2 = .ok (.iload_n 2, 1) := by decide +kernel
theorem dX5_placeOf_3 : decode cX5_placeOf 3 = .ok (.aload_n 0, 1) := by decide +kernel
theorem dX5_placeOf_4 : decode cX5_placeOf 4 = .ok (.getfield 15, 3) := by decide +kernel
theorem dX5_placeOf_7 : decode cX5_placeOf 7 = .ok (.if_icmp .ge 21, 3) := by decide +kernel
theorem dX5_placeOf_10 : decode cX5_placeOf 10 = .ok (.aload_n 0, 1) := by decide +kernel
theorem dX5_placeOf_11 : decode cX5_placeOf 11 = .ok (.getfield 9, 3) := by decide +kernel
theorem dX5_placeOf_14 : decode cX5_placeOf 14 = .ok (.iload_n 2, 1) := by decide +kernel
theorem dX5_placeOf_15 : decode cX5_placeOf 15 = .ok (.iaload, 1) := by decide +kernel
theorem dX5_placeOf_16 : decode cX5_placeOf 16 = .ok (.iload_n 1, 1) := by decide +kernel
theorem dX5_placeOf_17 : decode cX5_placeOf 17 = .ok (.if_icmp .ne 5, 3) := by decide +kernel
theorem dX5_placeOf_20 : decode cX5_placeOf 20 = .ok (.iload_n 2, 1) := by decide +kernel
theorem dX5_placeOf_21 : decode cX5_placeOf 21 = .ok (.ireturn, 1) := by decide +kernel
theorem dX5_placeOf_22 : decode cX5_placeOf 22 = .ok (.iinc 2 1, 3) := by decide +kernel
theorem dX5_placeOf_25 : decode cX5_placeOf 25 = .ok (.goto (-23), 3) := by decide +kernel
theorem dX5_placeOf_28 : decode cX5_placeOf 28 = .ok (.iconst (-1), 1) := by decide +kernel
theorem dX5_placeOf_29 : decode cX5_placeOf 29 = .ok (.ireturn, 1) := by decide +kernel
theorem dX5_addLast_0 : decode cX5_addLast 0 = .ok (.aload_n 0, 1) := by decide +kernel
theorem dX5_addLast_1 : decode cX5_addLast 1 = .ok (.getfield 15, 3) := by decide +kernel
theorem dX5_addLast_4 : decode cX5_addLast 4 = .ok (.bipush 6, 2) := by decide +kernel
theorem dX5_addLast_6 : decode cX5_addLast 6 = .ok (.if_icmp .ge 23, 3) := by decide +kernel
theorem dX5_addLast_9 : decode cX5_addLast 9 = .ok (.aload_n 0, 1) := by decide +kernel
theorem dX5_addLast_10 : decode cX5_addLast 10 = .ok (.getfield 9, 3) := by decide +kernel
theorem dX5_addLast_13 : decode cX5_addLast 13 = .ok (.aload_n 0, 1) := by decide +kernel
theorem dX5_addLast_14 : decode cX5_addLast 14 = .ok (.getfield 15, 3) := by decide +kernel
theorem dX5_addLast_17 : decode cX5_addLast 17 = .ok (.iload_n 1, 1) := by decide +kernel
theorem dX5_addLast_18 : decode cX5_addLast 18 = .ok (.iastore, 1) := by decide +kernel
theorem dX5_addLast_19 : decode cX5_addLast 19 = .ok (.aload_n 0, 1) := by decide +kernel
theorem dX5_addLast_20 : decode cX5_addLast 20 = .ok (.dup, 1) := by decide +kernel
theorem dX5_addLast_21 : decode cX5_addLast 21 = .ok (.getfield 15, 3) := by decide +kernel
theorem dX5_addLast_24 : decode cX5_addLast 24 = .ok (.iconst 1, 1) := by decide +kernel
theorem dX5_addLast_25 : decode cX5_addLast 25 = .ok (.iadd, 1) := by decide +kernel
theorem dX5_addLast_26 : decode cX5_addLast 26 = .ok (.putfield 15, 3) := by decide +kernel
theorem dX5_addLast_29 : decode cX5_addLast 29 = .ok (.return_, 1) := by decide +kernel
theorem dX5_addFirst_0 : decode cX5_addFirst 0 = .ok (.aload_n 0, 1) := by decide +kernel
theorem dX5_addFirst_1 : decode cX5_addFirst 1 = .ok (.getfield 15, 3) := by decide +kernel
theorem dX5_addFirst_4 : decode cX5_addFirst 4 = .ok (.bipush 6, 2) := by decide +kernel
theorem dX5_addFirst_6 : decode cX5_addFirst 6 = .ok (.if_icmp .ge 37, 3) := by decide +kernel
theorem dX5_addFirst_9 : decode cX5_addFirst 9 = .ok (.aload_n 0, 1) := by decide +kernel
theorem dX5_addFirst_10 : decode cX5_addFirst 10 = .ok (.getfield 9, 3) := by decide +kernel
theorem dX5_addFirst_13 : decode cX5_addFirst 13 = .ok (.iconst 0, 1) := by decide +kernel
theorem dX5_addFirst_14 : decode cX5_addFirst 14 = .ok (.aload_n 0, 1) := by decide +kernel
theorem dX5_addFirst_15 : decode cX5_addFirst 15 = .ok (.getfield 9, 3) := by decide +kernel
theorem dX5_addFirst_18 : decode cX5_addFirst 18 = .ok (.iconst 1, 1) := by decide +kernel
theorem dX5_addFirst_19 : decode cX5_addFirst 19 = .ok (.aload_n 0, 1) := by decide +kernel
theorem dX5_addFirst_20 : decode cX5_addFirst 20 = .ok (.getfield 15, 3) := by decide +kernel
theorem dX5_addFirst_23 : decode cX5_addFirst 23 = .ok (.invokestatic 19, 3) := by decide +kernel
theorem dX5_addFirst_26 : decode cX5_addFirst 26 = .ok (.aload_n 0, 1) := by decide +kernel
theorem dX5_addFirst_27 : decode cX5_addFirst 27 = .ok (.getfield 9, 3) := by decide +kernel
theorem dX5_addFirst_30 : decode cX5_addFirst 30 = .ok (.iconst 0, 1) := by decide +kernel
theorem dX5_addFirst_31 : decode cX5_addFirst 31 = .ok (.iload_n 1, 1) := by decide +kernel
theorem dX5_addFirst_32 : decode cX5_addFirst 32 = .ok (.iastore, 1) := by decide +kernel
theorem dX5_addFirst_33 : decode cX5_addFirst 33 = .ok (.aload_n 0, 1) := by decide +kernel
theorem dX5_addFirst_34 : decode cX5_addFirst 34 = .ok (.dup, 1) := by decide +kernel
theorem dX5_addFirst_35 : decode cX5_addFirst 35 = .ok (.getfield 15, 3) := by decide +kernel
theorem dX5_addFirst_38 : decode cX5_addFirst 38 = .ok (.iconst 1, 1) := by decide +kernel
theorem dX5_addFirst_39 : decode cX5_addFirst 39 = .ok (.iadd, 1) := by decide +kernel
theorem dX5_addFirst_40 : decode cX5_addFirst 40 = .ok (.putfield 15, 3) := by decide +kernel
theorem dX5_addFirst_43 : decode cX5_addFirst 43 = .ok (.return_, 1) := by decide +kernel
theorem dX5_removeAt_0 : decode cX5_removeAt 0 = .ok (.iload_n 1, 1) := by decide +kernel
theorem dX5_removeAt_1 : decode cX5_removeAt 1 = .ok (.ifCond .lt 11, 3) := by decide +kernel
theorem dX5_removeAt_4 : decode cX5_removeAt 4 = .ok (.iload_n 1, 1) := by decide +kernel
theorem dX5_removeAt_5 : decode cX5_removeAt 5 = .ok (.aload_n 0, 1) := by decide +kernel
theorem dX5_removeAt_6 : decode cX5_removeAt 6 = .ok (.getfield 15, 3) := by decide +kernel
theorem dX5_removeAt_9 : decode cX5_removeAt 9 = .ok (.if_icmp .lt 5, 3) := by decide +kernel
theorem dX5_removeAt_12 : decode cX5_removeAt 12 = .ok (.iconst (-1), 1) := by decide +kernel
theorem dX5_removeAt_13 : decode cX5_removeAt 13 = .ok (.ireturn, 1) := by decide +kernel
theorem dX5_removeAt_14 : decode cX5_removeAt 14 = .ok (.aload_n 0, 1) := by decide +kernel
theorem dX5_removeAt_15 : decode cX5_removeAt 15 = .ok (.getfield 9, 3) := by decide +kernel
theorem dX5_removeAt_18 : decode cX5_removeAt 18 = .ok (.iload_n 1, 1) := by decide +kernel
theorem dX5_removeAt_19 : decode cX5_removeAt 19 = .ok (.iaload, 1) := by decide +kernel
theorem dX5_removeAt_20 : decode cX5_removeAt 20 = .ok (.istore_n 2, 1) := by decide +kernel
theorem dX5_removeAt_21 : decode cX5_removeAt 21 = .ok (.aload_n 0, 1) := by decide +kernel
theorem dX5_removeAt_22 : decode cX5_removeAt 22 = .ok (.dup, 1) := by decide +kernel
theorem dX5_removeAt_23 : decode cX5_removeAt 23 = .ok (.getfield 15, 3) := by decide +kernel
theorem dX5_removeAt_26 : decode cX5_removeAt 26 = .ok (.iconst 1, 1) := by decide +kernel
theorem dX5_removeAt_27 : decode cX5_removeAt 27 = .ok (.isub, 1) := by decide +kernel
theorem dX5_removeAt_28 : decode cX5_removeAt 28 = .ok (.putfield 15, 3) := by decide +kernel
theorem dX5_removeAt_31 : decode cX5_removeAt 31 = .ok (.aload_n 0, 1) := by decide +kernel
theorem dX5_removeAt_32 : decode cX5_removeAt 32 = .ok (.getfield 9, 3) := by decide +kernel
theorem dX5_removeAt_35 : decode cX5_removeAt 35 = .ok (.iload_n 1, 1) := by decide +kernel
theorem dX5_removeAt_36 : decode cX5_removeAt 36 = .ok (.iconst 1, 1) := by decide +kernel
theorem dX5_removeAt_37 : decode cX5_removeAt 37 = .ok (.iadd, 1) := by decide +kernel
theorem dX5_removeAt_38 : decode cX5_removeAt 38 = .ok (.aload_n 0, 1) := by decide +kernel
theorem dX5_removeAt_39 : decode cX5_removeAt 39 = .ok (.getfield 9, 3) := by decide +kernel
theorem dX5_removeAt_42 : decode cX5_removeAt 42 = .ok (.iload_n 1, 1) := by decide +kernel
theorem dX5_removeAt_43 : decode cX5_removeAt 43 = .ok (.aload_n 0, 1) := by decide +kernel
theorem dX5_removeAt_44 : decode cX5_removeAt 44 = .ok (.getfield 15, 3) := by decide +kernel
theorem dX5_removeAt_47 : decode cX5_removeAt 47 = .ok (.iload_n 1, 1) := by decide +kernel
theorem dX5_removeAt_48 : decode cX5_removeAt 48 = .ok (.isub, 1) := by decide +kernel
theorem dX5_removeAt_49 : decode cX5_removeAt 49 = .ok (.invokestatic 19, 3) := by decide +kernel
theorem dX5_removeAt_52 : decode cX5_removeAt 52 = .ok (.iload_n 2, 1) := by decide +kernel
theorem dX5_removeAt_53 : decode cX5_removeAt 53 = .ok (.ireturn, 1) := by decide +kernel
theorem dX5_copyFrom_0 : decode cX5_copyFrom 0 = .ok (.aload_n 1, 1) := by decide +kernel
theorem dX5_copyFrom_1 : decode cX5_copyFrom 1 = .ok (.getfield 9, 3) := by decide +kernel
theorem dX5_copyFrom_4 : decode cX5_copyFrom 4 = .ok (.iconst 0, 1) := by decide +kernel
theorem dX5_copyFrom_5 : decode cX5_copyFrom 5 = .ok (.aload_n 0, 1) := by decide +kernel
theorem dX5_copyFrom_6 : decode cX5_copyFrom 6 = .ok (.getfield 9, 3) := by decide +kernel
theorem dX5_copyFrom_9 : decode cX5_copyFrom 9 = .ok (.iconst 0, 1) := by decide +kernel
theorem dX5_copyFrom_10 : decode cX5_copyFrom 10 = .ok (.bipush 6, 2) := by decide +kernel
theorem dX5_copyFrom_12 : decode cX5_copyFrom 12 = .ok (.invokestatic 19, 3) := by decide +kernel
theorem dX5_copyFrom_15 : decode cX5_copyFrom 15 = .ok (.aload_n 0, 1) := by decide +kernel
theorem dX5_copyFrom_16 : decode cX5_copyFrom 16 = .ok (.aload_n 1, 1) := by decide +kernel
theorem dX5_copyFrom_17 : decode cX5_copyFrom 17 = .ok (.getfield 15, 3) := by decide +kernel
theorem dX5_copyFrom_20 : decode cX5_copyFrom 20 = .ok (.putfield 15, 3) := by decide +kernel
theorem dX5_copyFrom_23 : decode cX5_copyFrom 23 = .ok (.return_, 1) := by decide +kernel
theorem dX6_init_0 : decode cX6_init 0 = .ok (.aload_n 0, 1) := by decide +kernel
theorem dX6_init_1 : decode cX6_init 1 = .ok (.invokespecial 3, 3) := by decide +kernel
theorem dX6_init_4 : decode cX6_init 4 = .ok (.aload_n 0, 1) := by decide +kernel
theorem dX6_init_5 : decode cX6_init 5 = .ok (.iconst 5, 1) := by decide +kernel
theorem dX6_init_6 : decode cX6_init 6 = .ok (.anewarray 9, 3) := by decide +kernel
theorem dX6_init_9 : decode cX6_init 9 = .ok (.putfield 11, 3) := by decide +kernel
theorem dX6_init_12 : decode cX6_init 12 = .ok (.aload_n 0, 1) := by decide +kernel
theorem dX6_init_13 : decode cX6_init 13 = .ok (.iconst 5, 1) := by decide +kernel
theorem dX6_init_14 : decode cX6_init 14 = .ok (.newarray .int, 2) := by decide +kernel
theorem dX6_init_16 : decode cX6_init 16 = .ok (.putfield 17, 3) := by decide +kernel
theorem dX6_init_19 : decode cX6_init 19 = .ok (.aload_n 0, 1) := by decide +kernel
theorem dX6_init_20 : decode cX6_init 20 = .ok (.aload_n 1, 1) := by decide +kernel
theorem dX6_init_21 : decode cX6_init 21 = .ok (.putfield 21, 3) := by decide +kernel
theorem dX6_init_24 : decode cX6_init 24 = .ok (.aload_n 0, 1) := by decide +kernel
theorem dX6_init_25 : decode cX6_init 25 = .ok (.aload_n 2, 1) := by decide +kernel
theorem dX6_init_26 : decode cX6_init 26 = .ok (.putfield 25, 3) := by decide +kernel
theorem dX6_init_29 : decode cX6_init 29 = .ok (.iconst 0, 1) := by decide +kernel
theorem dX6_init_30 : decode cX6_init 30 = .ok (.istore_n 3, 1) := by decide +kernel
theorem dX6_init_31 : decode cX6_init 31 = .ok (.iload_n 3, 1) := by decide +kernel
theorem dX6_init_32 : decode cX6_init 32 = .ok (.iconst 4, 1) := by decide +kernel
theorem dX6_init_33 : decode cX6_init 33 = .ok (.if_icmp .gt 22, 3) := by decide +kernel
theorem dX6_init_36 : decode cX6_init 36 = .ok (.aload_n 0, 1) := by decide +kernel
theorem dX6_init_37 : decode cX6_init 37 = .ok (.getfield 11, 3) := by decide +kernel
theorem dX6_init_40 : decode cX6_init 40 = .ok (.iload_n 3, 1) := by decide +kernel
theorem dX6_init_41 : decode cX6_init 41 = .ok (.new 9, 3) := by decide +kernel
theorem dX6_init_44 : decode cX6_init 44 = .ok (.dup, 1) := by decide +kernel
theorem dX6_init_45 : decode cX6_init 45 = .ok (.invokespecial 29, 3) := by decide +kernel
theorem dX6_init_48 : decode cX6_init 48 = .ok (.aastore, 1) := by decide +kernel
theorem dX6_init_49 : decode cX6_init 49 = .ok (.iinc 3 1, 3) := by decide +kernel
theorem dX6_init_52 : decode cX6_init 52 = .ok (.goto (-21), 3) := by decide +kernel
theorem dX6_init_55 : decode cX6_init 55 = .ok (.return_, 1) := by decide +kernel
theorem dX6_run_0 : decode cX6_run 0 = .ok (.aload_n 0, 1) := by decide +kernel
theorem dX6_run_1 : decode cX6_run 1 = .ok (.iconst 0, 1) := by decide +kernel
theorem dX6_run_2 : decode cX6_run 2 = .ok (.putfield 30, 3) := by decide +kernel
theorem dX6_run_5 : decode cX6_run 5 = .ok (.aload_n 0, 1) := by decide +kernel
theorem dX6_run_6 : decode cX6_run 6 = .ok (.iconst (-1), 1) := by decide +kernel
theorem dX6_run_7 : decode cX6_run 7 = .ok (.putfield 34, 3) := by decide +kernel
theorem dX6_run_10 : decode cX6_run 10 = .ok (.aload_n 0, 1) := by decide +kernel
theorem dX6_run_11 : decode cX6_run 11 = .ok (.iconst 0, 1) := by decide +kernel
theorem dX6_run_12 : decode cX6_run 12 = .ok (.putfield 37, 3) := by decide +kernel
theorem dX6_run_15 : decode cX6_run 15 = .ok (.aload_n 0, 1) := by decide +kernel
theorem dX6_run_16 : decode cX6_run 16 = .ok (.iconst 0, 1) := by decide +kernel
theorem dX6_run_17 : decode cX6_run 17 = .ok (.putfield 40, 3) := by decide +kernel
theorem dX6_run_20 : decode cX6_run 20 = .ok (.aload_n 0, 1) := by decide +kernel
theorem dX6_run_21 : decode cX6_run 21 = .ok (.invokevirtual 43, 3) := by decide +kernel
theorem dX6_run_24 : decode cX6_run 24 = .ok (.iconst 0, 1) := by decide +kernel
theorem dX6_run_25 : decode cX6_run 25 = .ok (.istore_n 1, 1) := by decide +kernel
theorem dX6_run_26 : decode cX6_run 26 = .ok (.iload_n 1, 1) := by decide +kernel
theorem dX6_run_27 : decode cX6_run 27 = .ok (.bipush 120, 2) := by decide +kernel
theorem dX6_run_29 : decode cX6_run 29 = .ok (.if_icmp .ge 103, 3) := by decide +kernel
theorem dX6_run_32 : decode cX6_run 32 = .ok (.aload_n 0, 1) := by decide +kernel
theorem dX6_run_33 : decode cX6_run 33 = .ok (.getfield 30, 3) := by decide +kernel
theorem dX6_run_36 : decode cX6_run 36 = .ok (.aload_n 0, 1) := by decide +kernel
theorem dX6_run_37 : decode cX6_run 37 = .ok (.getfield 21, 3) := by decide +kernel
theorem dX6_run_40 : decode cX6_run 40 = .ok (.getfield 46, 3) := by decide +kernel
theorem dX6_run_43 : decode cX6_run 43 = .ok (.if_icmp .ge 89, 3) := by decide +kernel
theorem dX6_run_46 : decode cX6_run 46 = .ok (.aload_n 0, 1) := by decide +kernel
theorem dX6_run_47 : decode cX6_run 47 = .ok (.invokevirtual 51, 3) := by decide +kernel
theorem dX6_run_50 : decode cX6_run 50 = .ok (.istore_n 2, 1) := by decide +kernel
theorem dX6_run_51 : decode cX6_run 51 = .ok (.iload_n 2, 1) := by decide +kernel
theorem dX6_run_52 : decode cX6_run 52 = .ok (.bipush 40, 2) := by decide +kernel
theorem dX6_run_54 : decode cX6_run 54 = .ok (.if_icmp .ne 10, 3) := by decide +kernel
theorem dX6_run_57 : decode cX6_run 57 = .ok (.aload_n 0, 1) := by decide +kernel
theorem dX6_run_58 : decode cX6_run 58 = .ok (.invokevirtual 43, 3) := by decide +kernel
theorem dX6_run_61 : decode cX6_run 61 = .ok (.goto 65, 3) := by decide +kernel
theorem dX6_run_64 : decode cX6_run 64 = .ok (.iload_n 2, 1) := by decide +kernel
theorem dX6_run_65 : decode cX6_run 65 = .ok (.bipush 41, 2) := by decide +kernel
theorem dX6_run_67 : decode cX6_run 67 = .ok (.if_icmp .ne 10, 3) := by decide +kernel
theorem dX6_run_70 : decode cX6_run 70 = .ok (.aload_n 0, 1) := by decide +kernel
theorem dX6_run_71 : decode cX6_run 71 = .ok (.invokevirtual 55, 3) := by decide +kernel
theorem dX6_run_74 : decode cX6_run 74 = .ok (.goto 52, 3) := by decide +kernel
theorem dX6_run_77 : decode cX6_run 77 = .ok (.iload_n 2, 1) := by decide +kernel
theorem dX6_run_78 : decode cX6_run 78 = .ok (.bipush 32, 2) := by decide +kernel
theorem dX6_run_80 : decode cX6_run 80 = .ok (.if_icmp .eq 46, 3) := by decide +kernel
theorem dX6_run_83 : decode cX6_run 83 = .ok (.aload_n 0, 1) := by decide +kernel
theorem dX6_run_84 : decode cX6_run 84 = .ok (.iload_n 2, 1) := by decide +kernel
theorem dX6_run_85 : decode cX6_run 85 = .ok (.invokevirtual 58, 3) := by decide +kernel
theorem dX6_run_88 : decode cX6_run 88 = .ok (.ifCond .ne 38, 3) := by decide +kernel
theorem dX6_run_91 : decode cX6_run 91 = .ok (.aload_n 0, 1) := by decide +kernel
theorem dX6_run_92 : decode cX6_run 92 = .ok (.invokevirtual 62, 3) := by decide +kernel
theorem dX6_run_95 : decode cX6_run 95 = .ok (.aload_n 0, 1) := by decide +kernel
theorem dX6_run_96 : decode cX6_run 96 = .ok (.getfield 34, 3) := by decide +kernel
theorem dX6_run_99 : decode cX6_run 99 = .ok (.iconst (-1), 1) := by decide +kernel
theorem dX6_run_100 : decode cX6_run 100 = .ok (.if_icmp .ne 12, 3) := by decide +kernel
theorem dX6_run_103 : decode cX6_run 103 = .ok (.sipush (-1000), 3) := by decide +kernel
theorem dX6_run_106 : decode cX6_run 106 = .ok (.aload_n 0, 1) := by decide +kernel
theorem dX6_run_107 : decode cX6_run 107 = .ok (.getfield 40, 3) := by decide +kernel
theorem dX6_run_110 : decode cX6_run 110 = .ok (.isub, 1) := by decide +kernel
theorem dX6_run_111 : decode cX6_run 111 = .ok (.ireturn, 1) := by decide +kernel
theorem dX6_run_112 : decode cX6_run 112 = .ok (.aload_n 0, 1) := by decide +kernel
theorem dX6_run_113 : decode cX6_run 113 = .ok (.dup, 1) := by decide +kernel
theorem dX6_run_114 : decode cX6_run 114 = .ok (.getfield 40, 3) := by decide +kernel
theorem dX6_run_117 : decode cX6_run 117 = .ok (.iconst 1, 1) := by decide +kernel
theorem dX6_run_118 : decode cX6_run 118 = .ok (.iadd, 1) := by decide +kernel
theorem dX6_run_119 : decode cX6_run 119 = .ok (.putfield 40, 3) := by decide +kernel
theorem dX6_run_122 : decode cX6_run 122 = .ok (.aload_n 0, 1) := by decide +kernel
theorem dX6_run_123 : decode cX6_run 123 = .ok (.invokevirtual 65, 3) := by decide +kernel
theorem dX6_run_126 : decode cX6_run 126 = .ok (.iinc 1 1, 3) := by decide +kernel
theorem dX6_run_129 : decode cX6_run 129 = .ok (.goto (-103), 3) := by decide +kernel
theorem dX6_run_132 : decode cX6_run 132 = .ok (.aload_n 0, 1) := by decide +kernel
theorem dX6_run_133 : decode cX6_run 133 = .ok (.invokevirtual 55, 3) := by decide +kernel
theorem dX6_run_136 : decode cX6_run 136 = .ok (.aload_n 0, 1) := by decide +kernel
theorem dX6_run_137 : decode cX6_run 137 = .ok (.getfield 37, 3) := by decide +kernel
theorem dX6_run_140 : decode cX6_run 140 = .ok (.ireturn, 1) := by decide +kernel
theorem dX6_enterLevel_0 : decode cX6_enterLevel 0 = .ok (.aload_n 0, 1) := by decide +kernel
theorem dX6_enterLevel_1 : decode cX6_enterLevel 1 = .ok (.getfield 34, 3) := by decide +kernel
theorem dX6_enterLevel_4 : decode cX6_enterLevel 4 = .ok (.iconst 4, 1) := by decide +kernel
theorem dX6_enterLevel_5 : decode cX6_enterLevel 5 = .ok (.if_icmp .ge 52, 3) := by decide +kernel
theorem dX6_enterLevel_8 : decode cX6_enterLevel 8 = .ok (.aload_n 0, 1) := by decide +kernel
theorem dX6_enterLevel_9 : decode cX6_enterLevel 9 = .ok (.dup, 1) := by decide +kernel
theorem dX6_enterLevel_10 : decode cX6_enterLevel 10 = .ok (.getfield 34, 3) := by decide +kernel
theorem dX6_enterLevel_13 : decode cX6_enterLevel 13 = .ok (.iconst 1, 1) := by decide +kernel
theorem dX6_enterLevel_14 : decode cX6_enterLevel 14 = .ok (.iadd, 1) := by decide +kernel
theorem dX6_enterLevel_15 : decode cX6_enterLevel 15 = .ok (.putfield 34, 3) := by decide +kernel
theorem dX6_enterLevel_18 : decode cX6_enterLevel 18 = .ok (.aload_n 0, 1) := by decide +kernel
theorem dX6_enterLevel_19 : decode cX6_enterLevel 19 = .ok (.getfield 25, 3) := by decide +kernel
theorem dX6_enterLevel_22 : decode cX6_enterLevel 22 = .ok (.getfield 68, 3) := by decide +kernel
theorem dX6_enterLevel_25 : decode cX6_enterLevel 25 = .ok (.invokevirtual 74, 3) := by decide +kernel
theorem dX6_enterLevel_28 : decode cX6_enterLevel 28 = .ok (.aload_n 0, 1) := by decide +kernel
theorem dX6_enterLevel_29 : decode cX6_enterLevel 29 = .ok (.getfield 11, 3) := by decide +kernel
theorem dX6_enterLevel_32 : decode cX6_enterLevel 32 = .ok (.aload_n 0, 1) := by decide +kernel
theorem dX6_enterLevel_33 : decode cX6_enterLevel 33 = .ok (.getfield 34, 3) := by decide +kernel
theorem dX6_enterLevel_36 : decode cX6_enterLevel 36 = .ok (.aaload, 1) := by decide +kernel
theorem dX6_enterLevel_37 : decode cX6_enterLevel 37 = .ok (.aload_n 0, 1) := by decide +kernel
theorem dX6_enterLevel_38 : decode cX6_enterLevel 38 = .ok (.getfield 25, 3) := by decide +kernel
theorem dX6_enterLevel_41 : decode cX6_enterLevel 41 = .ok (.invokevirtual 79, 3) := by decide +kernel
theorem dX6_enterLevel_44 : decode cX6_enterLevel 44 = .ok (.aload_n 0, 1) := by decide +kernel
theorem dX6_enterLevel_45 : decode cX6_enterLevel 45 = .ok (.getfield 17, 3) := by decide +kernel
theorem dX6_enterLevel_48 : decode cX6_enterLevel 48 = .ok (.aload_n 0, 1) := by decide +kernel
theorem dX6_enterLevel_49 : decode cX6_enterLevel 49 = .ok (.getfield 34, 3) := by decide +kernel
theorem dX6_enterLevel_52 : decode cX6_enterLevel 52 = .ok (.aload_n 0, 1) := by decide +kernel
theorem dX6_enterLevel_53 : decode cX6_enterLevel 53 = .ok (.getfield 37, 3) := by decide +kernel
theorem dX6_enterLevel_56 : decode cX6_enterLevel 56 = .ok (.iastore, 1) := by decide +kernel
theorem dX6_enterLevel_57 : decode cX6_enterLevel 57 = .ok (.return_, 1) := by decide +kernel
theorem dX6_leaveLevel_0 : decode cX6_leaveLevel 0 = .ok (.aload_n 0, 1) := by decide +kernel
theorem dX6_leaveLevel_1 : decode cX6_leaveLevel 1 = .ok (.getfield 34, 3) := by decide +kernel
theorem dX6_leaveLevel_4 : decode cX6_leaveLevel 4 = .ok (.ifCond .lt 23, 3) := by decide +kernel
theorem dX6_leaveLevel_7 : decode cX6_leaveLevel 7 = .ok (.aload_n 0, 1) := by decide +kernel
theorem dX6_leaveLevel_8 : decode cX6_leaveLevel 8 = .ok (.getfield 25, 3) := by decide +kernel
theorem dX6_leaveLevel_11 : decode cX6_leaveLevel 11 = .ok (.getfield 68, 3) := by decide +kernel
theorem dX6_leaveLevel_14 : decode cX6_leaveLevel 14 = .ok (.invokevirtual 83, 3) := by decide +kernel
theorem dX6_leaveLevel_17 : decode cX6_leaveLevel 17 = .ok (.aload_n 0, 1) := by decide +kernel
theorem dX6_leaveLevel_18 : decode cX6_leaveLevel 18 = .ok (.dup, 1) := by decide +kernel
theorem dX6_leaveLevel_19 : decode cX6_leaveLevel 19 = .ok (.getfield 34, 3) := by decide +kernel
theorem dX6_leaveLevel_22 : decode cX6_leaveLevel 22 = .ok (.iconst 1, 1) := by decide +kernel
theorem dX6_leaveLevel_23 : decode cX6_leaveLevel 23 = .ok (.isub, 1) := by decide +kernel
theorem dX6_leaveLevel_24 : decode cX6_leaveLevel 24 = .ok (.putfield 34, 3) := by decide +kernel
theorem dX6_leaveLevel_27 : decode cX6_leaveLevel 27 = .ok (.return_, 1) := by decide +kernel
theorem dX6_undoLevel_0 : decode cX6_undoLevel 0 = .ok (.aload_n 0, 1) := by decide +kernel
theorem dX6_undoLevel_1 : decode cX6_undoLevel 1 = .ok (.getfield 34, 3) := by decide +kernel
theorem dX6_undoLevel_4 : decode cX6_undoLevel 4 = .ok (.ifCond .lt 52, 3) := by decide +kernel
theorem dX6_undoLevel_7 : decode cX6_undoLevel 7 = .ok (.aload_n 0, 1) := by decide +kernel
theorem dX6_undoLevel_8 : decode cX6_undoLevel 8 = .ok (.getfield 25, 3) := by decide +kernel
theorem dX6_undoLevel_11 : decode cX6_undoLevel 11 = .ok (.getfield 68, 3) := by decide +kernel
theorem dX6_undoLevel_14 : decode cX6_undoLevel 14 = .ok (.invokevirtual 86, 3) := by decide +kernel
theorem dX6_undoLevel_17 : decode cX6_undoLevel 17 = .ok (.aload_n 0, 1) := by decide +kernel
theorem dX6_undoLevel_18 : decode cX6_undoLevel 18 = .ok (.getfield 11, 3) := by decide +kernel
theorem dX6_undoLevel_21 : decode cX6_undoLevel 21 = .ok (.aload_n 0, 1) := by decide +kernel
theorem dX6_undoLevel_22 : decode cX6_undoLevel 22 = .ok (.getfield 34, 3) := by decide +kernel
theorem dX6_undoLevel_25 : decode cX6_undoLevel 25 = .ok (.aaload, 1) := by decide +kernel
theorem dX6_undoLevel_26 : decode cX6_undoLevel 26 = .ok (.aload_n 0, 1) := by decide +kernel
theorem dX6_undoLevel_27 : decode cX6_undoLevel 27 = .ok (.getfield 25, 3) := by decide +kernel
theorem dX6_undoLevel_30 : decode cX6_undoLevel 30 = .ok (.invokevirtual 89, 3) := by decide +kernel
theorem dX6_undoLevel_33 : decode cX6_undoLevel 33 = .ok (.aload_n 0, 1) := by decide +kernel
theorem dX6_undoLevel_34 : decode cX6_undoLevel 34 = .ok (.aload_n 0, 1) := by decide +kernel
theorem dX6_undoLevel_35 : decode cX6_undoLevel 35 = .ok (.getfield 17, 3) := by decide +kernel
theorem dX6_undoLevel_38 : decode cX6_undoLevel 38 = .ok (.aload_n 0, 1) := by decide +kernel
theorem dX6_undoLevel_39 : decode cX6_undoLevel 39 = .ok (.getfield 34, 3) := by decide +kernel
theorem dX6_undoLevel_42 : decode cX6_undoLevel 42 = .ok (.iaload, 1) := by decide +kernel
theorem dX6_undoLevel_43 : decode cX6_undoLevel 43 = .ok (.putfield 37, 3) := by decide +kernel
theorem dX6_undoLevel_46 : decode cX6_undoLevel 46 = .ok (.aload_n 0, 1) := by decide +kernel
theorem dX6_undoLevel_47 : decode cX6_undoLevel 47 = .ok (.dup, 1) := by decide +kernel
theorem dX6_undoLevel_48 : decode cX6_undoLevel 48 = .ok (.getfield 34, 3) := by decide +kernel
theorem dX6_undoLevel_51 : decode cX6_undoLevel 51 = .ok (.iconst 1, 1) := by decide +kernel
theorem dX6_undoLevel_52 : decode cX6_undoLevel 52 = .ok (.isub, 1) := by decide +kernel
theorem dX6_undoLevel_53 : decode cX6_undoLevel 53 = .ok (.putfield 34, 3) := by decide +kernel
theorem dX6_undoLevel_56 : decode cX6_undoLevel 56 = .ok (.return_, 1) := by decide +kernel
theorem dX6_skipGroup_0 : decode cX6_skipGroup 0 = .ok (.iconst 1, 1) := by decide +kernel
theorem dX6_skipGroup_1 : decode cX6_skipGroup 1 = .ok (.istore_n 1, 1) := by decide +kernel
theorem dX6_skipGroup_2 : decode cX6_skipGroup 2 = .ok (.iconst 0, 1) := by decide +kernel
theorem dX6_skipGroup_3 : decode cX6_skipGroup 3 = .ok (.istore_n 2, 1) := by decide +kernel
theorem dX6_skipGroup_4 : decode cX6_skipGroup 4 = .ok (.iload_n 2, 1) := by decide +kernel
theorem dX6_skipGroup_5 : decode cX6_skipGroup 5 = .ok (.bipush 120, 2) := by decide +kernel
theorem dX6_skipGroup_7 : decode cX6_skipGroup 7 = .ok (.if_icmp .ge 53, 3) := by decide +kernel
theorem dX6_skipGroup_10 : decode cX6_skipGroup 10 = .ok (.aload_n 0, 1) := by decide +kernel
theorem dX6_skipGroup_11 : decode cX6_skipGroup 11 = .ok (.getfield 30, 3) := by decide +kernel
theorem dX6_skipGroup_14 : decode cX6_skipGroup 14 = .ok (.aload_n 0, 1) := by decide +kernel
theorem dX6_skipGroup_15 : decode cX6_skipGroup 15 = .ok (.getfield 21, 3) := by decide +kernel
theorem dX6_skipGroup_18 : decode cX6_skipGroup 18 = .ok (.getfield 46, 3) := by decide +kernel
theorem dX6_skipGroup_21 : decode cX6_skipGroup 21 = .ok (.if_icmp .ge 39, 3) := by decide +kernel
theorem dX6_skipGroup_24 : decode cX6_skipGroup 24 = .ok (.iload_n 1, 1) := by decide +kernel
theorem dX6_skipGroup_25 : decode cX6_skipGroup 25 = .ok (.ifCond .le 35, 3) := by decide +kernel
theorem dX6_skipGroup_28 : decode cX6_skipGroup 28 = .ok (.aload_n 0, 1) := by decide +kernel
theorem dX6_skipGroup_29 : decode cX6_skipGroup 29 = .ok (.invokevirtual 51, 3) := by decide +kernel
theorem dX6_skipGroup_32 : decode cX6_skipGroup 32 = .ok (.istore_n 3, 1) := by decide +kernel
theorem dX6_skipGroup_33 : decode cX6_skipGroup 33 = .ok (.iload_n 3, 1) := by decide +kernel
theorem dX6_skipGroup_34 : decode cX6_skipGroup 34 = .ok (.bipush 40, 2) := by decide +kernel
theorem dX6_skipGroup_36 : decode cX6_skipGroup 36 = .ok (.if_icmp .ne 9, 3) := by decide +kernel
theorem dX6_skipGroup_39 : decode cX6_skipGroup 39 = .ok (.iinc 1 1, 3) := by decide +kernel
theorem dX6_skipGroup_42 : decode cX6_skipGroup 42 = .ok (.goto 12, 3) := by decide +kernel
theorem dX6_skipGroup_45 : decode cX6_skipGroup 45 = .ok (.iload_n 3, 1) := by decide +kernel
theorem dX6_skipGroup_46 : decode cX6_skipGroup 46 = .ok (.bipush 41, 2) := by decide +kernel
theorem dX6_skipGroup_48 : decode cX6_skipGroup 48 = .ok (.if_icmp .ne 6, 3) := by decide +kernel
theorem dX6_skipGroup_51 : decode cX6_skipGroup 51 = .ok (.iinc 1 (-1), 3) := by decide +kernel
theorem dX6_skipGroup_54 : decode cX6_skipGroup 54 = .ok (.iinc 2 1, 3) := by decide +kernel
theorem dX6_skipGroup_57 : decode cX6_skipGroup 57 = .ok (.goto (-53), 3) := by decide +kernel
theorem dX6_skipGroup_60 : decode cX6_skipGroup 60 = .ok (.return_, 1) := by decide +kernel
theorem dX6_orderDone_0 : decode cX6_orderDone 0 = .ok (.aload_n 0, 1) := by decide +kernel
theorem dX6_orderDone_1 : decode cX6_orderDone 1 = .ok (.invokevirtual 92, 3) := by decide +kernel
theorem dX6_orderDone_4 : decode cX6_orderDone 4 = .ok (.istore_n 2, 1) := by decide +kernel
theorem dX6_orderDone_5 : decode cX6_orderDone 5 = .ok (.iload_n 1, 1) := by decide +kernel
theorem dX6_orderDone_6 : decode cX6_orderDone 6 = .ok (.bipush 116, 2) := by decide +kernel
theorem dX6_orderDone_8 : decode cX6_orderDone 8 = .ok (.if_icmp .ne 41, 3) := by decide +kernel
theorem dX6_orderDone_11 : decode cX6_orderDone 11 = .ok (.aload_n 0, 1) := by decide +kernel
theorem dX6_orderDone_12 : decode cX6_orderDone 12 = .ok (.getfield 25, 3) := by decide +kernel
theorem dX6_orderDone_15 : decode cX6_orderDone 15 = .ok (.iload_n 2, 1) := by decide +kernel
theorem dX6_orderDone_16 : decode cX6_orderDone 16 = .ok (.invokevirtual 95, 3) := by decide +kernel
theorem dX6_orderDone_19 : decode cX6_orderDone 19 = .ok (.ifCond .eq 25, 3) := by decide +kernel
theorem dX6_orderDone_22 : decode cX6_orderDone 22 = .ok (.aload_n 0, 1) := by decide +kernel
theorem dX6_orderDone_23 : decode cX6_orderDone 23 = .ok (.getfield 25, 3) := by decide +kernel
theorem dX6_orderDone_26 : decode cX6_orderDone 26 = .ok (.getfield 98, 3) := by decide +kernel
theorem dX6_orderDone_29 : decode cX6_orderDone 29 = .ok (.iload_n 2, 1) := by decide +kernel
theorem dX6_orderDone_30 : decode cX6_orderDone 30 = .ok (.aaload, 1) := by decide +kernel
theorem dX6_orderDone_31 : decode cX6_orderDone 31 = .ok (.iconst (-1), 1) := by decide +kernel
theorem dX6_orderDone_32 : decode cX6_orderDone 32 = .ok (.invokevirtual 102, 3) := by decide +kernel
theorem dX6_orderDone_35 : decode cX6_orderDone 35 = .ok (.bipush (-5), 2) := by decide +kernel
theorem dX6_orderDone_37 : decode cX6_orderDone 37 = .ok (.if_icmp .eq 7, 3) := by decide +kernel
theorem dX6_orderDone_40 : decode cX6_orderDone 40 = .ok (.iconst 1, 1) := by decide +kernel
theorem dX6_orderDone_41 : decode cX6_orderDone 41 = .ok (.goto 4, 3) := by decide +kernel
theorem dX6_orderDone_44 : decode cX6_orderDone 44 = .ok (.iconst 0, 1) := by decide +kernel
theorem dX6_orderDone_45 : decode cX6_orderDone 45 = .ok (.istore_n 3, 1) := by decide +kernel
theorem dX6_orderDone_46 : decode cX6_orderDone 46 = .ok (.goto 117, 3) := by decide +kernel
theorem dX6_orderDone_49 : decode cX6_orderDone 49 = .ok (.iload_n 1, 1) := by decide +kernel
theorem dX6_orderDone_50 : decode cX6_orderDone 50 = .ok (.bipush 112, 2) := by decide +kernel
theorem dX6_orderDone_52 : decode cX6_orderDone 52 = .ok (.if_icmp .ne 47, 3) := by decide +kernel
theorem dX6_orderDone_55 : decode cX6_orderDone 55 = .ok (.aload_n 0, 1) := by decide +kernel
theorem dX6_orderDone_56 : decode cX6_orderDone 56 = .ok (.invokevirtual 92, 3) := by decide +kernel
theorem dX6_orderDone_59 : decode cX6_orderDone 59 = .ok (.istore 4, 2) := by decide +kernel
theorem dX6_orderDone_61 : decode cX6_orderDone 61 = .ok (.aload_n 0, 1) := by decide +kernel
theorem dX6_orderDone_62 : decode cX6_orderDone 62 = .ok (.getfield 25, 3) := by decide +kernel
theorem dX6_orderDone_65 : decode cX6_orderDone 65 = .ok (.iload_n 2, 1) := by decide +kernel
theorem dX6_orderDone_66 : decode cX6_orderDone 66 = .ok (.invokevirtual 95, 3) := by decide +kernel
theorem dX6_orderDone_69 : decode cX6_orderDone 69 = .ok (.ifCond .eq 25, 3) := by decide +kernel
theorem dX6_orderDone_72 : decode cX6_orderDone 72 = .ok (.aload_n 0, 1) := by decide +kernel
theorem dX6_orderDone_73 : decode cX6_orderDone 73 = .ok (.getfield 25, 3) := by decide +kernel
theorem dX6_orderDone_76 : decode cX6_orderDone 76 = .ok (.getfield 98, 3) := by decide +kernel
theorem dX6_orderDone_79 : decode cX6_orderDone 79 = .ok (.iload_n 2, 1) := by decide +kernel
theorem dX6_orderDone_80 : decode cX6_orderDone 80 = .ok (.aaload, 1) := by decide +kernel
theorem dX6_orderDone_81 : decode cX6_orderDone 81 = .ok (.iload 4, 2) := by decide +kernel
theorem dX6_orderDone_83 : decode cX6_orderDone 83 = .ok (.iconst (-1), 1) := by decide +kernel
theorem dX6_orderDone_84 : decode cX6_orderDone 84 = .ok (.invokevirtual 108, 3) := by decide +kernel
theorem dX6_orderDone_87 : decode cX6_orderDone 87 = .ok (.ifCond .eq 7, 3) := by decide +kernel
theorem dX6_orderDone_90 : decode cX6_orderDone 90 = .ok (.iconst 1, 1) := by decide +kernel
theorem dX6_orderDone_91 : decode cX6_orderDone 91 = .ok (.goto 4, 3) := by decide +kernel
theorem dX6_orderDone_94 : decode cX6_orderDone 94 = .ok (.iconst 0, 1) := by decide +kernel
theorem dX6_orderDone_95 : decode cX6_orderDone 95 = .ok (.istore_n 3, 1) := by decide +kernel
theorem dX6_orderDone_96 : decode cX6_orderDone 96 = .ok (.goto 67, 3) := by decide +kernel
theorem dX6_orderDone_99 : decode cX6_orderDone 99 = .ok (.aload_n 0, 1) := by decide +kernel
theorem dX6_orderDone_100 : decode cX6_orderDone 100 = .ok (.invokevirtual 92, 3) := by decide +kernel
theorem dX6_orderDone_103 : decode cX6_orderDone 103 = .ok (.istore 4, 2) := by decide +kernel
theorem dX6_orderDone_105 : decode cX6_orderDone 105 = .ok (.aload_n 0, 1) := by decide +kernel
theorem dX6_orderDone_106 : decode cX6_orderDone 106 = .ok (.invokevirtual 92, 3) := by decide +kernel
theorem dX6_orderDone_109 : decode cX6_orderDone 109 = .ok (.istore 5, 2) := by decide +kernel
theorem dX6_orderDone_111 : decode cX6_orderDone 111 = .ok (.aload_n 0, 1) := by decide +kernel
theorem dX6_orderDone_112 : decode cX6_orderDone 112 = .ok (.getfield 25, 3) := by decide +kernel
theorem dX6_orderDone_115 : decode cX6_orderDone 115 = .ok (.iload_n 2, 1) := by decide +kernel
theorem dX6_orderDone_116 : decode cX6_orderDone 116 = .ok (.invokevirtual 95, 3) := by decide +kernel
theorem dX6_orderDone_119 : decode cX6_orderDone 119 = .ok (.ifCond .eq 42, 3) := by decide +kernel
theorem dX6_orderDone_122 : decode cX6_orderDone 122 = .ok (.aload_n 0, 1) := by decide +kernel
theorem dX6_orderDone_123 : decode cX6_orderDone 123 = .ok (.getfield 25, 3) := by decide +kernel
theorem dX6_orderDone_126 : decode cX6_orderDone 126 = .ok (.iload 4, 2) := by decide +kernel
theorem dX6_orderDone_128 : decode cX6_orderDone 128 = .ok (.invokevirtual 95, 3) := by decide +kernel
theorem dX6_orderDone_131 : decode cX6_orderDone 131 = .ok (.ifCond .eq 30, 3) := by decide +kernel
theorem dX6_orderDone_134 : decode cX6_orderDone 134 = .ok (.iload_n 2, 1) := by decide +kernel
theorem dX6_orderDone_135 : decode cX6_orderDone 135 = .ok (.iload 4, 2) := by decide +kernel
theorem dX6_orderDone_137 : decode cX6_orderDone 137 = .ok (.if_icmp .eq 24, 3) := by decide +kernel
theorem dX6_orderDone_140 : decode cX6_orderDone 140 = .ok (.aload_n 0, 1) := by decide +kernel
theorem dX6_orderDone_141 : decode cX6_orderDone 141 = .ok (.getfield 25, 3) := by decide +kernel
theorem dX6_orderDone_144 : decode cX6_orderDone 144 = .ok (.iload_n 2, 1) := by decide +kernel
theorem dX6_orderDone_145 : decode cX6_orderDone 145 = .ok (.iload 4, 2) := by decide +kernel
theorem dX6_orderDone_147 : decode cX6_orderDone 147 = .ok (.iload 5, 2) := by decide +kernel
theorem dX6_orderDone_149 : decode cX6_orderDone 149 = .ok (.invokevirtual 112, 3) := by decide +kernel
theorem dX6_orderDone_152 : decode cX6_orderDone 152 = .ok (.iload 5, 2) := by decide +kernel
theorem dX6_orderDone_154 : decode cX6_orderDone 154 = .ok (.if_icmp .ne 7, 3) := by decide +kernel
theorem dX6_orderDone_157 : decode cX6_orderDone 157 = .ok (.iconst 1, 1) := by decide +kernel
theorem dX6_orderDone_158 : decode cX6_orderDone 158 = .ok (.goto 4, 3) := by decide +kernel
theorem dX6_orderDone_161 : decode cX6_orderDone 161 = .ok (.iconst 0, 1) := by decide +kernel
theorem dX6_orderDone_162 : decode cX6_orderDone 162 = .ok (.istore_n 3, 1) := by decide +kernel
theorem dX6_orderDone_163 : decode cX6_orderDone 163 = .ok (.iload_n 3, 1) := by decide +kernel
theorem dX6_orderDone_164 : decode cX6_orderDone 164 = .ok (.ifCond .eq 23, 3) := by decide +kernel
theorem dX6_orderDone_167 : decode cX6_orderDone 167 = .ok (.aload_n 0, 1) := by decide +kernel
theorem dX6_orderDone_168 : decode cX6_orderDone 168 = .ok (.dup, 1) := by decide +kernel
theorem dX6_orderDone_169 : decode cX6_orderDone 169 = .ok (.getfield 40, 3) := by decide +kernel
theorem dX6_orderDone_172 : decode cX6_orderDone 172 = .ok (.iconst 1, 1) := by decide +kernel
theorem dX6_orderDone_173 : decode cX6_orderDone 173 = .ok (.iadd, 1) := by decide +kernel
theorem dX6_orderDone_174 : decode cX6_orderDone 174 = .ok (.putfield 40, 3) := by decide +kernel
theorem dX6_orderDone_177 : decode cX6_orderDone 177 = .ok (.aload_n 0, 1) := by decide +kernel
theorem dX6_orderDone_178 : decode cX6_orderDone 178 = .ok (.dup, 1) := by decide +kernel
theorem dX6_orderDone_179 : decode cX6_orderDone 179 = .ok (.getfield 37, 3) := by decide +kernel
theorem dX6_orderDone_182 : decode cX6_orderDone 182 = .ok (.iconst 1, 1) := by decide +kernel
theorem dX6_orderDone_183 : decode cX6_orderDone 183 = .ok (.iadd, 1) := by decide +kernel
theorem dX6_orderDone_184 : decode cX6_orderDone 184 = .ok (.putfield 37, 3) := by decide +kernel
theorem dX6_orderDone_187 : decode cX6_orderDone 187 = .ok (.iload_n 3, 1) := by decide +kernel
theorem dX6_orderDone_188 : decode cX6_orderDone 188 = .ok (.ireturn, 1) := by decide +kernel
theorem dX6_nextFigure_0 : decode cX6_nextFigure 0 = .ok (.aload_n 0, 1) := by decide +kernel
theorem dX6_nextFigure_1 : decode cX6_nextFigure 1 = .ok (.getfield 30, 3) := by decide +kernel
theorem dX6_nextFigure_4 : decode cX6_nextFigure 4 = .ok (.aload_n 0, 1) := by decide +kernel
theorem dX6_nextFigure_5 : decode cX6_nextFigure 5 = .ok (.getfield 21, 3) := by decide +kernel
theorem dX6_nextFigure_8 : decode cX6_nextFigure 8 = .ok (.getfield 46, 3) := by decide +kernel
theorem dX6_nextFigure_11 : decode cX6_nextFigure 11 = .ok (.if_icmp .ge 32, 3) := by decide +kernel
theorem dX6_nextFigure_14 : decode cX6_nextFigure 14 = .ok (.aload_n 0, 1) := by decide +kernel
theorem dX6_nextFigure_15 : decode cX6_nextFigure 15 = .ok (.getfield 21, 3) := by decide +kernel
theorem dX6_nextFigure_18 : decode cX6_nextFigure 18 = .ok (.aload_n 0, 1) := by decide +kernel
theorem dX6_nextFigure_19 : decode cX6_nextFigure 19 = .ok (.getfield 30, 3) := by decide +kernel
theorem dX6_nextFigure_22 : decode cX6_nextFigure 22 = .ok (.invokevirtual 116, 3) := by decide +kernel
theorem dX6_nextFigure_25 : decode cX6_nextFigure 25 = .ok (.bipush 32, 2) := by decide +kernel
theorem dX6_nextFigure_27 : decode cX6_nextFigure 27 = .ok (.if_icmp .ne 16, 3) := by decide +kernel
theorem dX6_nextFigure_30 : decode cX6_nextFigure 30 = .ok (.aload_n 0, 1) := by decide +kernel
theorem dX6_nextFigure_31 : decode cX6_nextFigure 31 = .ok (.dup, 1) := by decide +kernel
theorem dX6_nextFigure_32 : decode cX6_nextFigure 32 = .ok (.getfield 30, 3) := by decide +kernel
theorem dX6_nextFigure_35 : decode cX6_nextFigure 35 = .ok (.iconst 1, 1) := by decide +kernel
theorem dX6_nextFigure_36 : decode cX6_nextFigure 36 = .ok (.iadd, 1) := by decide +kernel
theorem dX6_nextFigure_37 : decode cX6_nextFigure 37 = .ok (.putfield 30, 3) := by decide +kernel
theorem dX6_nextFigure_40 : decode cX6_nextFigure 40 = .ok (.goto (-40), 3) := by decide +kernel
theorem dX6_nextFigure_43 : decode cX6_nextFigure 43 = .ok (.aload_n 0, 1) := by decide +kernel
theorem dX6_nextFigure_44 : decode cX6_nextFigure 44 = .ok (.invokevirtual 51, 3) := by decide +kernel
theorem dX6_nextFigure_47 : decode cX6_nextFigure 47 = .ok (.bipush 48, 2) := by decide +kernel
theorem dX6_nextFigure_49 : decode cX6_nextFigure 49 = .ok (.isub, 1) := by decide +kernel
theorem dX6_nextFigure_50 : decode cX6_nextFigure 50 = .ok (.ireturn, 1) := by decide +kernel
theorem dX6_nextByte_0 : decode cX6_nextByte 0 = .ok (.aload_n 0, 1) := by decide +kernel
theorem dX6_nextByte_1 : decode cX6_nextByte 1 = .ok (.getfield 21, 3) := by decide +kernel
theorem dX6_nextByte_4 : decode cX6_nextByte 4 = .ok (.aload_n 0, 1) := by decide +kernel
theorem dX6_nextByte_5 : decode cX6_nextByte 5 = .ok (.getfield 30, 3) := by decide +kernel
theorem dX6_nextByte_8 : decode cX6_nextByte 8 = .ok (.invokevirtual 116, 3) := by decide +kernel
theorem dX6_nextByte_11 : decode cX6_nextByte 11 = .ok (.istore_n 1, 1) := by decide +kernel
theorem dX6_nextByte_12 : decode cX6_nextByte 12 = .ok (.aload_n 0, 1) := by decide +kernel
theorem dX6_nextByte_13 : decode cX6_nextByte 13 = .ok (.dup, 1) := by decide +kernel
theorem dX6_nextByte_14 : decode cX6_nextByte 14 = .ok (.getfield 30, 3) := by decide +kernel
theorem dX6_nextByte_17 : decode cX6_nextByte 17 = .ok (.iconst 1, 1) := by decide +kernel
theorem dX6_nextByte_18 : decode cX6_nextByte 18 = .ok (.iadd, 1) := by decide +kernel
theorem dX6_nextByte_19 : decode cX6_nextByte 19 = .ok (.putfield 30, 3) := by decide +kernel
theorem dX6_nextByte_22 : decode cX6_nextByte 22 = .ok (.iload_n 1, 1) := by decide +kernel
theorem dX6_nextByte_23 : decode cX6_nextByte 23 = .ok (.ireturn, 1) := by decide +kernel
theorem dX7_init_0 : decode cX7_init 0 = .ok (.aload_n 0, 1) := by decide +kernel
theorem dX7_init_1 : decode cX7_init 1 = .ok (.invokespecial 3, 3) := by decide +kernel
theorem dX7_init_4 : decode cX7_init 4 = .ok (.return_, 1) := by decide +kernel
theorem dX7_setUp_0 : decode cX7_setUp 0 = .ok (.aload_n 0, 1) := by decide +kernel
theorem dX7_setUp_1 : decode cX7_setUp 1 = .ok (.iload_n 1, 1) := by decide +kernel
theorem dX7_setUp_2 : decode cX7_setUp 2 = .ok (.putfield 9, 3) := by decide +kernel
theorem dX7_setUp_5 : decode cX7_setUp 5 = .ok (.aload_n 0, 1) := by decide +kernel
theorem dX7_setUp_6 : decode cX7_setUp 6 = .ok (.iload_n 2, 1) := by decide +kernel
theorem dX7_setUp_7 : decode cX7_setUp 7 = .ok (.putfield 15, 3) := by decide +kernel
theorem dX7_setUp_10 : decode cX7_setUp 10 = .ok (.aload_n 0, 1) := by decide +kernel
theorem dX7_setUp_11 : decode cX7_setUp 11 = .ok (.iload_n 3, 1) := by decide +kernel
theorem dX7_setUp_12 : decode cX7_setUp 12 = .ok (.putfield 18, 3) := by decide +kernel
theorem dX7_setUp_15 : decode cX7_setUp 15 = .ok (.aload_n 0, 1) := by decide +kernel
theorem dX7_setUp_16 : decode cX7_setUp 16 = .ok (.iload 4, 2) := by decide +kernel
theorem dX7_setUp_18 : decode cX7_setUp 18 = .ok (.putfield 21, 3) := by decide +kernel
theorem dX7_setUp_21 : decode cX7_setUp 21 = .ok (.aload_n 0, 1) := by decide +kernel
theorem dX7_setUp_22 : decode cX7_setUp 22 = .ok (.iload 5, 2) := by decide +kernel
theorem dX7_setUp_24 : decode cX7_setUp 24 = .ok (.putfield 24, 3) := by decide +kernel
theorem dX7_setUp_27 : decode cX7_setUp 27 = .ok (.aload_n 0, 1) := by decide +kernel
theorem dX7_setUp_28 : decode cX7_setUp 28 = .ok (.iconst (-1), 1) := by decide +kernel
theorem dX7_setUp_29 : decode cX7_setUp 29 = .ok (.putfield 27, 3) := by decide +kernel
theorem dX7_setUp_32 : decode cX7_setUp 32 = .ok (.aload_n 0, 1) := by decide +kernel
theorem dX7_setUp_33 : decode cX7_setUp 33 = .ok (.invokevirtual 30, 3) := by decide +kernel
theorem dX7_setUp_36 : decode cX7_setUp 36 = .ok (.aload_n 0, 1) := by decide +kernel
theorem dX7_setUp_37 : decode cX7_setUp 37 = .ok (.iconst 0, 1) := by decide +kernel
theorem dX7_setUp_38 : decode cX7_setUp 38 = .ok (.putfield 33, 3) := by decide +kernel
theorem dX7_setUp_41 : decode cX7_setUp 41 = .ok (.aload_n 0, 1) := by decide +kernel
theorem dX7_setUp_42 : decode cX7_setUp 42 = .ok (.iconst 0, 1) := by decide +kernel
theorem dX7_setUp_43 : decode cX7_setUp 43 = .ok (.putfield 36, 3) := by decide +kernel
theorem dX7_setUp_46 : decode cX7_setUp 46 = .ok (.aload_n 0, 1) := by decide +kernel
theorem dX7_setUp_47 : decode cX7_setUp 47 = .ok (.iconst 0, 1) := by decide +kernel
theorem dX7_setUp_48 : decode cX7_setUp 48 = .ok (.putfield 39, 3) := by decide +kernel
theorem dX7_setUp_51 : decode cX7_setUp 51 = .ok (.return_, 1) := by decide +kernel
theorem dX7_becomeIdle_0 : decode cX7_becomeIdle 0 = .ok (.aload_n 0, 1) := by decide +kernel
theorem dX7_becomeIdle_1 : decode cX7_becomeIdle 1 = .ok (.iconst 0, 1) := by decide +kernel
theorem dX7_becomeIdle_2 : decode cX7_becomeIdle 2 = .ok (.putfield 42, 3) := by decide +kernel
theorem dX7_becomeIdle_5 : decode cX7_becomeIdle 5 = .ok (.aload_n 0, 1) := by decide +kernel
theorem dX7_becomeIdle_6 : decode cX7_becomeIdle 6 = .ok (.iconst 0, 1) := by decide +kernel
theorem dX7_becomeIdle_7 : decode cX7_becomeIdle 7 = .ok (.putfield 45, 3) := by decide +kernel
theorem dX7_becomeIdle_10 : decode cX7_becomeIdle 10 = .ok (.aload_n 0, 1) := by decide +kernel
theorem dX7_becomeIdle_11 : decode cX7_becomeIdle 11 = .ok (.iconst (-1), 1) := by decide +kernel
theorem dX7_becomeIdle_12 : decode cX7_becomeIdle 12 = .ok (.putfield 48, 3) := by decide +kernel
theorem dX7_becomeIdle_15 : decode cX7_becomeIdle 15 = .ok (.return_, 1) := by decide +kernel
theorem dX7_load_0 : decode cX7_load 0 = .ok (.iload_n 1, 1) := by decide +kernel
theorem dX7_load_1 : decode cX7_load 1 = .ok (.bipush (-5), 2) := by decide +kernel
theorem dX7_load_3 : decode cX7_load 3 = .ok (.if_icmp .ne 14, 3) := by decide +kernel
theorem dX7_load_6 : decode cX7_load 6 = .ok (.aload_n 0, 1) := by decide +kernel
theorem dX7_load_7 : decode cX7_load 7 = .ok (.dup, 1) := by decide +kernel
theorem dX7_load_8 : decode cX7_load 8 = .ok (.getfield 39, 3) := by decide +kernel
theorem dX7_load_11 : decode cX7_load 11 = .ok (.iconst 1, 1) := by decide +kernel
theorem dX7_load_12 : decode cX7_load 12 = .ok (.iadd, 1) := by decide +kernel
theorem dX7_load_13 : decode cX7_load 13 = .ok (.putfield 39, 3) := by decide +kernel
theorem dX7_load_16 : decode cX7_load 16 = .ok (.return_, 1) := by decide +kernel
theorem dX7_load_17 : decode cX7_load 17 = .ok (.aload_n 0, 1) := by decide +kernel
theorem dX7_load_18 : decode cX7_load 18 = .ok (.iconst 1, 1) := by decide +kernel
theorem dX7_load_19 : decode cX7_load 19 = .ok (.putfield 42, 3) := by decide +kernel
theorem dX7_load_22 : decode cX7_load 22 = .ok (.aload_n 0, 1) := by decide +kernel
theorem dX7_load_23 : decode cX7_load 23 = .ok (.aload_n 0, 1) := by decide +kernel
theorem dX7_load_24 : decode cX7_load 24 = .ok (.getfield 21, 3) := by decide +kernel
theorem dX7_load_27 : decode cX7_load 27 = .ok (.putfield 45, 3) := by decide +kernel
theorem dX7_load_30 : decode cX7_load 30 = .ok (.aload_n 0, 1) := by decide +kernel
theorem dX7_load_31 : decode cX7_load 31 = .ok (.iload_n 1, 1) := by decide +kernel
theorem dX7_load_32 : decode cX7_load 32 = .ok (.aload_n 0, 1) := by decide +kernel
theorem dX7_load_33 : decode cX7_load 33 = .ok (.getfield 24, 3) := by decide +kernel
theorem dX7_load_36 : decode cX7_load 36 = .ok (.iadd, 1) := by decide +kernel
theorem dX7_load_37 : decode cX7_load 37 = .ok (.bipush 10, 2) := by decide +kernel
theorem dX7_load_39 : decode cX7_load 39 = .ok (.irem, 1) := by decide +kernel
theorem dX7_load_40 : decode cX7_load 40 = .ok (.putfield 48, 3) := by decide +kernel
theorem dX7_load_43 : decode cX7_load 43 = .ok (.return_, 1) := by decide +kernel
theorem dX7_workOn_0 : decode cX7_workOn 0 = .ok (.aload_n 0, 1) := by decide +kernel
theorem dX7_workOn_1 : decode cX7_workOn 1 = .ok (.getfield 42, 3) := by decide +kernel
theorem dX7_workOn_4 : decode cX7_workOn 4 = .ok (.iconst 1, 1) := by decide +kernel
theorem dX7_workOn_5 : decode cX7_workOn 5 = .ok (.if_icmp .ne 25, 3) := by decide +kernel
theorem dX7_workOn_8 : decode cX7_workOn 8 = .ok (.aload_n 0, 1) := by decide +kernel
theorem dX7_workOn_9 : decode cX7_workOn 9 = .ok (.dup, 1) := by decide +kernel
theorem dX7_workOn_10 : decode cX7_workOn 10 = .ok (.getfield 45, 3) := by decide +kernel
theorem dX7_workOn_13 : decode cX7_workOn 13 = .ok (.iconst 1, 1) := by decide +kernel
theorem dX7_workOn_14 : decode cX7_workOn 14 = .ok (.isub, 1) := by decide +kernel
theorem dX7_workOn_15 : decode cX7_workOn 15 = .ok (.putfield 45, 3) := by decide +kernel
theorem dX7_workOn_18 : decode cX7_workOn 18 = .ok (.aload_n 0, 1) := by decide +kernel
theorem dX7_workOn_19 : decode cX7_workOn 19 = .ok (.getfield 45, 3) := by decide +kernel
theorem dX7_workOn_22 : decode cX7_workOn 22 = .ok (.ifCond .ne 8, 3) := by decide +kernel
theorem dX7_workOn_25 : decode cX7_workOn 25 = .ok (.aload_n 0, 1) := by decide +kernel
theorem dX7_workOn_26 : decode cX7_workOn 26 = .ok (.iconst 2, 1) := by decide +kernel
theorem dX7_workOn_27 : decode cX7_workOn 27 = .ok (.putfield 42, 3) := by decide +kernel
theorem dX7_workOn_30 : decode cX7_workOn 30 = .ok (.return_, 1) := by decide +kernel
theorem dX7_stationTold_0 : decode cX7_stationTold 0 = .ok (.iload_n 1, 1) := by decide +kernel
theorem dX7_stationTold_1 : decode cX7_stationTold 1 = .ok (.tableswitch 69 0 5 #[39, 44, 49, 54, 59, 64], 39) := by decide +kernel
theorem dX7_stationTold_40 : decode cX7_stationTold 40 = .ok (.aload_n 0, 1) := by decide +kernel
theorem dX7_stationTold_41 : decode cX7_stationTold 41 = .ok (.getfield 42, 3) := by decide +kernel
theorem dX7_stationTold_44 : decode cX7_stationTold 44 = .ok (.ireturn, 1) := by decide +kernel
theorem dX7_stationTold_45 : decode cX7_stationTold 45 = .ok (.aload_n 0, 1) := by decide +kernel
theorem dX7_stationTold_46 : decode cX7_stationTold 46 = .ok (.getfield 45, 3) := by decide +kernel
theorem dX7_stationTold_49 : decode cX7_stationTold 49 = .ok (.ireturn, 1) := by decide +kernel
theorem dX7_stationTold_50 : decode cX7_stationTold 50 = .ok (.aload_n 0, 1) := by decide +kernel
theorem dX7_stationTold_51 : decode cX7_stationTold 51 = .ok (.getfield 48, 3) := by decide +kernel
theorem dX7_stationTold_54 : decode cX7_stationTold 54 = .ok (.ireturn, 1) := by decide +kernel
theorem dX7_stationTold_55 : decode cX7_stationTold 55 = .ok (.aload_n 0, 1) := by decide +kernel
theorem dX7_stationTold_56 : decode cX7_stationTold 56 = .ok (.getfield 33, 3) := by decide +kernel
theorem dX7_stationTold_59 : decode cX7_stationTold 59 = .ok (.ireturn, 1) := by decide +kernel
theorem dX7_stationTold_60 : decode cX7_stationTold 60 = .ok (.aload_n 0, 1) := by decide +kernel
theorem dX7_stationTold_61 : decode cX7_stationTold 61 = .ok (.getfield 36, 3) := by decide +kernel
theorem dX7_stationTold_64 : decode cX7_stationTold 64 = .ok (.ireturn, 1) := by decide +kernel
theorem dX7_stationTold_65 : decode cX7_stationTold 65 = .ok (.aload_n 0, 1) := by decide +kernel
theorem dX7_stationTold_66 : decode cX7_stationTold 66 = .ok (.getfield 39, 3) := by decide +kernel
theorem dX7_stationTold_69 : decode cX7_stationTold 69 = .ok (.ireturn, 1) := by decide +kernel
theorem dX7_stationTold_70 : decode cX7_stationTold 70 = .ok (.aload_n 0, 1) := by decide +kernel
theorem dX7_stationTold_71 : decode cX7_stationTold 71 = .ok (.getfield 27, 3) := by decide +kernel
theorem dX7_stationTold_74 : decode cX7_stationTold 74 = .ok (.ireturn, 1) := by decide +kernel
theorem dX7_copyFrom_0 : decode cX7_copyFrom 0 = .ok (.aload_n 0, 1) := by decide +kernel
theorem dX7_copyFrom_1 : decode cX7_copyFrom 1 = .ok (.aload_n 1, 1) := by decide +kernel
theorem dX7_copyFrom_2 : decode cX7_copyFrom 2 = .ok (.getfield 9, 3) := by decide +kernel
theorem dX7_copyFrom_5 : decode cX7_copyFrom 5 = .ok (.putfield 9, 3) := by decide +kernel
theorem dX7_copyFrom_8 : decode cX7_copyFrom 8 = .ok (.aload_n 0, 1) := by decide +kernel
theorem dX7_copyFrom_9 : decode cX7_copyFrom 9 = .ok (.aload_n 1, 1) := by decide +kernel
theorem dX7_copyFrom_10 : decode cX7_copyFrom 10 = .ok (.getfield 15, 3) := by decide +kernel
theorem dX7_copyFrom_13 : decode cX7_copyFrom 13 = .ok (.putfield 15, 3) := by decide +kernel
theorem dX7_copyFrom_16 : decode cX7_copyFrom 16 = .ok (.aload_n 0, 1) := by decide +kernel
theorem dX7_copyFrom_17 : decode cX7_copyFrom 17 = .ok (.aload_n 1, 1) := by decide +kernel
theorem dX7_copyFrom_18 : decode cX7_copyFrom 18 = .ok (.getfield 18, 3) := by decide +kernel
theorem dX7_copyFrom_21 : decode cX7_copyFrom 21 = .ok (.putfield 18, 3) := by decide +kernel
theorem dX7_copyFrom_24 : decode cX7_copyFrom 24 = .ok (.aload_n 0, 1) := by decide +kernel
theorem dX7_copyFrom_25 : decode cX7_copyFrom 25 = .ok (.aload_n 1, 1) := by decide +kernel
theorem dX7_copyFrom_26 : decode cX7_copyFrom 26 = .ok (.getfield 21, 3) := by decide +kernel
theorem dX7_copyFrom_29 : decode cX7_copyFrom 29 = .ok (.putfield 21, 3) := by decide +kernel
theorem dX7_copyFrom_32 : decode cX7_copyFrom 32 = .ok (.aload_n 0, 1) := by decide +kernel
theorem dX7_copyFrom_33 : decode cX7_copyFrom 33 = .ok (.aload_n 1, 1) := by decide +kernel
theorem dX7_copyFrom_34 : decode cX7_copyFrom 34 = .ok (.getfield 24, 3) := by decide +kernel
theorem dX7_copyFrom_37 : decode cX7_copyFrom 37 = .ok (.putfield 24, 3) := by decide +kernel
theorem dX7_copyFrom_40 : decode cX7_copyFrom 40 = .ok (.aload_n 0, 1) := by decide +kernel
theorem dX7_copyFrom_41 : decode cX7_copyFrom 41 = .ok (.aload_n 1, 1) := by decide +kernel
theorem dX7_copyFrom_42 : decode cX7_copyFrom 42 = .ok (.getfield 27, 3) := by decide +kernel
theorem dX7_copyFrom_45 : decode cX7_copyFrom 45 = .ok (.putfield 27, 3) := by decide +kernel
theorem dX7_copyFrom_48 : decode cX7_copyFrom 48 = .ok (.aload_n 0, 1) := by decide +kernel
theorem dX7_copyFrom_49 : decode cX7_copyFrom 49 = .ok (.aload_n 1, 1) := by decide +kernel
theorem dX7_copyFrom_50 : decode cX7_copyFrom 50 = .ok (.getfield 42, 3) := by decide +kernel
theorem dX7_copyFrom_53 : decode cX7_copyFrom 53 = .ok (.putfield 42, 3) := by decide +kernel
theorem dX7_copyFrom_56 : decode cX7_copyFrom 56 = .ok (.aload_n 0, 1) := by decide +kernel
theorem dX7_copyFrom_57 : decode cX7_copyFrom 57 = .ok (.aload_n 1, 1) := by decide +kernel
theorem dX7_copyFrom_58 : decode cX7_copyFrom 58 = .ok (.getfield 45, 3) := by decide +kernel
theorem dX7_copyFrom_61 : decode cX7_copyFrom 61 = .ok (.putfield 45, 3) := by decide +kernel
theorem dX7_copyFrom_64 : decode cX7_copyFrom 64 = .ok (.aload_n 0, 1) := by decide +kernel
theorem dX7_copyFrom_65 : decode cX7_copyFrom 65 = .ok (.aload_n 1, 1) := by decide +kernel
theorem dX7_copyFrom_66 : decode cX7_copyFrom 66 = .ok (.getfield 48, 3) := by decide +kernel
theorem dX7_copyFrom_69 : decode cX7_copyFrom 69 = .ok (.putfield 48, 3) := by decide +kernel
theorem dX7_copyFrom_72 : decode cX7_copyFrom 72 = .ok (.aload_n 0, 1) := by decide +kernel
theorem dX7_copyFrom_73 : decode cX7_copyFrom 73 = .ok (.aload_n 1, 1) := by decide +kernel
theorem dX7_copyFrom_74 : decode cX7_copyFrom 74 = .ok (.getfield 33, 3) := by decide +kernel
theorem dX7_copyFrom_77 : decode cX7_copyFrom 77 = .ok (.putfield 33, 3) := by decide +kernel
theorem dX7_copyFrom_80 : decode cX7_copyFrom 80 = .ok (.aload_n 0, 1) := by decide +kernel
theorem dX7_copyFrom_81 : decode cX7_copyFrom 81 = .ok (.aload_n 1, 1) := by decide +kernel
theorem dX7_copyFrom_82 : decode cX7_copyFrom 82 = .ok (.getfield 36, 3) := by decide +kernel
theorem dX7_copyFrom_85 : decode cX7_copyFrom 85 = .ok (.putfield 36, 3) := by decide +kernel
theorem dX7_copyFrom_88 : decode cX7_copyFrom 88 = .ok (.aload_n 0, 1) := by decide +kernel
theorem dX7_copyFrom_89 : decode cX7_copyFrom 89 = .ok (.aload_n 1, 1) := by decide +kernel
theorem dX7_copyFrom_90 : decode cX7_copyFrom 90 = .ok (.getfield 39, 3) := by decide +kernel
theorem dX7_copyFrom_93 : decode cX7_copyFrom 93 = .ok (.putfield 39, 3) := by decide +kernel
theorem dX7_copyFrom_96 : decode cX7_copyFrom 96 = .ok (.return_, 1) := by decide +kernel
theorem dX8_init_0 : decode cX8_init 0 = .ok (.aload_n 0, 1) := by decide +kernel
theorem dX8_init_1 : decode cX8_init 1 = .ok (.invokespecial 3, 3) := by decide +kernel
theorem dX8_init_4 : decode cX8_init 4 = .ok (.aload_n 0, 1) := by decide +kernel
theorem dX8_init_5 : decode cX8_init 5 = .ok (.bipush 120, 2) := by decide +kernel
theorem dX8_init_7 : decode cX8_init 7 = .ok (.newarray .int, 2) := by decide +kernel
theorem dX8_init_9 : decode cX8_init 9 = .ok (.putfield 9, 3) := by decide +kernel
theorem dX8_init_12 : decode cX8_init 12 = .ok (.return_, 1) := by decide +kernel
theorem dX8_isFull_0 : decode cX8_isFull 0 = .ok (.aload_n 0, 1) := by decide +kernel
theorem dX8_isFull_1 : decode cX8_isFull 1 = .ok (.getfield 15, 3) := by decide +kernel
theorem dX8_isFull_4 : decode cX8_isFull 4 = .ok (.bipush 120, 2) := by decide +kernel
theorem dX8_isFull_6 : decode cX8_isFull 6 = .ok (.if_icmp .lt 7, 3) := by decide +kernel
theorem dX8_isFull_9 : decode cX8_isFull 9 = .ok (.iconst 1, 1) := by decide +kernel
theorem dX8_isFull_10 : decode cX8_isFull 10 = .ok (.goto 4, 3) := by decide +kernel
theorem dX8_isFull_13 : decode cX8_isFull 13 = .ok (.iconst 0, 1) := by decide +kernel
theorem dX8_isFull_14 : decode cX8_isFull 14 = .ok (.ireturn, 1) := by decide +kernel
theorem dX8_add_0 : decode cX8_add 0 = .ok (.aload_n 0, 1) := by decide +kernel
theorem dX8_add_1 : decode cX8_add 1 = .ok (.invokevirtual 19, 3) := by decide +kernel
theorem dX8_add_4 : decode cX8_add 4 = .ok (.ifCond .ne 23, 3) := by decide +kernel
theorem dX8_add_7 : decode cX8_add 7 = .ok (.aload_n 0, 1) := by decide +kernel
theorem dX8_add_8 : decode cX8_add 8 = .ok (.getfield 9, 3) := by decide +kernel
theorem dX8_add_11 : decode cX8_add 11 = .ok (.aload_n 0, 1) := by decide +kernel
theorem dX8_add_12 : decode cX8_add 12 = .ok (.getfield 15, 3) := by decide +kernel
theorem dX8_add_15 : decode cX8_add 15 = .ok (.iload_n 1, 1) := by decide +kernel
theorem dX8_add_16 : decode cX8_add 16 = .ok (.iastore, 1) := by decide +kernel
theorem dX8_add_17 : decode cX8_add 17 = .ok (.aload_n 0, 1) := by decide +kernel
theorem dX8_add_18 : decode cX8_add 18 = .ok (.dup, 1) := by decide +kernel
theorem dX8_add_19 : decode cX8_add 19 = .ok (.getfield 15, 3) := by decide +kernel
theorem dX8_add_22 : decode cX8_add 22 = .ok (.iconst 1, 1) := by decide +kernel
theorem dX8_add_23 : decode cX8_add 23 = .ok (.iadd, 1) := by decide +kernel
theorem dX8_add_24 : decode cX8_add 24 = .ok (.putfield 15, 3) := by decide +kernel
theorem dX8_add_27 : decode cX8_add 27 = .ok (.return_, 1) := by decide +kernel
theorem dX8_at_0 : decode cX8_at 0 = .ok (.iload_n 1, 1) := by decide +kernel
theorem dX8_at_1 : decode cX8_at 1 = .ok (.ifCond .lt 20, 3) := by decide +kernel
theorem dX8_at_4 : decode cX8_at 4 = .ok (.iload_n 1, 1) := by decide +kernel
theorem dX8_at_5 : decode cX8_at 5 = .ok (.aload_n 0, 1) := by decide +kernel
theorem dX8_at_6 : decode cX8_at 6 = .ok (.getfield 15, 3) := by decide +kernel
theorem dX8_at_9 : decode cX8_at 9 = .ok (.if_icmp .ge 12, 3) := by decide +kernel
theorem dX8_at_12 : decode cX8_at 12 = .ok (.aload_n 0, 1) := by decide +kernel
theorem dX8_at_13 : decode cX8_at 13 = .ok (.getfield 9, 3) := by decide +kernel
theorem dX8_at_16 : decode cX8_at 16 = .ok (.iload_n 1, 1) := by decide +kernel
theorem dX8_at_17 : decode cX8_at 17 = .ok (.iaload, 1) := by decide +kernel
theorem dX8_at_18 : decode cX8_at 18 = .ok (.goto 4, 3) := by decide +kernel
theorem dX8_at_21 : decode cX8_at 21 = .ok (.iconst (-1), 1) := by decide +kernel
theorem dX8_at_22 : decode cX8_at 22 = .ok (.ireturn, 1) := by decide +kernel
theorem dX8_fault_0 : decode cX8_fault 0 = .ok (.iconst 0, 1) := by decide +kernel
theorem dX8_fault_1 : decode cX8_fault 1 = .ok (.istore_n 1, 1) := by decide +kernel
theorem dX8_fault_2 : decode cX8_fault 2 = .ok (.iconst 0, 1) := by decide +kernel
theorem dX8_fault_3 : decode cX8_fault 3 = .ok (.istore_n 2, 1) := by decide +kernel
theorem dX8_fault_4 : decode cX8_fault 4 = .ok (.iconst 1, 1) := by decide +kernel
theorem dX8_fault_5 : decode cX8_fault 5 = .ok (.istore_n 3, 1) := by decide +kernel
theorem dX8_fault_6 : decode cX8_fault 6 = .ok (.iconst 0, 1) := by decide +kernel
theorem dX8_fault_7 : decode cX8_fault 7 = .ok (.istore 4, 2) := by decide +kernel
theorem dX8_fault_9 : decode cX8_fault 9 = .ok (.iload 4, 2) := by decide +kernel
theorem dX8_fault_11 : decode cX8_fault 11 = .ok (.aload_n 0, 1) := by decide +kernel
theorem dX8_fault_12 : decode cX8_fault 12 = .ok (.getfield 15, 3) := by decide +kernel
theorem dX8_fault_15 : decode cX8_fault 15 = .ok (.if_icmp .ge 102, 3) := by decide +kernel
theorem dX8_fault_18 : decode cX8_fault 18 = .ok (.aload_n 0, 1) := by decide +kernel
theorem dX8_fault_19 : decode cX8_fault 19 = .ok (.iload 4, 2) := by decide +kernel
theorem dX8_fault_21 : decode cX8_fault 21 = .ok (.invokevirtual 23, 3) := by decide +kernel
theorem dX8_fault_24 : decode cX8_fault 24 = .ok (.istore 5, 2) := by decide +kernel
theorem dX8_fault_26 : decode cX8_fault 26 = .ok (.iload 5, 2) := by decide +kernel
theorem dX8_fault_28 : decode cX8_fault 28 = .ok (.bipush 32, 2) := by decide +kernel
theorem dX8_fault_30 : decode cX8_fault 30 = .ok (.if_icmp .ne 6, 3) := by decide +kernel
theorem dX8_fault_33 : decode cX8_fault 33 = .ok (.goto 78, 3) := by decide +kernel
theorem dX8_fault_36 : decode cX8_fault 36 = .ok (.iconst 0, 1) := by decide +kernel
theorem dX8_fault_37 : decode cX8_fault 37 = .ok (.istore_n 3, 1) := by decide +kernel
theorem dX8_fault_38 : decode cX8_fault 38 = .ok (.iload_n 2, 1) := by decide +kernel
theorem dX8_fault_39 : decode cX8_fault 39 = .ok (.ifCond .le 24, 3) := by decide +kernel
theorem dX8_fault_42 : decode cX8_fault 42 = .ok (.iload 5, 2) := by decide +kernel
theorem dX8_fault_44 : decode cX8_fault 44 = .ok (.bipush 48, 2) := by decide +kernel
theorem dX8_fault_46 : decode cX8_fault 46 = .ok (.bipush 57, 2) := by decide +kernel
theorem dX8_fault_48 : decode cX8_fault 48 = .ok (.invokestatic 27, 3) := by decide +kernel
theorem dX8_fault_51 : decode cX8_fault 51 = .ok (.ifCond .ne 6, 3) := by decide +kernel
theorem dX8_fault_54 : decode cX8_fault 54 = .ok (.iload 4, 2) := by decide +kernel
theorem dX8_fault_56 : decode cX8_fault 56 = .ok (.ireturn, 1) := by decide +kernel
theorem dX8_fault_57 : decode cX8_fault 57 = .ok (.iinc 2 (-1), 3) := by decide +kernel
theorem dX8_fault_60 : decode cX8_fault 60 = .ok (.goto 51, 3) := by decide +kernel
theorem dX8_fault_63 : decode cX8_fault 63 = .ok (.iload 5, 2) := by decide +kernel
theorem dX8_fault_65 : decode cX8_fault 65 = .ok (.bipush 40, 2) := by decide +kernel
theorem dX8_fault_67 : decode cX8_fault 67 = .ok (.if_icmp .ne 14, 3) := by decide +kernel
theorem dX8_fault_70 : decode cX8_fault 70 = .ok (.iload_n 1, 1) := by decide +kernel
theorem dX8_fault_71 : decode cX8_fault 71 = .ok (.iconst 4, 1) := by decide +kernel
theorem dX8_fault_72 : decode cX8_fault 72 = .ok (.if_icmp .ge 9, 3) := by decide +kernel
theorem dX8_fault_75 : decode cX8_fault 75 = .ok (.iinc 1 1, 3) := by decide +kernel
theorem dX8_fault_78 : decode cX8_fault 78 = .ok (.goto 33, 3) := by decide +kernel
theorem dX8_fault_81 : decode cX8_fault 81 = .ok (.iload 5, 2) := by decide +kernel
theorem dX8_fault_83 : decode cX8_fault 83 = .ok (.bipush 41, 2) := by decide +kernel
theorem dX8_fault_85 : decode cX8_fault 85 = .ok (.if_icmp .ne 13, 3) := by decide +kernel
theorem dX8_fault_88 : decode cX8_fault 88 = .ok (.iload_n 1, 1) := by decide +kernel
theorem dX8_fault_89 : decode cX8_fault 89 = .ok (.ifCond .le 9, 3) := by decide +kernel
theorem dX8_fault_92 : decode cX8_fault 92 = .ok (.iinc 1 (-1), 3) := by decide +kernel
theorem dX8_fault_95 : decode cX8_fault 95 = .ok (.goto 16, 3) := by decide +kernel
theorem dX8_fault_98 : decode cX8_fault 98 = .ok (.iload 5, 2) := by decide +kernel
theorem dX8_fault_100 : decode cX8_fault 100 = .ok (.invokestatic 31, 3) := by decide +kernel
theorem dX8_fault_103 : decode cX8_fault 103 = .ok (.istore_n 2, 1) := by decide +kernel
theorem dX8_fault_104 : decode cX8_fault 104 = .ok (.iload_n 2, 1) := by decide +kernel
theorem dX8_fault_105 : decode cX8_fault 105 = .ok (.ifCond .ne 6, 3) := by decide +kernel
theorem dX8_fault_108 : decode cX8_fault 108 = .ok (.iload 4, 2) := by decide +kernel
theorem dX8_fault_110 : decode cX8_fault 110 = .ok (.ireturn, 1) := by decide +kernel
theorem dX8_fault_111 : decode cX8_fault 111 = .ok (.iinc 4 1, 3) := by decide +kernel
theorem dX8_fault_114 : decode cX8_fault 114 = .ok (.goto (-105), 3) := by decide +kernel
theorem dX8_fault_117 : decode cX8_fault 117 = .ok (.iload_n 3, 1) := by decide +kernel
theorem dX8_fault_118 : decode cX8_fault 118 = .ok (.ifCond .ne 11, 3) := by decide +kernel
theorem dX8_fault_121 : decode cX8_fault 121 = .ok (.iload_n 2, 1) := by decide +kernel
theorem dX8_fault_122 : decode cX8_fault 122 = .ok (.ifCond .gt 7, 3) := by decide +kernel
theorem dX8_fault_125 : decode cX8_fault 125 = .ok (.iload_n 1, 1) := by decide +kernel
theorem dX8_fault_126 : decode cX8_fault 126 = .ok (.ifCond .le 10, 3) := by decide +kernel
theorem dX8_fault_129 : decode cX8_fault 129 = .ok (.aload_n 0, 1) := by decide +kernel
theorem dX8_fault_130 : decode cX8_fault 130 = .ok (.getfield 15, 3) := by decide +kernel
theorem dX8_fault_133 : decode cX8_fault 133 = .ok (.goto 4, 3) := by decide +kernel
theorem dX8_fault_136 : decode cX8_fault 136 = .ok (.iconst (-1), 1) := by decide +kernel
theorem dX8_fault_137 : decode cX8_fault 137 = .ok (.ireturn, 1) := by decide +kernel
theorem dX8_figuresOf_0 : decode cX8_figuresOf 0 = .ok (.iload_n 0, 1) := by decide +kernel
theorem dX8_figuresOf_1 : decode cX8_figuresOf 1 = .ok (.lookupswitch 41 #[(109, 39), (112, 35), (116, 37)], 35) := by decide +kernel
theorem dX8_figuresOf_36 : decode cX8_figuresOf 36 = .ok (.iconst 2, 1) := by decide +kernel
theorem dX8_figuresOf_37 : decode cX8_figuresOf 37 = .ok (.ireturn, 1) := by decide +kernel
theorem dX8_figuresOf_38 : decode cX8_figuresOf 38 = .ok (.iconst 1, 1) := by decide +kernel
theorem dX8_figuresOf_39 : decode cX8_figuresOf 39 = .ok (.ireturn, 1) := by decide +kernel
theorem dX8_figuresOf_40 : decode cX8_figuresOf 40 = .ok (.iconst 3, 1) := by decide +kernel
theorem dX8_figuresOf_41 : decode cX8_figuresOf 41 = .ok (.ireturn, 1) := by decide +kernel
theorem dX8_figuresOf_42 : decode cX8_figuresOf 42 = .ok (.iconst 0, 1) := by decide +kernel
theorem dX8_figuresOf_43 : decode cX8_figuresOf 43 = .ok (.ireturn, 1) := by decide +kernel
theorem dX9_init_0 : decode cX9_init 0 = .ok (.aload_n 0, 1) := by decide +kernel
theorem dX9_init_1 : decode cX9_init 1 = .ok (.invokespecial 3, 3) := by decide +kernel
theorem dX9_init_4 : decode cX9_init 4 = .ok (.return_, 1) := by decide +kernel
theorem dX9_waits_0 : decode cX9_waits 0 = .ok (.aload_n 0, 1) := by decide +kernel
theorem dX9_waits_1 : decode cX9_waits 1 = .ok (.getfield 9, 3) := by decide +kernel
theorem dX9_waits_4 : decode cX9_waits 4 = .ok (.iconst (-1), 1) := by decide +kernel
theorem dX9_waits_5 : decode cX9_waits 5 = .ok (.if_icmp .eq 7, 3) := by decide +kernel
theorem dX9_waits_8 : decode cX9_waits 8 = .ok (.iconst 1, 1) := by decide +kernel
theorem dX9_waits_9 : decode cX9_waits 9 = .ok (.goto 4, 3) := by decide +kernel
theorem dX9_waits_12 : decode cX9_waits 12 = .ok (.iconst 0, 1) := by decide +kernel
theorem dX9_waits_13 : decode cX9_waits 13 = .ok (.ireturn, 1) := by decide +kernel
theorem dX9_wishFor_0 : decode cX9_wishFor 0 = .ok (.aload_n 0, 1) := by decide +kernel
theorem dX9_wishFor_1 : decode cX9_wishFor 1 = .ok (.iload_n 1, 1) := by decide +kernel
theorem dX9_wishFor_2 : decode cX9_wishFor 2 = .ok (.putfield 15, 3) := by decide +kernel
theorem dX9_wishFor_5 : decode cX9_wishFor 5 = .ok (.aload_n 0, 1) := by decide +kernel
theorem dX9_wishFor_6 : decode cX9_wishFor 6 = .ok (.iload_n 2, 1) := by decide +kernel
theorem dX9_wishFor_7 : decode cX9_wishFor 7 = .ok (.putfield 9, 3) := by decide +kernel
theorem dX9_wishFor_10 : decode cX9_wishFor 10 = .ok (.aload_n 0, 1) := by decide +kernel
theorem dX9_wishFor_11 : decode cX9_wishFor 11 = .ok (.iload_n 2, 1) := by decide +kernel
theorem dX9_wishFor_12 : decode cX9_wishFor 12 = .ok (.ifCond .ne 7, 3) := by decide +kernel
theorem dX9_wishFor_15 : decode cX9_wishFor 15 = .ok (.iload_n 3, 1) := by decide +kernel
theorem dX9_wishFor_16 : decode cX9_wishFor 16 = .ok (.goto 4, 3) := by decide +kernel
theorem dX9_wishFor_19 : decode cX9_wishFor 19 = .ok (.iconst (-1), 1) := by decide +kernel
theorem dX9_wishFor_20 : decode cX9_wishFor 20 = .ok (.putfield 18, 3) := by decide +kernel
theorem dX9_wishFor_23 : decode cX9_wishFor 23 = .ok (.return_, 1) := by decide +kernel
theorem dX9_wishNoMore_0 : decode cX9_wishNoMore 0 = .ok (.aload_n 0, 1) := by decide +kernel
theorem dX9_wishNoMore_1 : decode cX9_wishNoMore 1 = .ok (.iconst (-1), 1) := by decide +kernel
theorem dX9_wishNoMore_2 : decode cX9_wishNoMore 2 = .ok (.putfield 15, 3) := by decide +kernel
theorem dX9_wishNoMore_5 : decode cX9_wishNoMore 5 = .ok (.aload_n 0, 1) := by decide +kernel
theorem dX9_wishNoMore_6 : decode cX9_wishNoMore 6 = .ok (.iconst (-1), 1) := by decide +kernel
theorem dX9_wishNoMore_7 : decode cX9_wishNoMore 7 = .ok (.putfield 9, 3) := by decide +kernel
theorem dX9_wishNoMore_10 : decode cX9_wishNoMore 10 = .ok (.aload_n 0, 1) := by decide +kernel
theorem dX9_wishNoMore_11 : decode cX9_wishNoMore 11 = .ok (.iconst (-1), 1) := by decide +kernel
theorem dX9_wishNoMore_12 : decode cX9_wishNoMore 12 = .ok (.putfield 18, 3) := by decide +kernel
theorem dX9_wishNoMore_15 : decode cX9_wishNoMore 15 = .ok (.return_, 1) := by decide +kernel
theorem dX9_workerTold_0 : decode cX9_workerTold 0 = .ok (.iload_n 1, 1) := by decide +kernel
theorem dX9_workerTold_1 : decode cX9_workerTold 1 = .ok (.tableswitch 59 0 3 #[31, 44, 49, 54], 31) := by decide +kernel
theorem dX9_workerTold_32 : decode cX9_workerTold 32 = .ok (.aload_n 0, 1) := by decide +kernel
theorem dX9_workerTold_33 : decode cX9_workerTold 33 = .ok (.invokevirtual 21, 3) := by decide +kernel
theorem dX9_workerTold_36 : decode cX9_workerTold 36 = .ok (.ifCond .eq 7, 3) := by decide +kernel
theorem dX9_workerTold_39 : decode cX9_workerTold 39 = .ok (.iconst 1, 1) := by decide +kernel
theorem dX9_workerTold_40 : decode cX9_workerTold 40 = .ok (.goto 4, 3) := by decide +kernel
theorem dX9_workerTold_43 : decode cX9_workerTold 43 = .ok (.iconst 0, 1) := by decide +kernel
theorem dX9_workerTold_44 : decode cX9_workerTold 44 = .ok (.ireturn, 1) := by decide +kernel
theorem dX9_workerTold_45 : decode cX9_workerTold 45 = .ok (.aload_n 0, 1) := by decide +kernel
theorem dX9_workerTold_46 : decode cX9_workerTold 46 = .ok (.getfield 15, 3) := by decide +kernel
theorem dX9_workerTold_49 : decode cX9_workerTold 49 = .ok (.ireturn, 1) := by decide +kernel
theorem dX9_workerTold_50 : decode cX9_workerTold 50 = .ok (.aload_n 0, 1) := by decide +kernel
theorem dX9_workerTold_51 : decode cX9_workerTold 51 = .ok (.getfield 9, 3) := by decide +kernel
theorem dX9_workerTold_54 : decode cX9_workerTold 54 = .ok (.ireturn, 1) := by decide +kernel
theorem dX9_workerTold_55 : decode cX9_workerTold 55 = .ok (.aload_n 0, 1) := by decide +kernel
theorem dX9_workerTold_56 : decode cX9_workerTold 56 = .ok (.getfield 18, 3) := by decide +kernel
theorem dX9_workerTold_59 : decode cX9_workerTold 59 = .ok (.ireturn, 1) := by decide +kernel
theorem dX9_workerTold_60 : decode cX9_workerTold 60 = .ok (.aload_n 0, 1) := by decide +kernel
theorem dX9_workerTold_61 : decode cX9_workerTold 61 = .ok (.getfield 25, 3) := by decide +kernel
theorem dX9_workerTold_64 : decode cX9_workerTold 64 = .ok (.ireturn, 1) := by decide +kernel
theorem dX9_startAnew_0 : decode cX9_startAnew 0 = .ok (.aload_n 0, 1) := by decide +kernel
theorem dX9_startAnew_1 : decode cX9_startAnew 1 = .ok (.invokevirtual 28, 3) := by decide +kernel
theorem dX9_startAnew_4 : decode cX9_startAnew 4 = .ok (.aload_n 0, 1) := by decide +kernel
theorem dX9_startAnew_5 : decode cX9_startAnew 5 = .ok (.iconst (-1), 1) := by decide +kernel
theorem dX9_startAnew_6 : decode cX9_startAnew 6 = .ok (.putfield 25, 3) := by decide +kernel
theorem dX9_startAnew_9 : decode cX9_startAnew 9 = .ok (.return_, 1) := by decide +kernel
theorem dX9_copyFrom_0 : decode cX9_copyFrom 0 = .ok (.aload_n 0, 1) := by decide +kernel
theorem dX9_copyFrom_1 : decode cX9_copyFrom 1 = .ok (.aload_n 1, 1) := by decide +kernel
theorem dX9_copyFrom_2 : decode cX9_copyFrom 2 = .ok (.getfield 15, 3) := by decide +kernel
theorem dX9_copyFrom_5 : decode cX9_copyFrom 5 = .ok (.putfield 15, 3) := by decide +kernel
theorem dX9_copyFrom_8 : decode cX9_copyFrom 8 = .ok (.aload_n 0, 1) := by decide +kernel
theorem dX9_copyFrom_9 : decode cX9_copyFrom 9 = .ok (.aload_n 1, 1) := by decide +kernel
theorem dX9_copyFrom_10 : decode cX9_copyFrom 10 = .ok (.getfield 9, 3) := by decide +kernel
theorem dX9_copyFrom_13 : decode cX9_copyFrom 13 = .ok (.putfield 9, 3) := by decide +kernel
theorem dX9_copyFrom_16 : decode cX9_copyFrom 16 = .ok (.aload_n 0, 1) := by decide +kernel
theorem dX9_copyFrom_17 : decode cX9_copyFrom 17 = .ok (.aload_n 1, 1) := by decide +kernel
theorem dX9_copyFrom_18 : decode cX9_copyFrom 18 = .ok (.getfield 18, 3) := by decide +kernel
theorem dX9_copyFrom_21 : decode cX9_copyFrom 21 = .ok (.putfield 18, 3) := by decide +kernel
theorem dX9_copyFrom_24 : decode cX9_copyFrom 24 = .ok (.aload_n 0, 1) := by decide +kernel
theorem dX9_copyFrom_25 : decode cX9_copyFrom 25 = .ok (.aload_n 1, 1) := by decide +kernel
theorem dX9_copyFrom_26 : decode cX9_copyFrom 26 = .ok (.getfield 25, 3) := by decide +kernel
theorem dX9_copyFrom_29 : decode cX9_copyFrom 29 = .ok (.putfield 25, 3) := by decide +kernel
theorem dX9_copyFrom_32 : decode cX9_copyFrom 32 = .ok (.return_, 1) := by decide +kernel
theorem dX10_init_0 : decode cX10_init 0 = .ok (.aload_n 0, 1) := by decide +kernel
theorem dX10_init_1 : decode cX10_init 1 = .ok (.invokespecial 1, 3) := by decide +kernel
theorem dX10_init_4 : decode cX10_init 4 = .ok (.aload_n 0, 1) := by decide +kernel
theorem dX10_init_5 : decode cX10_init 5 = .ok (.new 7, 3) := by decide +kernel
theorem dX10_init_8 : decode cX10_init 8 = .ok (.dup, 1) := by decide +kernel
theorem dX10_init_9 : decode cX10_init 9 = .ok (.invokespecial 9, 3) := by decide +kernel
theorem dX10_init_12 : decode cX10_init 12 = .ok (.putfield 10, 3) := by decide +kernel
theorem dX10_init_15 : decode cX10_init 15 = .ok (.aload_n 0, 1) := by decide +kernel
theorem dX10_init_16 : decode cX10_init 16 = .ok (.new 16, 3) := by decide +kernel
theorem dX10_init_19 : decode cX10_init 19 = .ok (.dup, 1) := by decide +kernel
theorem dX10_init_20 : decode cX10_init 20 = .ok (.invokespecial 18, 3) := by decide +kernel
theorem dX10_init_23 : decode cX10_init 23 = .ok (.putfield 19, 3) := by decide +kernel
theorem dX10_init_26 : decode cX10_init 26 = .ok (.aload_n 0, 1) := by decide +kernel
theorem dX10_init_27 : decode cX10_init 27 = .ok (.new 23, 3) := by decide +kernel
theorem dX10_init_30 : decode cX10_init 30 = .ok (.dup, 1) := by decide +kernel
theorem dX10_init_31 : decode cX10_init 31 = .ok (.invokespecial 25, 3) := by decide +kernel
theorem dX10_init_34 : decode cX10_init 34 = .ok (.putfield 26, 3) := by decide +kernel
theorem dX10_init_37 : decode cX10_init 37 = .ok (.aload_n 0, 1) := by decide +kernel
theorem dX10_init_38 : decode cX10_init 38 = .ok (.new 30, 3) := by decide +kernel
theorem dX10_init_41 : decode cX10_init 41 = .ok (.dup, 1) := by decide +kernel
theorem dX10_init_42 : decode cX10_init 42 = .ok (.aload_n 0, 1) := by decide +kernel
theorem dX10_init_43 : decode cX10_init 43 = .ok (.getfield 26, 3) := by decide +kernel
theorem dX10_init_46 : decode cX10_init 46 = .ok (.aload_n 0, 1) := by decide +kernel
theorem dX10_init_47 : decode cX10_init 47 = .ok (.getfield 10, 3) := by decide +kernel
theorem dX10_init_50 : decode cX10_init 50 = .ok (.invokespecial 32, 3) := by decide +kernel
theorem dX10_init_53 : decode cX10_init 53 = .ok (.putfield 35, 3) := by decide +kernel
theorem dX10_init_56 : decode cX10_init 56 = .ok (.aload_n 0, 1) := by decide +kernel
theorem dX10_init_57 : decode cX10_init 57 = .ok (.new 39, 3) := by decide +kernel
theorem dX10_init_60 : decode cX10_init 60 = .ok (.dup, 1) := by decide +kernel
theorem dX10_init_61 : decode cX10_init 61 = .ok (.invokespecial 41, 3) := by decide +kernel
theorem dX10_init_64 : decode cX10_init 64 = .ok (.putfield 42, 3) := by decide +kernel
theorem dX10_init_67 : decode cX10_init 67 = .ok (.return_, 1) := by decide +kernel
theorem dX10_begins_0 : decode cX10_begins 0 = .ok (.iload_n 1, 1) := by decide +kernel
theorem dX10_begins_1 : decode cX10_begins 1 = .ok (.iconst 1, 1) := by decide +kernel
theorem dX10_begins_2 : decode cX10_begins 2 = .ok (.bipush 6, 2) := by decide +kernel
theorem dX10_begins_4 : decode cX10_begins 4 = .ok (.invokestatic 46, 3) := by decide +kernel
theorem dX10_begins_7 : decode cX10_begins 7 = .ok (.ifCond .ne 8, 3) := by decide +kernel
theorem dX10_begins_10 : decode cX10_begins 10 = .ok (.aload_n 0, 1) := by decide +kernel
theorem dX10_begins_11 : decode cX10_begins 11 = .ok (.invokevirtual 50, 3) := by decide +kernel
theorem dX10_begins_14 : decode cX10_begins 14 = .ok (.ireturn, 1) := by decide +kernel
theorem dX10_begins_15 : decode cX10_begins 15 = .ok (.aload_n 0, 1) := by decide +kernel
theorem dX10_begins_16 : decode cX10_begins 16 = .ok (.getfield 19, 3) := by decide +kernel
theorem dX10_begins_19 : decode cX10_begins 19 = .ok (.aload_n 0, 1) := by decide +kernel
theorem dX10_begins_20 : decode cX10_begins 20 = .ok (.getfield 10, 3) := by decide +kernel
theorem dX10_begins_23 : decode cX10_begins 23 = .ok (.invokevirtual 54, 3) := by decide +kernel
theorem dX10_begins_26 : decode cX10_begins 26 = .ok (.aload_n 0, 1) := by decide +kernel
theorem dX10_begins_27 : decode cX10_begins 27 = .ok (.getfield 10, 3) := by decide +kernel
theorem dX10_begins_30 : decode cX10_begins 30 = .ok (.getfield 58, 3) := by decide +kernel
theorem dX10_begins_33 : decode cX10_begins 33 = .ok (.istore_n 2, 1) := by decide +kernel
theorem dX10_begins_34 : decode cX10_begins 34 = .ok (.aload_n 0, 1) := by decide +kernel
theorem dX10_begins_35 : decode cX10_begins 35 = .ok (.getfield 10, 3) := by decide +kernel
theorem dX10_begins_38 : decode cX10_begins 38 = .ok (.iload_n 1, 1) := by decide +kernel
theorem dX10_begins_39 : decode cX10_begins 39 = .ok (.invokevirtual 62, 3) := by decide +kernel
theorem dX10_begins_42 : decode cX10_begins 42 = .ok (.iload_n 2, 1) := by decide +kernel
theorem dX10_begins_43 : decode cX10_begins 43 = .ok (.ireturn, 1) := by decide +kernel
theorem dX10_rooms_0 : decode cX10_rooms 0 = .ok (.aload_n 0, 1) := by decide +kernel
theorem dX10_rooms_1 : decode cX10_rooms 1 = .ok (.getfield 10, 3) := by decide +kernel
theorem dX10_rooms_4 : decode cX10_rooms 4 = .ok (.iload_n 1, 1) := by decide +kernel
theorem dX10_rooms_5 : decode cX10_rooms 5 = .ok (.invokevirtual 66, 3) := by decide +kernel
theorem dX10_rooms_8 : decode cX10_rooms 8 = .ok (.ifCond .eq 13, 3) := by decide +kernel
theorem dX10_rooms_11 : decode cX10_rooms 11 = .ok (.iload_n 2, 1) := by decide +kernel
theorem dX10_rooms_12 : decode cX10_rooms 12 = .ok (.iconst 1, 1) := by decide +kernel
theorem dX10_rooms_13 : decode cX10_rooms 13 = .ok (.bipush 6, 2) := by decide +kernel
theorem dX10_rooms_15 : decode cX10_rooms 15 = .ok (.invokestatic 46, 3) := by decide +kernel
theorem dX10_rooms_18 : decode cX10_rooms 18 = .ok (.ifCond .ne 8, 3) := by decide +kernel
theorem dX10_rooms_21 : decode cX10_rooms 21 = .ok (.aload_n 0, 1) := by decide +kernel
theorem dX10_rooms_22 : decode cX10_rooms 22 = .ok (.invokevirtual 50, 3) := by decide +kernel
theorem dX10_rooms_25 : decode cX10_rooms 25 = .ok (.ireturn, 1) := by decide +kernel
theorem dX10_rooms_26 : decode cX10_rooms 26 = .ok (.aload_n 0, 1) := by decide +kernel
theorem dX10_rooms_27 : decode cX10_rooms 27 = .ok (.getfield 19, 3) := by decide +kernel
theorem dX10_rooms_30 : decode cX10_rooms 30 = .ok (.aload_n 0, 1) := by decide +kernel
theorem dX10_rooms_31 : decode cX10_rooms 31 = .ok (.getfield 10, 3) := by decide +kernel
theorem dX10_rooms_34 : decode cX10_rooms 34 = .ok (.invokevirtual 54, 3) := by decide +kernel
theorem dX10_rooms_37 : decode cX10_rooms 37 = .ok (.aload_n 0, 1) := by decide +kernel
theorem dX10_rooms_38 : decode cX10_rooms 38 = .ok (.getfield 10, 3) := by decide +kernel
theorem dX10_rooms_41 : decode cX10_rooms 41 = .ok (.getfield 70, 3) := by decide +kernel
theorem dX10_rooms_44 : decode cX10_rooms 44 = .ok (.iload_n 1, 1) := by decide +kernel
theorem dX10_rooms_45 : decode cX10_rooms 45 = .ok (.aaload, 1) := by decide +kernel
theorem dX10_rooms_46 : decode cX10_rooms 46 = .ok (.getfield 74, 3) := by decide +kernel
theorem dX10_rooms_49 : decode cX10_rooms 49 = .ok (.istore_n 3, 1) := by decide +kernel
theorem dX10_rooms_50 : decode cX10_rooms 50 = .ok (.aload_n 0, 1) := by decide +kernel
theorem dX10_rooms_51 : decode cX10_rooms 51 = .ok (.getfield 10, 3) := by decide +kernel
theorem dX10_rooms_54 : decode cX10_rooms 54 = .ok (.getfield 70, 3) := by decide +kernel
theorem dX10_rooms_57 : decode cX10_rooms 57 = .ok (.iload_n 1, 1) := by decide +kernel
theorem dX10_rooms_58 : decode cX10_rooms 58 = .ok (.aaload, 1) := by decide +kernel
theorem dX10_rooms_59 : decode cX10_rooms 59 = .ok (.iload_n 2, 1) := by decide +kernel
theorem dX10_rooms_60 : decode cX10_rooms 60 = .ok (.putfield 74, 3) := by decide +kernel
theorem dX10_rooms_63 : decode cX10_rooms 63 = .ok (.aload_n 0, 1) := by decide +kernel
theorem dX10_rooms_64 : decode cX10_rooms 64 = .ok (.getfield 10, 3) := by decide +kernel
theorem dX10_rooms_67 : decode cX10_rooms 67 = .ok (.invokevirtual 79, 3) := by decide +kernel
theorem dX10_rooms_70 : decode cX10_rooms 70 = .ok (.iload_n 3, 1) := by decide +kernel
theorem dX10_rooms_71 : decode cX10_rooms 71 = .ok (.ireturn, 1) := by decide +kernel
theorem dX10_station_0 : decode cX10_station 0 = .ok (.aload_n 0, 1) := by decide +kernel
theorem dX10_station_1 : decode cX10_station 1 = .ok (.getfield 10, 3) := by decide +kernel
theorem dX10_station_4 : decode cX10_station 4 = .ok (.iload_n 1, 1) := by decide +kernel
theorem dX10_station_5 : decode cX10_station 5 = .ok (.invokevirtual 66, 3) := by decide +kernel
theorem dX10_station_8 : decode cX10_station 8 = .ok (.ifCond .eq 47, 3) := by decide +kernel
theorem dX10_station_11 : decode cX10_station 11 = .ok (.aload_n 0, 1) := by decide +kernel
theorem dX10_station_12 : decode cX10_station 12 = .ok (.getfield 10, 3) := by decide +kernel
theorem dX10_station_15 : decode cX10_station 15 = .ok (.iload_n 2, 1) := by decide +kernel
theorem dX10_station_16 : decode cX10_station 16 = .ok (.invokevirtual 82, 3) := by decide +kernel
theorem dX10_station_19 : decode cX10_station 19 = .ok (.ifCond .eq 36, 3) := by decide +kernel
theorem dX10_station_22 : decode cX10_station 22 = .ok (.aload_n 0, 1) := by decide +kernel
theorem dX10_station_23 : decode cX10_station 23 = .ok (.getfield 10, 3) := by decide +kernel
theorem dX10_station_26 : decode cX10_station 26 = .ok (.iload_n 3, 1) := by decide +kernel
theorem dX10_station_27 : decode cX10_station 27 = .ok (.invokevirtual 66, 3) := by decide +kernel
theorem dX10_station_30 : decode cX10_station 30 = .ok (.ifCond .eq 25, 3) := by decide +kernel
theorem dX10_station_33 : decode cX10_station 33 = .ok (.iload 4, 2) := by decide +kernel
theorem dX10_station_35 : decode cX10_station 35 = .ok (.iconst 1, 1) := by decide +kernel
theorem dX10_station_36 : decode cX10_station 36 = .ok (.bipush 9, 2) := by decide +kernel
theorem dX10_station_38 : decode cX10_station 38 = .ok (.invokestatic 46, 3) := by decide +kernel
theorem dX10_station_41 : decode cX10_station 41 = .ok (.ifCond .eq 14, 3) := by decide +kernel
theorem dX10_station_44 : decode cX10_station 44 = .ok (.iload 5, 2) := by decide +kernel
theorem dX10_station_46 : decode cX10_station 46 = .ok (.iconst 0, 1) := by decide +kernel
theorem dX10_station_47 : decode cX10_station 47 = .ok (.bipush 9, 2) := by decide +kernel
theorem dX10_station_49 : decode cX10_station 49 = .ok (.invokestatic 46, 3) := by decide +kernel
theorem dX10_station_52 : decode cX10_station 52 = .ok (.ifCond .ne 8, 3) := by decide +kernel
theorem dX10_station_55 : decode cX10_station 55 = .ok (.aload_n 0, 1) := by decide +kernel
theorem dX10_station_56 : decode cX10_station 56 = .ok (.invokevirtual 50, 3) := by decide +kernel
theorem dX10_station_59 : decode cX10_station 59 = .ok (.ireturn, 1) := by decide +kernel
theorem dX10_station_60 : decode cX10_station 60 = .ok (.aload_n 0, 1) := by decide +kernel
theorem dX10_station_61 : decode cX10_station 61 = .ok (.getfield 10, 3) := by decide +kernel
theorem dX10_station_64 : decode cX10_station 64 = .ok (.getfield 85, 3) := by decide +kernel
theorem dX10_station_67 : decode cX10_station 67 = .ok (.bipush 6, 2) := by decide +kernel
theorem dX10_station_69 : decode cX10_station 69 = .ok (.if_icmp .lt 8, 3) := by decide +kernel
theorem dX10_station_72 : decode cX10_station 72 = .ok (.aload_n 0, 1) := by decide +kernel
theorem dX10_station_73 : decode cX10_station 73 = .ok (.invokevirtual 88, 3) := by decide +kernel
theorem dX10_station_76 : decode cX10_station 76 = .ok (.ireturn, 1) := by decide +kernel
theorem dX10_station_77 : decode cX10_station 77 = .ok (.aload_n 0, 1) := by decide +kernel
theorem dX10_station_78 : decode cX10_station 78 = .ok (.getfield 19, 3) := by decide +kernel
theorem dX10_station_81 : decode cX10_station 81 = .ok (.aload_n 0, 1) := by decide +kernel
theorem dX10_station_82 : decode cX10_station 82 = .ok (.getfield 10, 3) := by decide +kernel
theorem dX10_station_85 : decode cX10_station 85 = .ok (.invokevirtual 54, 3) := by decide +kernel
theorem dX10_station_88 : decode cX10_station 88 = .ok (.aload_n 0, 1) := by decide +kernel
theorem dX10_station_89 : decode cX10_station 89 = .ok (.getfield 10, 3) := by decide +kernel
theorem dX10_station_92 : decode cX10_station 92 = .ok (.getfield 85, 3) := by decide +kernel
theorem dX10_station_95 : decode cX10_station 95 = .ok (.istore 6, 2) := by decide +kernel
theorem dX10_station_97 : decode cX10_station 97 = .ok (.aload_n 0, 1) := by decide +kernel
theorem dX10_station_98 : decode cX10_station 98 = .ok (.getfield 10, 3) := by decide +kernel
theorem dX10_station_101 : decode cX10_station 101 = .ok (.getfield 91, 3) := by decide +kernel
theorem dX10_station_104 : decode cX10_station 104 = .ok (.iload 6, 2) := by decide +kernel
theorem dX10_station_106 : decode cX10_station 106 = .ok (.aaload, 1) := by decide +kernel
theorem dX10_station_107 : decode cX10_station 107 = .ok (.iload_n 1, 1) := by decide +kernel
theorem dX10_station_108 : decode cX10_station 108 = .ok (.iload_n 2, 1) := by decide +kernel
theorem dX10_station_109 : decode cX10_station 109 = .ok (.iload_n 3, 1) := by decide +kernel
theorem dX10_station_110 : decode cX10_station 110 = .ok (.iload 4, 2) := by decide +kernel
theorem dX10_station_112 : decode cX10_station 112 = .ok (.iload 5, 2) := by decide +kernel
theorem dX10_station_114 : decode cX10_station 114 = .ok (.invokevirtual 95, 3) := by decide +kernel
theorem dX10_station_117 : decode cX10_station 117 = .ok (.aload_n 0, 1) := by decide +kernel
theorem dX10_station_118 : decode cX10_station 118 = .ok (.getfield 10, 3) := by decide +kernel
theorem dX10_station_121 : decode cX10_station 121 = .ok (.dup, 1) := by decide +kernel
theorem dX10_station_122 : decode cX10_station 122 = .ok (.getfield 85, 3) := by decide +kernel
theorem dX10_station_125 : decode cX10_station 125 = .ok (.iconst 1, 1) := by decide +kernel
theorem dX10_station_126 : decode cX10_station 126 = .ok (.iadd, 1) := by decide +kernel
theorem dX10_station_127 : decode cX10_station 127 = .ok (.putfield 85, 3) := by decide +kernel
theorem dX10_station_130 : decode cX10_station 130 = .ok (.iload 6, 2) := by decide +kernel
theorem dX10_station_132 : decode cX10_station 132 = .ok (.ireturn, 1) := by decide +kernel
theorem dX10_guards_0 : decode cX10_guards 0 = .ok (.aload_n 0, 1) := by decide +kernel
theorem dX10_guards_1 : decode cX10_guards 1 = .ok (.getfield 10, 3) := by decide +kernel
theorem dX10_guards_4 : decode cX10_guards 4 = .ok (.iload_n 1, 1) := by decide +kernel
theorem dX10_guards_5 : decode cX10_guards 5 = .ok (.invokevirtual 101, 3) := by decide +kernel
theorem dX10_guards_8 : decode cX10_guards 8 = .ok (.ifCond .eq 14, 3) := by decide +kernel
theorem dX10_guards_11 : decode cX10_guards 11 = .ok (.aload_n 0, 1) := by decide +kernel
theorem dX10_guards_12 : decode cX10_guards 12 = .ok (.getfield 10, 3) := by decide +kernel
theorem dX10_guards_15 : decode cX10_guards 15 = .ok (.iload_n 2, 1) := by decide +kernel
theorem dX10_guards_16 : decode cX10_guards 16 = .ok (.invokevirtual 82, 3) := by decide +kernel
theorem dX10_guards_19 : decode cX10_guards 19 = .ok (.ifCond .ne 8, 3) := by decide +kernel
theorem dX10_guards_22 : decode cX10_guards 22 = .ok (.aload_n 0, 1) := by decide +kernel
theorem dX10_guards_23 : decode cX10_guards 23 = .ok (.invokevirtual 50, 3) := by decide +kernel
theorem dX10_guards_26 : decode cX10_guards 26 = .ok (.ireturn, 1) := by decide +kernel
theorem dX10_guards_27 : decode cX10_guards 27 = .ok (.aload_n 0, 1) := by decide +kernel
theorem dX10_guards_28 : decode cX10_guards 28 = .ok (.getfield 19, 3) := by decide +kernel
theorem dX10_guards_31 : decode cX10_guards 31 = .ok (.aload_n 0, 1) := by decide +kernel
theorem dX10_guards_32 : decode cX10_guards 32 = .ok (.getfield 10, 3) := by decide +kernel
theorem dX10_guards_35 : decode cX10_guards 35 = .ok (.invokevirtual 54, 3) := by decide +kernel
theorem dX10_guards_38 : decode cX10_guards 38 = .ok (.aload_n 0, 1) := by decide +kernel
theorem dX10_guards_39 : decode cX10_guards 39 = .ok (.getfield 10, 3) := by decide +kernel
theorem dX10_guards_42 : decode cX10_guards 42 = .ok (.getfield 91, 3) := by decide +kernel
theorem dX10_guards_45 : decode cX10_guards 45 = .ok (.iload_n 1, 1) := by decide +kernel
theorem dX10_guards_46 : decode cX10_guards 46 = .ok (.aaload, 1) := by decide +kernel
theorem dX10_guards_47 : decode cX10_guards 47 = .ok (.getfield 104, 3) := by decide +kernel
theorem dX10_guards_50 : decode cX10_guards 50 = .ok (.istore_n 3, 1) := by decide +kernel
theorem dX10_guards_51 : decode cX10_guards 51 = .ok (.aload_n 0, 1) := by decide +kernel
theorem dX10_guards_52 : decode cX10_guards 52 = .ok (.getfield 10, 3) := by decide +kernel
theorem dX10_guards_55 : decode cX10_guards 55 = .ok (.getfield 91, 3) := by decide +kernel
theorem dX10_guards_58 : decode cX10_guards 58 = .ok (.iload_n 1, 1) := by decide +kernel
theorem dX10_guards_59 : decode cX10_guards 59 = .ok (.aaload, 1) := by decide +kernel
theorem dX10_guards_60 : decode cX10_guards 60 = .ok (.iload_n 2, 1) := by decide +kernel
theorem dX10_guards_61 : decode cX10_guards 61 = .ok (.putfield 104, 3) := by decide +kernel
theorem dX10_guards_64 : decode cX10_guards 64 = .ok (.iload_n 3, 1) := by decide +kernel
theorem dX10_guards_65 : decode cX10_guards 65 = .ok (.ireturn, 1) := by decide +kernel
theorem dX10_ticks_0 : decode cX10_ticks 0 = .ok (.iload_n 1, 1) := by decide +kernel
theorem dX10_ticks_1 : decode cX10_ticks 1 = .ok (.iconst 1, 1) := by decide +kernel
theorem dX10_ticks_2 : decode cX10_ticks 2 = .ok (.bipush 30, 2) := by decide +kernel
theorem dX10_ticks_4 : decode cX10_ticks 4 = .ok (.invokestatic 46, 3) := by decide +kernel
theorem dX10_ticks_7 : decode cX10_ticks 7 = .ok (.ifCond .ne 8, 3) := by decide +kernel
theorem dX10_ticks_10 : decode cX10_ticks 10 = .ok (.aload_n 0, 1) := by decide +kernel
theorem dX10_ticks_11 : decode cX10_ticks 11 = .ok (.invokevirtual 50, 3) := by decide +kernel
theorem dX10_ticks_14 : decode cX10_ticks 14 = .ok (.ireturn, 1) := by decide +kernel
theorem dX10_ticks_15 : decode cX10_ticks 15 = .ok (.aload_n 0, 1) := by decide +kernel
theorem dX10_ticks_16 : decode cX10_ticks 16 = .ok (.getfield 19, 3) := by decide +kernel
theorem dX10_ticks_19 : decode cX10_ticks 19 = .ok (.aload_n 0, 1) := by decide +kernel
theorem dX10_ticks_20 : decode cX10_ticks 20 = .ok (.getfield 10, 3) := by decide +kernel
theorem dX10_ticks_23 : decode cX10_ticks 23 = .ok (.invokevirtual 54, 3) := by decide +kernel
theorem dX10_ticks_26 : decode cX10_ticks 26 = .ok (.iconst 0, 1) := by decide +kernel
theorem dX10_ticks_27 : decode cX10_ticks 27 = .ok (.istore_n 2, 1) := by decide +kernel
theorem dX10_ticks_28 : decode cX10_ticks 28 = .ok (.iconst 0, 1) := by decide +kernel
theorem dX10_ticks_29 : decode cX10_ticks 29 = .ok (.istore_n 3, 1) := by decide +kernel
theorem dX10_ticks_30 : decode cX10_ticks 30 = .ok (.iload_n 3, 1) := by decide +kernel
theorem dX10_ticks_31 : decode cX10_ticks 31 = .ok (.iload_n 1, 1) := by decide +kernel
theorem dX10_ticks_32 : decode cX10_ticks 32 = .ok (.if_icmp .ge 26, 3) := by decide +kernel
theorem dX10_ticks_35 : decode cX10_ticks 35 = .ok (.iload_n 2, 1) := by decide +kernel
theorem dX10_ticks_36 : decode cX10_ticks 36 = .ok (.aload_n 0, 1) := by decide +kernel
theorem dX10_ticks_37 : decode cX10_ticks 37 = .ok (.getfield 10, 3) := by decide +kernel
theorem dX10_ticks_40 : decode cX10_ticks 40 = .ok (.invokevirtual 107, 3) := by decide +kernel
theorem dX10_ticks_43 : decode cX10_ticks 43 = .ok (.iadd, 1) := by decide +kernel
theorem dX10_ticks_44 : decode cX10_ticks 44 = .ok (.istore_n 2, 1) := by decide +kernel
theorem dX10_ticks_45 : decode cX10_ticks 45 = .ok (.aload_n 0, 1) := by decide +kernel
theorem dX10_ticks_46 : decode cX10_ticks 46 = .ok (.getfield 10, 3) := by decide +kernel
theorem dX10_ticks_49 : decode cX10_ticks 49 = .ok (.invokevirtual 79, 3) := by decide +kernel
theorem dX10_ticks_52 : decode cX10_ticks 52 = .ok (.iinc 3 1, 3) := by decide +kernel
theorem dX10_ticks_55 : decode cX10_ticks 55 = .ok (.goto (-25), 3) := by decide +kernel
theorem dX10_ticks_58 : decode cX10_ticks 58 = .ok (.iload_n 2, 1) := by decide +kernel
theorem dX10_ticks_59 : decode cX10_ticks 59 = .ok (.ireturn, 1) := by decide +kernel
theorem dX10_puts_0 : decode cX10_puts 0 = .ok (.aload_n 0, 1) := by decide +kernel
theorem dX10_puts_1 : decode cX10_puts 1 = .ok (.getfield 10, 3) := by decide +kernel
theorem dX10_puts_4 : decode cX10_puts 4 = .ok (.iload_n 1, 1) := by decide +kernel
theorem dX10_puts_5 : decode cX10_puts 5 = .ok (.invokevirtual 66, 3) := by decide +kernel
theorem dX10_puts_8 : decode cX10_puts 8 = .ok (.ifCond .eq 13, 3) := by decide +kernel
theorem dX10_puts_11 : decode cX10_puts 11 = .ok (.iload_n 2, 1) := by decide +kernel
theorem dX10_puts_12 : decode cX10_puts 12 = .ok (.iconst 0, 1) := by decide +kernel
theorem dX10_puts_13 : decode cX10_puts 13 = .ok (.bipush 9, 2) := by decide +kernel
theorem dX10_puts_15 : decode cX10_puts 15 = .ok (.invokestatic 46, 3) := by decide +kernel
theorem dX10_puts_18 : decode cX10_puts 18 = .ok (.ifCond .ne 8, 3) := by decide +kernel
theorem dX10_puts_21 : decode cX10_puts 21 = .ok (.aload_n 0, 1) := by decide +kernel
theorem dX10_puts_22 : decode cX10_puts 22 = .ok (.invokevirtual 50, 3) := by decide +kernel
theorem dX10_puts_25 : decode cX10_puts 25 = .ok (.ireturn, 1) := by decide +kernel
theorem dX10_puts_26 : decode cX10_puts 26 = .ok (.aload_n 0, 1) := by decide +kernel
theorem dX10_puts_27 : decode cX10_puts 27 = .ok (.getfield 19, 3) := by decide +kernel
theorem dX10_puts_30 : decode cX10_puts 30 = .ok (.aload_n 0, 1) := by decide +kernel
theorem dX10_puts_31 : decode cX10_puts 31 = .ok (.getfield 10, 3) := by decide +kernel
theorem dX10_puts_34 : decode cX10_puts 34 = .ok (.invokevirtual 54, 3) := by decide +kernel
theorem dX10_puts_37 : decode cX10_puts 37 = .ok (.aload_n 0, 1) := by decide +kernel
theorem dX10_puts_38 : decode cX10_puts 38 = .ok (.getfield 10, 3) := by decide +kernel
theorem dX10_puts_41 : decode cX10_puts 41 = .ok (.getfield 70, 3) := by decide +kernel
theorem dX10_puts_44 : decode cX10_puts 44 = .ok (.iload_n 1, 1) := by decide +kernel
theorem dX10_puts_45 : decode cX10_puts 45 = .ok (.aaload, 1) := by decide +kernel
theorem dX10_puts_46 : decode cX10_puts 46 = .ok (.astore_n 3, 1) := by decide +kernel
theorem dX10_puts_47 : decode cX10_puts 47 = .ok (.aload_n 3, 1) := by decide +kernel
theorem dX10_puts_48 : decode cX10_puts 48 = .ok (.iload_n 2, 1) := by decide +kernel
theorem dX10_puts_49 : decode cX10_puts 49 = .ok (.iconst (-1), 1) := by decide +kernel
theorem dX10_puts_50 : decode cX10_puts 50 = .ok (.invokevirtual 110, 3) := by decide +kernel
theorem dX10_puts_53 : decode cX10_puts 53 = .ok (.ifCond .eq 13, 3) := by decide +kernel
theorem dX10_puts_56 : decode cX10_puts 56 = .ok (.aload_n 3, 1) := by decide +kernel
theorem dX10_puts_57 : decode cX10_puts 57 = .ok (.getfield 114, 3) := by decide +kernel
theorem dX10_puts_60 : decode cX10_puts 60 = .ok (.getfield 118, 3) := by decide +kernel
theorem dX10_puts_63 : decode cX10_puts 63 = .ok (.goto 5, 3) := by decide +kernel
theorem dX10_puts_66 : decode cX10_puts 66 = .ok (.bipush (-5), 2) := by decide +kernel
theorem dX10_puts_68 : decode cX10_puts 68 = .ok (.istore 4, 2) := by decide +kernel
theorem dX10_puts_70 : decode cX10_puts 70 = .ok (.aload_n 0, 1) := by decide +kernel
theorem dX10_puts_71 : decode cX10_puts 71 = .ok (.getfield 10, 3) := by decide +kernel
theorem dX10_puts_74 : decode cX10_puts 74 = .ok (.invokevirtual 79, 3) := by decide +kernel
theorem dX10_puts_77 : decode cX10_puts 77 = .ok (.iload 4, 2) := by decide +kernel
theorem dX10_puts_79 : decode cX10_puts 79 = .ok (.ireturn, 1) := by decide +kernel
theorem dX10_takes_0 : decode cX10_takes 0 = .ok (.aload_n 0, 1) := by decide +kernel
theorem dX10_takes_1 : decode cX10_takes 1 = .ok (.getfield 10, 3) := by decide +kernel
theorem dX10_takes_4 : decode cX10_takes 4 = .ok (.iload_n 1, 1) := by decide +kernel
theorem dX10_takes_5 : decode cX10_takes 5 = .ok (.invokevirtual 66, 3) := by decide +kernel
theorem dX10_takes_8 : decode cX10_takes 8 = .ok (.ifCond .ne 8, 3) := by decide +kernel
theorem dX10_takes_11 : decode cX10_takes 11 = .ok (.aload_n 0, 1) := by decide +kernel
theorem dX10_takes_12 : decode cX10_takes 12 = .ok (.invokevirtual 50, 3) := by decide +kernel
theorem dX10_takes_15 : decode cX10_takes 15 = .ok (.ireturn, 1) := by decide +kernel
theorem dX10_takes_16 : decode cX10_takes 16 = .ok (.aload_n 0, 1) := by decide +kernel
theorem dX10_takes_17 : decode cX10_takes 17 = .ok (.getfield 19, 3) := by decide +kernel
theorem dX10_takes_20 : decode cX10_takes 20 = .ok (.aload_n 0, 1) := by decide +kernel
theorem dX10_takes_21 : decode cX10_takes 21 = .ok (.getfield 10, 3) := by decide +kernel
theorem dX10_takes_24 : decode cX10_takes 24 = .ok (.invokevirtual 54, 3) := by decide +kernel
theorem dX10_takes_27 : decode cX10_takes 27 = .ok (.aload_n 0, 1) := by decide +kernel
theorem dX10_takes_28 : decode cX10_takes 28 = .ok (.getfield 10, 3) := by decide +kernel
theorem dX10_takes_31 : decode cX10_takes 31 = .ok (.getfield 70, 3) := by decide +kernel
theorem dX10_takes_34 : decode cX10_takes 34 = .ok (.iload_n 1, 1) := by decide +kernel
theorem dX10_takes_35 : decode cX10_takes 35 = .ok (.aaload, 1) := by decide +kernel
theorem dX10_takes_36 : decode cX10_takes 36 = .ok (.iconst (-1), 1) := by decide +kernel
theorem dX10_takes_37 : decode cX10_takes 37 = .ok (.invokevirtual 123, 3) := by decide +kernel
theorem dX10_takes_40 : decode cX10_takes 40 = .ok (.istore_n 2, 1) := by decide +kernel
theorem dX10_takes_41 : decode cX10_takes 41 = .ok (.aload_n 0, 1) := by decide +kernel
theorem dX10_takes_42 : decode cX10_takes 42 = .ok (.getfield 10, 3) := by decide +kernel
theorem dX10_takes_45 : decode cX10_takes 45 = .ok (.invokevirtual 79, 3) := by decide +kernel
theorem dX10_takes_48 : decode cX10_takes 48 = .ok (.iload_n 2, 1) := by decide +kernel
theorem dX10_takes_49 : decode cX10_takes 49 = .ok (.ireturn, 1) := by decide +kernel
theorem dX10_moves_0 : decode cX10_moves 0 = .ok (.aload_n 0, 1) := by decide +kernel
theorem dX10_moves_1 : decode cX10_moves 1 = .ok (.getfield 10, 3) := by decide +kernel
theorem dX10_moves_4 : decode cX10_moves 4 = .ok (.iload_n 1, 1) := by decide +kernel
theorem dX10_moves_5 : decode cX10_moves 5 = .ok (.invokevirtual 66, 3) := by decide +kernel
theorem dX10_moves_8 : decode cX10_moves 8 = .ok (.ifCond .eq 39, 3) := by decide +kernel
theorem dX10_moves_11 : decode cX10_moves 11 = .ok (.aload_n 0, 1) := by decide +kernel
theorem dX10_moves_12 : decode cX10_moves 12 = .ok (.getfield 10, 3) := by decide +kernel
theorem dX10_moves_15 : decode cX10_moves 15 = .ok (.iload_n 2, 1) := by decide +kernel
theorem dX10_moves_16 : decode cX10_moves 16 = .ok (.invokevirtual 66, 3) := by decide +kernel
theorem dX10_moves_19 : decode cX10_moves 19 = .ok (.ifCond .eq 28, 3) := by decide +kernel
theorem dX10_moves_22 : decode cX10_moves 22 = .ok (.iload_n 1, 1) := by decide +kernel
theorem dX10_moves_23 : decode cX10_moves 23 = .ok (.iload_n 2, 1) := by decide +kernel
theorem dX10_moves_24 : decode cX10_moves 24 = .ok (.if_icmp .eq 23, 3) := by decide +kernel
theorem dX10_moves_27 : decode cX10_moves 27 = .ok (.iload_n 3, 1) := by decide +kernel
theorem dX10_moves_28 : decode cX10_moves 28 = .ok (.iconst 1, 1) := by decide +kernel
theorem dX10_moves_29 : decode cX10_moves 29 = .ok (.bipush 9, 2) := by decide +kernel
theorem dX10_moves_31 : decode cX10_moves 31 = .ok (.invokestatic 46, 3) := by decide +kernel
theorem dX10_moves_34 : decode cX10_moves 34 = .ok (.ifCond .eq 13, 3) := by decide +kernel
theorem dX10_moves_37 : decode cX10_moves 37 = .ok (.iload 4, 2) := by decide +kernel
theorem dX10_moves_39 : decode cX10_moves 39 = .ok (.iconst 0, 1) := by decide +kernel
theorem dX10_moves_40 : decode cX10_moves 40 = .ok (.iconst 1, 1) := by decide +kernel
theorem dX10_moves_41 : decode cX10_moves 41 = .ok (.invokestatic 46, 3) := by decide +kernel
theorem dX10_moves_44 : decode cX10_moves 44 = .ok (.ifCond .ne 8, 3) := by decide +kernel
theorem dX10_moves_47 : decode cX10_moves 47 = .ok (.aload_n 0, 1) := by decide +kernel
theorem dX10_moves_48 : decode cX10_moves 48 = .ok (.invokevirtual 50, 3) := by decide +kernel
theorem dX10_moves_51 : decode cX10_moves 51 = .ok (.ireturn, 1) := by decide +kernel
theorem dX10_moves_52 : decode cX10_moves 52 = .ok (.aload_n 0, 1) := by decide +kernel
theorem dX10_moves_53 : decode cX10_moves 53 = .ok (.getfield 19, 3) := by decide +kernel
theorem dX10_moves_56 : decode cX10_moves 56 = .ok (.aload_n 0, 1) := by decide +kernel
theorem dX10_moves_57 : decode cX10_moves 57 = .ok (.getfield 10, 3) := by decide +kernel
theorem dX10_moves_60 : decode cX10_moves 60 = .ok (.invokevirtual 54, 3) := by decide +kernel
theorem dX10_moves_63 : decode cX10_moves 63 = .ok (.aload_n 0, 1) := by decide +kernel
theorem dX10_moves_64 : decode cX10_moves 64 = .ok (.getfield 42, 3) := by decide +kernel
theorem dX10_moves_67 : decode cX10_moves 67 = .ok (.aload_n 0, 1) := by decide +kernel
theorem dX10_moves_68 : decode cX10_moves 68 = .ok (.getfield 10, 3) := by decide +kernel
theorem dX10_moves_71 : decode cX10_moves 71 = .ok (.invokevirtual 127, 3) := by decide +kernel
