theorem dX0_init_0 : decode cX0_init 0 = .ok (.aload_n 0, 1) := by decide +kernel
theorem dX0_init_1 : decode cX0_init 1 = .ok (.invokespecial 3, 3) := by decide +kernel
theorem dX0_init_4 : decode cX0_init 4 = .ok (.aload_n 0, 1) := by decide +kernel
theorem dX0_init_5 : decode cX0_init 5 = .ok (.new 9, 3) := by decide +kernel
theorem dX0_init_8 : decode cX0_init 8 = .ok (.dup, 1) := by decide +kernel
theorem dX0_init_9 : decode cX0_init 9 = .ok (.invokespecial 11, 3) := by decide +kernel
theorem dX0_init_12 : decode cX0_init 12 = .ok (.putfield 12, 3) := by decide +kernel
theorem dX0_init_15 : decode cX0_init 15 = .ok (.aload_n 0, 1) := by decide +kernel
theorem dX0_init_16 : decode cX0_init 16 = .ok (.new 18, 3) := by decide +kernel
theorem dX0_init_19 : decode cX0_init 19 = .ok (.dup, 1) := by decide +kernel
theorem dX0_init_20 : decode cX0_init 20 = .ok (.invokespecial 20, 3) := by decide +kernel
theorem dX0_init_23 : decode cX0_init 23 = .ok (.putfield 21, 3) := by decide +kernel
theorem dX0_init_26 : decode cX0_init 26 = .ok (.aload_n 0, 1) := by decide +kernel
theorem dX0_init_27 : decode cX0_init 27 = .ok (.new 18, 3) := by decide +kernel
theorem dX0_init_30 : decode cX0_init 30 = .ok (.dup, 1) := by decide +kernel
theorem dX0_init_31 : decode cX0_init 31 = .ok (.invokespecial 20, 3) := by decide +kernel
theorem dX0_init_34 : decode cX0_init 34 = .ok (.putfield 25, 3) := by decide +kernel
theorem dX0_init_37 : decode cX0_init 37 = .ok (.return_, 1) := by decide +kernel
theorem dX0_put_0 : decode cX0_put 0 = .ok (.aload_n 0, 1) := by decide +kernel
theorem dX0_put_1 : decode cX0_put 1 = .ok (.getfield 12, 3) := by decide +kernel
theorem dX0_put_4 : decode cX0_put 4 = .ok (.invokevirtual 28, 3) := by decide +kernel
theorem dX0_put_7 : decode cX0_put 7 = .ok (.aload_n 0, 1) := by decide +kernel
theorem dX0_put_8 : decode cX0_put 8 = .ok (.getfield 21, 3) := by decide +kernel
theorem dX0_put_11 : decode cX0_put 11 = .ok (.getfield 31, 3) := by decide +kernel
theorem dX0_put_14 : decode cX0_put 14 = .ok (.aload_n 0, 1) := by decide +kernel
theorem dX0_put_15 : decode cX0_put 15 = .ok (.getfield 35, 3) := by decide +kernel
theorem dX0_put_18 : decode cX0_put 18 = .ok (.if_icmp .ge 11, 3) := by decide +kernel
theorem dX0_put_21 : decode cX0_put 21 = .ok (.aload_n 0, 1) := by decide +kernel
theorem dX0_put_22 : decode cX0_put 22 = .ok (.iload_n 2, 1) := by decide +kernel
theorem dX0_put_23 : decode cX0_put 23 = .ok (.invokevirtual 38, 3) := by decide +kernel
theorem dX0_put_26 : decode cX0_put 26 = .ok (.ifCond .eq 12, 3) := by decide +kernel
theorem dX0_put_29 : decode cX0_put 29 = .ok (.aload_n 0, 1) := by decide +kernel
theorem dX0_put_30 : decode cX0_put 30 = .ok (.getfield 12, 3) := by decide +kernel
theorem dX0_put_33 : decode cX0_put 33 = .ok (.invokevirtual 42, 3) := by decide +kernel
theorem dX0_put_36 : decode cX0_put 36 = .ok (.iconst 0, 1) := by decide +kernel
theorem dX0_put_37 : decode cX0_put 37 = .ok (.ireturn, 1) := by decide +kernel
theorem dX0_put_38 : decode cX0_put 38 = .ok (.aload_n 0, 1) := by decide +kernel
theorem dX0_put_39 : decode cX0_put 39 = .ok (.getfield 21, 3) := by decide +kernel
theorem dX0_put_42 : decode cX0_put 42 = .ok (.iload_n 1, 1) := by decide +kernel
theorem dX0_put_43 : decode cX0_put 43 = .ok (.invokevirtual 45, 3) := by decide +kernel
theorem dX0_put_46 : decode cX0_put 46 = .ok (.aload_n 0, 1) := by decide +kernel
theorem dX0_put_47 : decode cX0_put 47 = .ok (.dup, 1) := by decide +kernel
theorem dX0_put_48 : decode cX0_put 48 = .ok (.getfield 49, 3) := by decide +kernel
theorem dX0_put_51 : decode cX0_put 51 = .ok (.iconst 1, 1) := by decide +kernel
theorem dX0_put_52 : decode cX0_put 52 = .ok (.iadd, 1) := by decide +kernel
theorem dX0_put_53 : decode cX0_put 53 = .ok (.putfield 49, 3) := by decide +kernel
theorem dX0_put_56 : decode cX0_put 56 = .ok (.aload_n 0, 1) := by decide +kernel
theorem dX0_put_57 : decode cX0_put 57 = .ok (.aload_n 0, 1) := by decide +kernel
theorem dX0_put_58 : decode cX0_put 58 = .ok (.getfield 52, 3) := by decide +kernel
theorem dX0_put_61 : decode cX0_put 61 = .ok (.aload_n 0, 1) := by decide +kernel
theorem dX0_put_62 : decode cX0_put 62 = .ok (.getfield 21, 3) := by decide +kernel
theorem dX0_put_65 : decode cX0_put 65 = .ok (.getfield 31, 3) := by decide +kernel
theorem dX0_put_68 : decode cX0_put 68 = .ok (.invokestatic 55, 3) := by decide +kernel
theorem dX0_put_71 : decode cX0_put 71 = .ok (.putfield 52, 3) := by decide +kernel
theorem dX0_put_74 : decode cX0_put 74 = .ok (.aload_n 0, 1) := by decide +kernel
theorem dX0_put_75 : decode cX0_put 75 = .ok (.getfield 12, 3) := by decide +kernel
theorem dX0_put_78 : decode cX0_put 78 = .ok (.invokevirtual 61, 3) := by decide +kernel
theorem dX0_put_81 : decode cX0_put 81 = .ok (.iconst 1, 1) := by decide +kernel
theorem dX0_put_82 : decode cX0_put 82 = .ok (.ireturn, 1) := by decide +kernel
theorem dX0_take_0 : decode cX0_take 0 = .ok (.aload_n 0, 1) := by decide +kernel
theorem dX0_take_1 : decode cX0_take 1 = .ok (.getfield 12, 3) := by decide +kernel
theorem dX0_take_4 : decode cX0_take 4 = .ok (.invokevirtual 28, 3) := by decide +kernel
theorem dX0_take_7 : decode cX0_take 7 = .ok (.aload_n 0, 1) := by decide +kernel
theorem dX0_take_8 : decode cX0_take 8 = .ok (.getfield 21, 3) := by decide +kernel
theorem dX0_take_11 : decode cX0_take 11 = .ok (.getfield 31, 3) := by decide +kernel
theorem dX0_take_14 : decode cX0_take 14 = .ok (.ifCond .eq 11, 3) := by decide +kernel
theorem dX0_take_17 : decode cX0_take 17 = .ok (.aload_n 0, 1) := by decide +kernel
theorem dX0_take_18 : decode cX0_take 18 = .ok (.iload_n 1, 1) := by decide +kernel
theorem dX0_take_19 : decode cX0_take 19 = .ok (.invokevirtual 38, 3) := by decide +kernel
theorem dX0_take_22 : decode cX0_take 22 = .ok (.ifCond .eq 13, 3) := by decide +kernel
theorem dX0_take_25 : decode cX0_take 25 = .ok (.aload_n 0, 1) := by decide +kernel
theorem dX0_take_26 : decode cX0_take 26 = .ok (.getfield 12, 3) := by decide +kernel
theorem dX0_take_29 : decode cX0_take 29 = .ok (.invokevirtual 42, 3) := by decide +kernel
theorem dX0_take_32 : decode cX0_take 32 = .ok (.bipush (-5), 2) := by decide +kernel
theorem dX0_take_34 : decode cX0_take 34 = .ok (.ireturn, 1) := by decide +kernel
theorem dX0_take_35 : decode cX0_take 35 = .ok (.aload_n 0, 1) := by decide +kernel
theorem dX0_take_36 : decode cX0_take 36 = .ok (.dup, 1) := by decide +kernel
theorem dX0_take_37 : decode cX0_take 37 = .ok (.getfield 64, 3) := by decide +kernel
theorem dX0_take_40 : decode cX0_take 40 = .ok (.iconst 1, 1) := by decide +kernel
theorem dX0_take_41 : decode cX0_take 41 = .ok (.iadd, 1) := by decide +kernel
theorem dX0_take_42 : decode cX0_take 42 = .ok (.putfield 64, 3) := by decide +kernel
theorem dX0_take_45 : decode cX0_take 45 = .ok (.aload_n 0, 1) := by decide +kernel
theorem dX0_take_46 : decode cX0_take 46 = .ok (.getfield 21, 3) := by decide +kernel
theorem dX0_take_49 : decode cX0_take 49 = .ok (.iconst 0, 1) := by decide +kernel
theorem dX0_take_50 : decode cX0_take 50 = .ok (.invokevirtual 67, 3) := by decide +kernel
theorem dX0_take_53 : decode cX0_take 53 = .ok (.istore_n 2, 1) := by decide +kernel
theorem dX0_take_54 : decode cX0_take 54 = .ok (.aload_n 0, 1) := by decide +kernel
theorem dX0_take_55 : decode cX0_take 55 = .ok (.getfield 12, 3) := by decide +kernel
theorem dX0_take_58 : decode cX0_take 58 = .ok (.invokevirtual 61, 3) := by decide +kernel
theorem dX0_take_61 : decode cX0_take 61 = .ok (.iload_n 2, 1) := by decide +kernel
theorem dX0_take_62 : decode cX0_take 62 = .ok (.ireturn, 1) := by decide +kernel
theorem dX0_canGive_0 : decode cX0_canGive 0 = .ok (.aload_n 0, 1) := by decide +kernel
theorem dX0_canGive_1 : decode cX0_canGive 1 = .ok (.getfield 21, 3) := by decide +kernel
theorem dX0_canGive_4 : decode cX0_canGive 4 = .ok (.getfield 31, 3) := by decide +kernel
theorem dX0_canGive_7 : decode cX0_canGive 7 = .ok (.iload_n 1, 1) := by decide +kernel
theorem dX0_canGive_8 : decode cX0_canGive 8 = .ok (.if_icmp .lt 15, 3) := by decide +kernel
theorem dX0_canGive_11 : decode cX0_canGive 11 = .ok (.aload_n 0, 1) := by decide +kernel
theorem dX0_canGive_12 : decode cX0_canGive 12 = .ok (.getfield 71, 3) := by decide +kernel
theorem dX0_canGive_15 : decode cX0_canGive 15 = .ok (.iconst (-1), 1) := by decide +kernel
theorem dX0_canGive_16 : decode cX0_canGive 16 = .ok (.if_icmp .ne 7, 3) := by decide +kernel
theorem dX0_canGive_19 : decode cX0_canGive 19 = .ok (.iconst 1, 1) := by decide +kernel
theorem dX0_canGive_20 : decode cX0_canGive 20 = .ok (.goto 4, 3) := by decide +kernel
theorem dX0_canGive_23 : decode cX0_canGive 23 = .ok (.iconst 0, 1) := by decide +kernel
theorem dX0_canGive_24 : decode cX0_canGive 24 = .ok (.ireturn, 1) := by decide +kernel
theorem dX0_giveFirst_0 : decode cX0_giveFirst 0 = .ok (.aload_n 0, 1) := by decide +kernel
theorem dX0_giveFirst_1 : decode cX0_giveFirst 1 = .ok (.dup, 1) := by decide +kernel
theorem dX0_giveFirst_2 : decode cX0_giveFirst 2 = .ok (.getfield 64, 3) := by decide +kernel
theorem dX0_giveFirst_5 : decode cX0_giveFirst 5 = .ok (.iconst 1, 1) := by decide +kernel
theorem dX0_giveFirst_6 : decode cX0_giveFirst 6 = .ok (.iadd, 1) := by decide +kernel
theorem dX0_giveFirst_7 : decode cX0_giveFirst 7 = .ok (.putfield 64, 3) := by decide +kernel
theorem dX0_giveFirst_10 : decode cX0_giveFirst 10 = .ok (.aload_n 0, 1) := by decide +kernel
theorem dX0_giveFirst_11 : decode cX0_giveFirst 11 = .ok (.getfield 21, 3) := by decide +kernel
theorem dX0_giveFirst_14 : decode cX0_giveFirst 14 = .ok (.iconst 0, 1) := by decide +kernel
theorem dX0_giveFirst_15 : decode cX0_giveFirst 15 = .ok (.invokevirtual 67, 3) := by decide +kernel
theorem dX0_giveFirst_18 : decode cX0_giveFirst 18 = .ok (.ireturn, 1) := by decide +kernel
theorem dX0_isKeptByAnother_0 : decode cX0_isKeptByAnother 0 = .ok (.aload_n 0, 1) := by decide +kernel
theorem dX0_isKeptByAnother_1 : decode cX0_isKeptByAnother 1 = .ok (.getfield 71, 3) := by decide +kernel
theorem dX0_isKeptByAnother_4 : decode cX0_isKeptByAnother 4 = .ok (.iconst (-1), 1) := by decide +kernel
theorem dX0_isKeptByAnother_5 : decode cX0_isKeptByAnother 5 = .ok (.if_icmp .eq 15, 3) := by decide +kernel
theorem dX0_isKeptByAnother_8 : decode cX0_isKeptByAnother 8 = .ok (.aload_n 0, 1) := by decide +kernel
theorem dX0_isKeptByAnother_9 : decode cX0_isKeptByAnother 9 = .ok (.getfield 71, 3) := by decide +kernel
theorem dX0_isKeptByAnother_12 : decode cX0_isKeptByAnother 12 = .ok (.iload_n 1, 1) := by decide +kernel
theorem dX0_isKeptByAnother_13 : decode cX0_isKeptByAnother 13 = .ok (.if_icmp .eq 7, 3) := by decide +kernel
theorem dX0_isKeptByAnother_16 : decode cX0_isKeptByAnother 16 = .ok (.iconst 1, 1) := by decide +kernel
theorem dX0_isKeptByAnother_17 : decode cX0_isKeptByAnother 17 = .ok (.goto 4, 3) := by decide +kernel
theorem dX0_isKeptByAnother_20 : decode cX0_isKeptByAnother 20 = .ok (.iconst 0, 1) := by decide +kernel
theorem dX0_isKeptByAnother_21 : decode cX0_isKeptByAnother 21 = .ok (.ireturn, 1) := by decide +kernel
theorem dX0_keepFor_0 : decode cX0_keepFor 0 = .ok (.aload_n 0, 1) := by decide +kernel
theorem dX0_keepFor_1 : decode cX0_keepFor 1 = .ok (.getfield 12, 3) := by decide +kernel
theorem dX0_keepFor_4 : decode cX0_keepFor 4 = .ok (.invokevirtual 28, 3) := by decide +kernel
theorem dX0_keepFor_7 : decode cX0_keepFor 7 = .ok (.bipush (-5), 2) := by decide +kernel
theorem dX0_keepFor_9 : decode cX0_keepFor 9 = .ok (.istore_n 2, 1) := by decide +kernel
theorem dX0_keepFor_10 : decode cX0_keepFor 10 = .ok (.aload_n 0, 1) := by decide +kernel
theorem dX0_keepFor_11 : decode cX0_keepFor 11 = .ok (.iload_n 1, 1) := by decide +kernel
theorem dX0_keepFor_12 : decode cX0_keepFor 12 = .ok (.invokevirtual 38, 3) := by decide +kernel
theorem dX0_keepFor_15 : decode cX0_keepFor 15 = .ok (.ifCond .eq 14, 3) := by decide +kernel
theorem dX0_keepFor_18 : decode cX0_keepFor 18 = .ok (.aload_n 0, 1) := by decide +kernel
theorem dX0_keepFor_19 : decode cX0_keepFor 19 = .ok (.getfield 25, 3) := by decide +kernel
theorem dX0_keepFor_22 : decode cX0_keepFor 22 = .ok (.iload_n 1, 1) := by decide +kernel
theorem dX0_keepFor_23 : decode cX0_keepFor 23 = .ok (.invokevirtual 45, 3) := by decide +kernel
theorem dX0_keepFor_26 : decode cX0_keepFor 26 = .ok (.goto 23, 3) := by decide +kernel
theorem dX0_keepFor_29 : decode cX0_keepFor 29 = .ok (.aload_n 0, 1) := by decide +kernel
theorem dX0_keepFor_30 : decode cX0_keepFor 30 = .ok (.iload_n 1, 1) := by decide +kernel
theorem dX0_keepFor_31 : decode cX0_keepFor 31 = .ok (.putfield 71, 3) := by decide +kernel
theorem dX0_keepFor_34 : decode cX0_keepFor 34 = .ok (.aload_n 0, 1) := by decide +kernel
theorem dX0_keepFor_35 : decode cX0_keepFor 35 = .ok (.dup, 1) := by decide +kernel
theorem dX0_keepFor_36 : decode cX0_keepFor 36 = .ok (.getfield 74, 3) := by decide +kernel
theorem dX0_keepFor_39 : decode cX0_keepFor 39 = .ok (.iconst 1, 1) := by decide +kernel
theorem dX0_keepFor_40 : decode cX0_keepFor 40 = .ok (.iadd, 1) := by decide +kernel
theorem dX0_keepFor_41 : decode cX0_keepFor 41 = .ok (.putfield 74, 3) := by decide +kernel
theorem dX0_keepFor_44 : decode cX0_keepFor 44 = .ok (.aload_n 0, 1) := by decide +kernel
theorem dX0_keepFor_45 : decode cX0_keepFor 45 = .ok (.getfield 74, 3) := by decide +kernel
theorem dX0_keepFor_48 : decode cX0_keepFor 48 = .ok (.istore_n 2, 1) := by decide +kernel
theorem dX0_keepFor_49 : decode cX0_keepFor 49 = .ok (.aload_n 0, 1) := by decide +kernel
theorem dX0_keepFor_50 : decode cX0_keepFor 50 = .ok (.getfield 12, 3) := by decide +kernel
theorem dX0_keepFor_53 : decode cX0_keepFor 53 = .ok (.invokevirtual 61, 3) := by decide +kernel
theorem dX0_keepFor_56 : decode cX0_keepFor 56 = .ok (.iload_n 2, 1) := by decide +kernel
theorem dX0_keepFor_57 : decode cX0_keepFor 57 = .ok (.ireturn, 1) := by decide +kernel
theorem dX0_letGo_0 : decode cX0_letGo 0 = .ok (.aload_n 0, 1) := by decide +kernel
theorem dX0_letGo_1 : decode cX0_letGo 1 = .ok (.getfield 12, 3) := by decide +kernel
theorem dX0_letGo_4 : decode cX0_letGo 4 = .ok (.invokevirtual 28, 3) := by decide +kernel
theorem dX0_letGo_7 : decode cX0_letGo 7 = .ok (.aload_n 0, 1) := by decide +kernel
theorem dX0_letGo_8 : decode cX0_letGo 8 = .ok (.dup, 1) := by decide +kernel
theorem dX0_letGo_9 : decode cX0_letGo 9 = .ok (.getfield 74, 3) := by decide +kernel
theorem dX0_letGo_12 : decode cX0_letGo 12 = .ok (.iconst 1, 1) := by decide +kernel
theorem dX0_letGo_13 : decode cX0_letGo 13 = .ok (.isub, 1) := by decide +kernel
theorem dX0_letGo_14 : decode cX0_letGo 14 = .ok (.putfield 74, 3) := by decide +kernel
theorem dX0_letGo_17 : decode cX0_letGo 17 = .ok (.aload_n 0, 1) := by decide +kernel
theorem dX0_letGo_18 : decode cX0_letGo 18 = .ok (.getfield 74, 3) := by decide +kernel
theorem dX0_letGo_21 : decode cX0_letGo 21 = .ok (.istore_n 1, 1) := by decide +kernel
theorem dX0_letGo_22 : decode cX0_letGo 22 = .ok (.aload_n 0, 1) := by decide +kernel
theorem dX0_letGo_23 : decode cX0_letGo 23 = .ok (.getfield 74, 3) := by decide +kernel
theorem dX0_letGo_26 : decode cX0_letGo 26 = .ok (.ifCond .ne 32, 3) := by decide +kernel
theorem dX0_letGo_29 : decode cX0_letGo 29 = .ok (.aload_n 0, 1) := by decide +kernel
theorem dX0_letGo_30 : decode cX0_letGo 30 = .ok (.aload_n 0, 1) := by decide +kernel
theorem dX0_letGo_31 : decode cX0_letGo 31 = .ok (.getfield 25, 3) := by decide +kernel
theorem dX0_letGo_34 : decode cX0_letGo 34 = .ok (.iconst 0, 1) := by decide +kernel
theorem dX0_letGo_35 : decode cX0_letGo 35 = .ok (.invokevirtual 67, 3) := by decide +kernel
theorem dX0_letGo_38 : decode cX0_letGo 38 = .ok (.putfield 71, 3) := by decide +kernel
theorem dX0_letGo_41 : decode cX0_letGo 41 = .ok (.aload_n 0, 1) := by decide +kernel
theorem dX0_letGo_42 : decode cX0_letGo 42 = .ok (.aload_n 0, 1) := by decide +kernel
theorem dX0_letGo_43 : decode cX0_letGo 43 = .ok (.getfield 71, 3) := by decide +kernel
theorem dX0_letGo_46 : decode cX0_letGo 46 = .ok (.iconst (-1), 1) := by decide +kernel
theorem dX0_letGo_47 : decode cX0_letGo 47 = .ok (.if_icmp .ne 7, 3) := by decide +kernel
theorem dX0_letGo_50 : decode cX0_letGo 50 = .ok (.iconst 0, 1) := by decide +kernel
theorem dX0_letGo_51 : decode cX0_letGo 51 = .ok (.goto 4, 3) := by decide +kernel
theorem dX0_letGo_54 : decode cX0_letGo 54 = .ok (.iconst 1, 1) := by decide +kernel
theorem dX0_letGo_55 : decode cX0_letGo 55 = .ok (.putfield 74, 3) := by decide +kernel
theorem dX0_letGo_58 : decode cX0_letGo 58 = .ok (.aload_n 0, 1) := by decide +kernel
theorem dX0_letGo_59 : decode cX0_letGo 59 = .ok (.getfield 12, 3) := by decide +kernel
theorem dX0_letGo_62 : decode cX0_letGo 62 = .ok (.invokevirtual 61, 3) := by decide +kernel
theorem dX0_letGo_65 : decode cX0_letGo 65 = .ok (.iload_n 1, 1) := by decide +kernel
theorem dX0_letGo_66 : decode cX0_letGo 66 = .ok (.ireturn, 1) := by decide +kernel
theorem dX0_bufferTold_0 : decode cX0_bufferTold 0 = .ok (.iload_n 1, 1) := by decide +kernel
theorem dX0_bufferTold_1 : decode cX0_bufferTold 1 = .ok (.tableswitch 87 0 6 #[43, 51, 56, 61, 66, 71, 79], 43) := by decide +kernel
theorem dX0_bufferTold_44 : decode cX0_bufferTold 44 = .ok (.aload_n 0, 1) := by decide +kernel
theorem dX0_bufferTold_45 : decode cX0_bufferTold 45 = .ok (.getfield 21, 3) := by decide +kernel
theorem dX0_bufferTold_48 : decode cX0_bufferTold 48 = .ok (.getfield 31, 3) := by decide +kernel
theorem dX0_bufferTold_51 : decode cX0_bufferTold 51 = .ok (.ireturn, 1) := by decide +kernel
theorem dX0_bufferTold_52 : decode cX0_bufferTold 52 = .ok (.aload_n 0, 1) := by decide +kernel
theorem dX0_bufferTold_53 : decode cX0_bufferTold 53 = .ok (.getfield 35, 3) := by decide +kernel
theorem dX0_bufferTold_56 : decode cX0_bufferTold 56 = .ok (.ireturn, 1) := by decide +kernel
theorem dX0_bufferTold_57 : decode cX0_bufferTold 57 = .ok (.aload_n 0, 1) := by decide +kernel
theorem dX0_bufferTold_58 : decode cX0_bufferTold 58 = .ok (.getfield 49, 3) := by decide +kernel
theorem dX0_bufferTold_61 : decode cX0_bufferTold 61 = .ok (.ireturn, 1) := by decide +kernel
theorem dX0_bufferTold_62 : decode cX0_bufferTold 62 = .ok (.aload_n 0, 1) := by decide +kernel
theorem dX0_bufferTold_63 : decode cX0_bufferTold 63 = .ok (.getfield 64, 3) := by decide +kernel
theorem dX0_bufferTold_66 : decode cX0_bufferTold 66 = .ok (.ireturn, 1) := by decide +kernel
theorem dX0_bufferTold_67 : decode cX0_bufferTold 67 = .ok (.aload_n 0, 1) := by decide +kernel
theorem dX0_bufferTold_68 : decode cX0_bufferTold 68 = .ok (.getfield 52, 3) := by decide +kernel
theorem dX0_bufferTold_71 : decode cX0_bufferTold 71 = .ok (.ireturn, 1) := by decide +kernel
theorem dX0_bufferTold_72 : decode cX0_bufferTold 72 = .ok (.aload_n 0, 1) := by decide +kernel
theorem dX0_bufferTold_73 : decode cX0_bufferTold 73 = .ok (.getfield 12, 3) := by decide +kernel
theorem dX0_bufferTold_76 : decode cX0_bufferTold 76 = .ok (.getfield 77, 3) := by decide +kernel
theorem dX0_bufferTold_79 : decode cX0_bufferTold 79 = .ok (.ireturn, 1) := by decide +kernel
theorem dX0_bufferTold_80 : decode cX0_bufferTold 80 = .ok (.aload_n 0, 1) := by decide +kernel
theorem dX0_bufferTold_81 : decode cX0_bufferTold 81 = .ok (.getfield 12, 3) := by decide +kernel
theorem dX0_bufferTold_84 : decode cX0_bufferTold 84 = .ok (.getfield 80, 3) := by decide +kernel
theorem dX0_bufferTold_87 : decode cX0_bufferTold 87 = .ok (.ireturn, 1) := by decide +kernel
theorem dX0_bufferTold_88 : decode cX0_bufferTold 88 = .ok (.aload_n 0, 1) := by decide +kernel
theorem dX0_bufferTold_89 : decode cX0_bufferTold 89 = .ok (.getfield 12, 3) := by decide +kernel
theorem dX0_bufferTold_92 : decode cX0_bufferTold 92 = .ok (.getfield 83, 3) := by decide +kernel
theorem dX0_bufferTold_95 : decode cX0_bufferTold 95 = .ok (.ireturn, 1) := by decide +kernel
theorem dX0_keepingTold_0 : decode cX0_keepingTold 0 = .ok (.iload_n 1, 1) := by decide +kernel
theorem dX0_keepingTold_1 : decode cX0_keepingTold 1 = .ok (.lookupswitch 37 #[(0, 27), (1, 32)], 27) := by decide +kernel
theorem dX0_keepingTold_28 : decode cX0_keepingTold 28 = .ok (.aload_n 0, 1) := by decide +kernel
theorem dX0_keepingTold_29 : decode cX0_keepingTold 29 = .ok (.getfield 71, 3) := by decide +kernel
theorem dX0_keepingTold_32 : decode cX0_keepingTold 32 = .ok (.ireturn, 1) := by decide +kernel
theorem dX0_keepingTold_33 : decode cX0_keepingTold 33 = .ok (.aload_n 0, 1) := by decide +kernel
theorem dX0_keepingTold_34 : decode cX0_keepingTold 34 = .ok (.getfield 74, 3) := by decide +kernel
theorem dX0_keepingTold_37 : decode cX0_keepingTold 37 = .ok (.ireturn, 1) := by decide +kernel
theorem dX0_keepingTold_38 : decode cX0_keepingTold 38 = .ok (.aload_n 0, 1) := by decide +kernel
theorem dX0_keepingTold_39 : decode cX0_keepingTold 39 = .ok (.getfield 25, 3) := by decide +kernel
theorem dX0_keepingTold_42 : decode cX0_keepingTold 42 = .ok (.getfield 31, 3) := by decide +kernel
theorem dX0_keepingTold_45 : decode cX0_keepingTold 45 = .ok (.ireturn, 1) := by decide +kernel
theorem dX0_startAnew_0 : decode cX0_startAnew 0 = .ok (.aload_n 0, 1) := by decide +kernel
theorem dX0_startAnew_1 : decode cX0_startAnew 1 = .ok (.getfield 12, 3) := by decide +kernel
theorem dX0_startAnew_4 : decode cX0_startAnew 4 = .ok (.invokevirtual 86, 3) := by decide +kernel
theorem dX0_startAnew_7 : decode cX0_startAnew 7 = .ok (.aload_n 0, 1) := by decide +kernel
theorem dX0_startAnew_8 : decode cX0_startAnew 8 = .ok (.getfield 21, 3) := by decide +kernel
theorem dX0_startAnew_11 : decode cX0_startAnew 11 = .ok (.iconst 0, 1) := by decide +kernel
theorem dX0_startAnew_12 : decode cX0_startAnew 12 = .ok (.putfield 31, 3) := by decide +kernel
theorem dX0_startAnew_15 : decode cX0_startAnew 15 = .ok (.aload_n 0, 1) := by decide +kernel
theorem dX0_startAnew_16 : decode cX0_startAnew 16 = .ok (.getfield 25, 3) := by decide +kernel
theorem dX0_startAnew_19 : decode cX0_startAnew 19 = .ok (.iconst 0, 1) := by decide +kernel
theorem dX0_startAnew_20 : decode cX0_startAnew 20 = .ok (.putfield 31, 3) := by decide +kernel
theorem dX0_startAnew_23 : decode cX0_startAnew 23 = .ok (.aload_n 0, 1) := by decide +kernel
theorem dX0_startAnew_24 : decode cX0_startAnew 24 = .ok (.iconst 2, 1) := by decide +kernel
theorem dX0_startAnew_25 : decode cX0_startAnew 25 = .ok (.putfield 35, 3) := by decide +kernel
theorem dX0_startAnew_28 : decode cX0_startAnew 28 = .ok (.aload_n 0, 1) := by decide +kernel
theorem dX0_startAnew_29 : decode cX0_startAnew 29 = .ok (.iconst 0, 1) := by decide +kernel
theorem dX0_startAnew_30 : decode cX0_startAnew 30 = .ok (.putfield 49, 3) := by decide +kernel
theorem dX0_startAnew_33 : decode cX0_startAnew 33 = .ok (.aload_n 0, 1) := by decide +kernel
theorem dX0_startAnew_34 : decode cX0_startAnew 34 = .ok (.iconst 0, 1) := by decide +kernel
theorem dX0_startAnew_35 : decode cX0_startAnew 35 = .ok (.putfield 64, 3) := by decide +kernel
theorem dX0_startAnew_38 : decode cX0_startAnew 38 = .ok (.aload_n 0, 1) := by decide +kernel
theorem dX0_startAnew_39 : decode cX0_startAnew 39 = .ok (.iconst 0, 1) := by decide +kernel
theorem dX0_startAnew_40 : decode cX0_startAnew 40 = .ok (.putfield 52, 3) := by decide +kernel
theorem dX0_startAnew_43 : decode cX0_startAnew 43 = .ok (.aload_n 0, 1) := by decide +kernel
theorem dX0_startAnew_44 : decode cX0_startAnew 44 = .ok (.iconst (-1), 1) := by decide +kernel
theorem dX0_startAnew_45 : decode cX0_startAnew 45 = .ok (.putfield 71, 3) := by decide +kernel
theorem dX0_startAnew_48 : decode cX0_startAnew 48 = .ok (.aload_n 0, 1) := by decide +kernel
theorem dX0_startAnew_49 : decode cX0_startAnew 49 = .ok (.iconst 0, 1) := by decide +kernel
theorem dX0_startAnew_50 : decode cX0_startAnew 50 = .ok (.putfield 74, 3) := by decide +kernel
theorem dX0_startAnew_53 : decode cX0_startAnew 53 = .ok (.return_, 1) := by decide +kernel
theorem dX0_copyFrom_0 : decode cX0_copyFrom 0 = .ok (.aload_n 0, 1) := by decide +kernel
theorem dX0_copyFrom_1 : decode cX0_copyFrom 1 = .ok (.getfield 12, 3) := by decide +kernel
theorem dX0_copyFrom_4 : decode cX0_copyFrom 4 = .ok (.aload_n 1, 1) := by decide +kernel
theorem dX0_copyFrom_5 : decode cX0_copyFrom 5 = .ok (.getfield 12, 3) := by decide +kernel
theorem dX0_copyFrom_8 : decode cX0_copyFrom 8 = .ok (.invokevirtual 89, 3) := by decide +kernel
theorem dX0_copyFrom_11 : decode cX0_copyFrom 11 = .ok (.aload_n 0, 1) := by decide +kernel
theorem dX0_copyFrom_12 : decode cX0_copyFrom 12 = .ok (.getfield 21, 3) := by decide +kernel
theorem dX0_copyFrom_15 : decode cX0_copyFrom 15 = .ok (.aload_n 1, 1) := by decide +kernel
theorem dX0_copyFrom_16 : decode cX0_copyFrom 16 = .ok (.getfield 21, 3) := by decide +kernel
theorem dX0_copyFrom_19 : decode cX0_copyFrom 19 = .ok (.invokevirtual 93, 3) := by decide +kernel
theorem dX0_copyFrom_22 : decode cX0_copyFrom 22 = .ok (.aload_n 0, 1) := by decide +kernel
theorem dX0_copyFrom_23 : decode cX0_copyFrom 23 = .ok (.getfield 25, 3) := by decide +kernel
theorem dX0_copyFrom_26 : decode cX0_copyFrom 26 = .ok (.aload_n 1, 1) := by decide +kernel
theorem dX0_copyFrom_27 : decode cX0_copyFrom 27 = .ok (.getfield 25, 3) := by decide +kernel
theorem dX0_copyFrom_30 : decode cX0_copyFrom 30 = .ok (.invokevirtual 93, 3) := by decide +kernel
theorem dX0_copyFrom_33 : decode cX0_copyFrom 33 = .ok (.aload_n 0, 1) := by decide +kernel
theorem dX0_copyFrom_34 : decode cX0_copyFrom 34 = .ok (.aload_n 1, 1) := by decide +kernel
theorem dX0_copyFrom_35 : decode cX0_copyFrom 35 = .ok (.getfield 35, 3) := by decide +kernel
theorem dX0_copyFrom_38 : decode cX0_copyFrom 38 = .ok (.putfield 35, 3) := by decide +kernel
theorem dX0_copyFrom_41 : decode cX0_copyFrom 41 = .ok (.aload_n 0, 1) := by decide +kernel
theorem dX0_copyFrom_42 : decode cX0_copyFrom 42 = .ok (.aload_n 1, 1) := by decide +kernel
theorem dX0_copyFrom_43 : decode cX0_copyFrom 43 = .ok (.getfield 49, 3) := by decide +kernel
theorem dX0_copyFrom_46 : decode cX0_copyFrom 46 = .ok (.putfield 49, 3) := by decide +kernel
theorem dX0_copyFrom_49 : decode cX0_copyFrom 49 = .ok (.aload_n 0, 1) := by decide +kernel
theorem dX0_copyFrom_50 : decode cX0_copyFrom 50 = .ok (.aload_n 1, 1) := by decide +kernel
theorem dX0_copyFrom_51 : decode cX0_copyFrom 51 = .ok (.getfield 64, 3) := by decide +kernel
theorem dX0_copyFrom_54 : decode cX0_copyFrom 54 = .ok (.putfield 64, 3) := by decide +kernel
theorem dX0_copyFrom_57 : decode cX0_copyFrom 57 = .ok (.aload_n 0, 1) := by decide +kernel
theorem dX0_copyFrom_58 : decode cX0_copyFrom 58 = .ok (.aload_n 1, 1) := by decide +kernel
theorem dX0_copyFrom_59 : decode cX0_copyFrom 59 = .ok (.getfield 52, 3) := by decide +kernel
theorem dX0_copyFrom_62 : decode cX0_copyFrom 62 = .ok (.putfield 52, 3) := by decide +kernel
theorem dX0_copyFrom_65 : decode cX0_copyFrom 65 = .ok (.aload_n 0, 1) := by decide +kernel
theorem dX0_copyFrom_66 : decode cX0_copyFrom 66 = .ok (.aload_n 1, 1) := by decide +kernel
theorem dX0_copyFrom_67 : decode cX0_copyFrom 67 = .ok (.getfield 71, 3) := by decide +kernel
theorem dX0_copyFrom_70 : decode cX0_copyFrom 70 = .ok (.putfield 71, 3) := by decide +kernel
theorem dX0_copyFrom_73 : decode cX0_copyFrom 73 = .ok (.aload_n 0, 1) := by decide +kernel
theorem dX0_copyFrom_74 : decode cX0_copyFrom 74 = .ok (.aload_n 1, 1) := by decide +kernel
theorem dX0_copyFrom_75 : decode cX0_copyFrom 75 = .ok (.getfield 74, 3) := by decide +kernel
theorem dX0_copyFrom_78 : decode cX0_copyFrom 78 = .ok (.putfield 74, 3) := by decide +kernel
theorem dX0_copyFrom_81 : decode cX0_copyFrom 81 = .ok (.return_, 1) := by decide +kernel
theorem dX1_init_0 : decode cX1_init 0 = .ok (.aload_n 0, 1) := by decide +kernel
theorem dX1_init_1 : decode cX1_init 1 = .ok (.invokespecial 3, 3) := by decide +kernel
theorem dX1_init_4 : decode cX1_init 4 = .ok (.aload_n 0, 1) := by decide +kernel
theorem dX1_init_5 : decode cX1_init 5 = .ok (.bipush 6, 2) := by decide +kernel
theorem dX1_init_7 : decode cX1_init 7 = .ok (.anewarray 9, 3) := by decide +kernel
theorem dX1_init_10 : decode cX1_init 10 = .ok (.putfield 11, 3) := by decide +kernel
theorem dX1_init_13 : decode cX1_init 13 = .ok (.aload_n 0, 1) := by decide +kernel
theorem dX1_init_14 : decode cX1_init 14 = .ok (.bipush 6, 2) := by decide +kernel
theorem dX1_init_16 : decode cX1_init 16 = .ok (.anewarray 17, 3) := by decide +kernel
theorem dX1_init_19 : decode cX1_init 19 = .ok (.putfield 19, 3) := by decide +kernel
theorem dX1_init_22 : decode cX1_init 22 = .ok (.aload_n 0, 1) := by decide +kernel
theorem dX1_init_23 : decode cX1_init 23 = .ok (.bipush 6, 2) := by decide +kernel
theorem dX1_init_25 : decode cX1_init 25 = .ok (.anewarray 23, 3) := by decide +kernel
theorem dX1_init_28 : decode cX1_init 28 = .ok (.putfield 25, 3) := by decide +kernel
theorem dX1_init_31 : decode cX1_init 31 = .ok (.aload_n 0, 1) := by decide +kernel
theorem dX1_init_32 : decode cX1_init 32 = .ok (.new 29, 3) := by decide +kernel
theorem dX1_init_35 : decode cX1_init 35 = .ok (.dup, 1) := by decide +kernel
theorem dX1_init_36 : decode cX1_init 36 = .ok (.invokespecial 31, 3) := by decide +kernel
theorem dX1_init_39 : decode cX1_init 39 = .ok (.putfield 32, 3) := by decide +kernel
theorem dX1_init_42 : decode cX1_init 42 = .ok (.aload_n 0, 1) := by decide +kernel
theorem dX1_init_43 : decode cX1_init 43 = .ok (.new 36, 3) := by decide +kernel
theorem dX1_init_46 : decode cX1_init 46 = .ok (.dup, 1) := by decide +kernel
theorem dX1_init_47 : decode cX1_init 47 = .ok (.invokespecial 38, 3) := by decide +kernel
theorem dX1_init_50 : decode cX1_init 50 = .ok (.putfield 39, 3) := by decide +kernel
theorem dX1_init_53 : decode cX1_init 53 = .ok (.iconst 0, 1) := by decide +kernel
theorem dX1_init_54 : decode cX1_init 54 = .ok (.istore_n 1, 1) := by decide +kernel
theorem dX1_init_55 : decode cX1_init 55 = .ok (.iload_n 1, 1) := by decide +kernel
theorem dX1_init_56 : decode cX1_init 56 = .ok (.bipush 6, 2) := by decide +kernel
theorem dX1_init_58 : decode cX1_init 58 = .ok (.if_icmp .ge 22, 3) := by decide +kernel
theorem dX1_init_61 : decode cX1_init 61 = .ok (.aload_n 0, 1) := by decide +kernel
theorem dX1_init_62 : decode cX1_init 62 = .ok (.getfield 11, 3) := by decide +kernel
theorem dX1_init_65 : decode cX1_init 65 = .ok (.iload_n 1, 1) := by decide +kernel
theorem dX1_init_66 : decode cX1_init 66 = .ok (.new 9, 3) := by decide +kernel
theorem dX1_init_69 : decode cX1_init 69 = .ok (.dup, 1) := by decide +kernel
theorem dX1_init_70 : decode cX1_init 70 = .ok (.invokespecial 43, 3) := by decide +kernel
theorem dX1_init_73 : decode cX1_init 73 = .ok (.aastore, 1) := by decide +kernel
theorem dX1_init_74 : decode cX1_init 74 = .ok (.iinc 1 1, 3) := by decide +kernel
theorem dX1_init_77 : decode cX1_init 77 = .ok (.goto (-22), 3) := by decide +kernel
theorem dX1_init_80 : decode cX1_init 80 = .ok (.iconst 0, 1) := by decide +kernel
theorem dX1_init_81 : decode cX1_init 81 = .ok (.istore_n 1, 1) := by decide +kernel
theorem dX1_init_82 : decode cX1_init 82 = .ok (.iload_n 1, 1) := by decide +kernel
theorem dX1_init_83 : decode cX1_init 83 = .ok (.bipush 6, 2) := by decide +kernel
theorem dX1_init_85 : decode cX1_init 85 = .ok (.if_icmp .ge 22, 3) := by decide +kernel
theorem dX1_init_88 : decode cX1_init 88 = .ok (.aload_n 0, 1) := by decide +kernel
theorem dX1_init_89 : decode cX1_init 89 = .ok (.getfield 19, 3) := by decide +kernel
theorem dX1_init_92 : decode cX1_init 92 = .ok (.iload_n 1, 1) := by decide +kernel
theorem dX1_init_93 : decode cX1_init 93 = .ok (.new 17, 3) := by decide +kernel
theorem dX1_init_96 : decode cX1_init 96 = .ok (.dup, 1) := by decide +kernel
theorem dX1_init_97 : decode cX1_init 97 = .ok (.invokespecial 44, 3) := by decide +kernel
theorem dX1_init_100 : decode cX1_init 100 = .ok (.aastore, 1) := by decide +kernel
theorem dX1_init_101 : decode cX1_init 101 = .ok (.iinc 1 1, 3) := by decide +kernel
theorem dX1_init_104 : decode cX1_init 104 = .ok (.goto (-22), 3) := by decide +kernel
theorem dX1_init_107 : decode cX1_init 107 = .ok (.iconst 0, 1) := by decide +kernel
theorem dX1_init_108 : decode cX1_init 108 = .ok (.istore_n 1, 1) := by decide +kernel
theorem dX1_init_109 : decode cX1_init 109 = .ok (.iload_n 1, 1) := by decide +kernel
theorem dX1_init_110 : decode cX1_init 110 = .ok (.bipush 6, 2) := by decide +kernel
theorem dX1_init_112 : decode cX1_init 112 = .ok (.if_icmp .ge 22, 3) := by decide +kernel
theorem dX1_init_115 : decode cX1_init 115 = .ok (.aload_n 0, 1) := by decide +kernel
theorem dX1_init_116 : decode cX1_init 116 = .ok (.getfield 25, 3) := by decide +kernel
theorem dX1_init_119 : decode cX1_init 119 = .ok (.iload_n 1, 1) := by decide +kernel
theorem dX1_init_120 : decode cX1_init 120 = .ok (.new 23, 3) := by decide +kernel
theorem dX1_init_123 : decode cX1_init 123 = .ok (.dup, 1) := by decide +kernel
theorem dX1_init_124 : decode cX1_init 124 = .ok (.invokespecial 45, 3) := by decide +kernel
theorem dX1_init_127 : decode cX1_init 127 = .ok (.aastore, 1) := by decide +kernel
theorem dX1_init_128 : decode cX1_init 128 = .ok (.iinc 1 1, 3) := by decide +kernel
theorem dX1_init_131 : decode cX1_init 131 = .ok (.goto (-22), 3) := by decide +kernel
theorem dX1_init_134 : decode cX1_init 134 = .ok (.aload_n 0, 1) := by decide +kernel
theorem dX1_init_135 : decode cX1_init 135 = .ok (.iconst 3, 1) := by decide +kernel
theorem dX1_init_136 : decode cX1_init 136 = .ok (.invokevirtual 46, 3) := by decide +kernel
theorem dX1_init_139 : decode cX1_init 139 = .ok (.return_, 1) := by decide +kernel
theorem dX1_startAnew_0 : decode cX1_startAnew 0 = .ok (.iconst 0, 1) := by decide +kernel
theorem dX1_startAnew_1 : decode cX1_startAnew 1 = .ok (.istore_n 2, 1) := by decide +kernel
theorem dX1_startAnew_2 : decode cX1_startAnew 2 = .ok (.iload_n 2, 1) := by decide +kernel
theorem dX1_startAnew_3 : decode cX1_startAnew 3 = .ok (.bipush 6, 2) := by decide +kernel
theorem dX1_startAnew_5 : decode cX1_startAnew 5 = .ok (.if_icmp .ge 18, 3) := by decide +kernel
theorem dX1_startAnew_8 : decode cX1_startAnew 8 = .ok (.aload_n 0, 1) := by decide +kernel
theorem dX1_startAnew_9 : decode cX1_startAnew 9 = .ok (.getfield 11, 3) := by decide +kernel
theorem dX1_startAnew_12 : decode cX1_startAnew 12 = .ok (.iload_n 2, 1) := by decide +kernel
theorem dX1_startAnew_13 : decode cX1_startAnew 13 = .ok (.aaload, 1) := by decide +kernel
theorem dX1_startAnew_14 : decode cX1_startAnew 14 = .ok (.invokevirtual 50, 3) := by decide +kernel
theorem dX1_startAnew_17 : decode cX1_startAnew 17 = .ok (.iinc 2 1, 3) := by decide +kernel
theorem dX1_startAnew_20 : decode cX1_startAnew 20 = .ok (.goto (-18), 3) := by decide +kernel
theorem dX1_startAnew_23 : decode cX1_startAnew 23 = .ok (.iconst 0, 1) := by decide +kernel
theorem dX1_startAnew_24 : decode cX1_startAnew 24 = .ok (.istore_n 2, 1) := by decide +kernel
theorem dX1_startAnew_25 : decode cX1_startAnew 25 = .ok (.iload_n 2, 1) := by decide +kernel
theorem dX1_startAnew_26 : decode cX1_startAnew 26 = .ok (.bipush 6, 2) := by decide +kernel
theorem dX1_startAnew_28 : decode cX1_startAnew 28 = .ok (.if_icmp .ge 18, 3) := by decide +kernel
theorem dX1_startAnew_31 : decode cX1_startAnew 31 = .ok (.aload_n 0, 1) := by decide +kernel
theorem dX1_startAnew_32 : decode cX1_startAnew 32 = .ok (.getfield 25, 3) := by decide +kernel
theorem dX1_startAnew_35 : decode cX1_startAnew 35 = .ok (.iload_n 2, 1) := by decide +kernel
theorem dX1_startAnew_36 : decode cX1_startAnew 36 = .ok (.aaload, 1) := by decide +kernel
theorem dX1_startAnew_37 : decode cX1_startAnew 37 = .ok (.invokevirtual 52, 3) := by decide +kernel
theorem dX1_startAnew_40 : decode cX1_startAnew 40 = .ok (.iinc 2 1, 3) := by decide +kernel
theorem dX1_startAnew_43 : decode cX1_startAnew 43 = .ok (.goto (-18), 3) := by decide +kernel
theorem dX1_startAnew_46 : decode cX1_startAnew 46 = .ok (.aload_n 0, 1) := by decide +kernel
theorem dX1_startAnew_47 : decode cX1_startAnew 47 = .ok (.getfield 32, 3) := by decide +kernel
theorem dX1_startAnew_50 : decode cX1_startAnew 50 = .ok (.iconst 0, 1) := by decide +kernel
theorem dX1_startAnew_51 : decode cX1_startAnew 51 = .ok (.putfield 53, 3) := by decide +kernel
theorem dX1_startAnew_54 : decode cX1_startAnew 54 = .ok (.aload_n 0, 1) := by decide +kernel
theorem dX1_startAnew_55 : decode cX1_startAnew 55 = .ok (.getfield 39, 3) := by decide +kernel
theorem dX1_startAnew_58 : decode cX1_startAnew 58 = .ok (.invokevirtual 57, 3) := by decide +kernel
theorem dX1_startAnew_61 : decode cX1_startAnew 61 = .ok (.aload_n 0, 1) := by decide +kernel
theorem dX1_startAnew_62 : decode cX1_startAnew 62 = .ok (.iload_n 1, 1) := by decide +kernel
theorem dX1_startAnew_63 : decode cX1_startAnew 63 = .ok (.putfield 58, 3) := by decide +kernel
theorem dX1_startAnew_66 : decode cX1_startAnew 66 = .ok (.aload_n 0, 1) := by decide +kernel
theorem dX1_startAnew_67 : decode cX1_startAnew 67 = .ok (.iconst 0, 1) := by decide +kernel
theorem dX1_startAnew_68 : decode cX1_startAnew 68 = .ok (.putfield 61, 3) := by decide +kernel
theorem dX1_startAnew_71 : decode cX1_startAnew 71 = .ok (.aload_n 0, 1) := by decide +kernel
theorem dX1_startAnew_72 : decode cX1_startAnew 72 = .ok (.iconst 0, 1) := by decide +kernel
theorem dX1_startAnew_73 : decode cX1_startAnew 73 = .ok (.putfield 64, 3) := by decide +kernel
theorem dX1_startAnew_76 : decode cX1_startAnew 76 = .ok (.aload_n 0, 1) := by decide +kernel
theorem dX1_startAnew_77 : decode cX1_startAnew 77 = .ok (.iconst 0, 1) := by decide +kernel
theorem dX1_startAnew_78 : decode cX1_startAnew 78 = .ok (.putfield 67, 3) := by decide +kernel
theorem dX1_startAnew_81 : decode cX1_startAnew 81 = .ok (.return_, 1) := by decide +kernel
theorem dX1_hasBuffer_0 : decode cX1_hasBuffer 0 = .ok (.iload_n 1, 1) := by decide +kernel
theorem dX1_hasBuffer_1 : decode cX1_hasBuffer 1 = .ok (.ifCond .lt 15, 3) := by decide +kernel
theorem dX1_hasBuffer_4 : decode cX1_hasBuffer 4 = .ok (.iload_n 1, 1) := by decide +kernel
theorem dX1_hasBuffer_5 : decode cX1_hasBuffer 5 = .ok (.aload_n 0, 1) := by decide +kernel
theorem dX1_hasBuffer_6 : decode cX1_hasBuffer 6 = .ok (.getfield 58, 3) := by decide +kernel
theorem dX1_hasBuffer_9 : decode cX1_hasBuffer 9 = .ok (.if_icmp .ge 7, 3) := by decide +kernel
theorem dX1_hasBuffer_12 : decode cX1_hasBuffer 12 = .ok (.iconst 1, 1) := by decide +kernel
theorem dX1_hasBuffer_13 : decode cX1_hasBuffer 13 = .ok (.goto 4, 3) := by decide +kernel
theorem dX1_hasBuffer_16 : decode cX1_hasBuffer 16 = .ok (.iconst 0, 1) := by decide +kernel
theorem dX1_hasBuffer_17 : decode cX1_hasBuffer 17 = .ok (.ireturn, 1) := by decide +kernel
theorem dX1_hasBufferOrNone_0 : decode cX1_hasBufferOrNone 0 = .ok (.iload_n 1, 1) := by decide +kernel
theorem dX1_hasBufferOrNone_1 : decode cX1_hasBufferOrNone 1 = .ok (.iconst (-1), 1) := by decide +kernel
theorem dX1_hasBufferOrNone_2 : decode cX1_hasBufferOrNone 2 = .ok (.if_icmp .eq 11, 3) := by decide +kernel
theorem dX1_hasBufferOrNone_5 : decode cX1_hasBufferOrNone 5 = .ok (.aload_n 0, 1) := by decide +kernel
theorem dX1_hasBufferOrNone_6 : decode cX1_hasBufferOrNone 6 = .ok (.iload_n 1, 1) := by decide +kernel
theorem dX1_hasBufferOrNone_7 : decode cX1_hasBufferOrNone 7 = .ok (.invokevirtual 70, 3) := by decide +kernel
theorem dX1_hasBufferOrNone_10 : decode cX1_hasBufferOrNone 10 = .ok (.ifCond .eq 7, 3) := by decide +kernel
theorem dX1_hasBufferOrNone_13 : decode cX1_hasBufferOrNone 13 = .ok (.iconst 1, 1) := by decide +kernel
theorem dX1_hasBufferOrNone_14 : decode cX1_hasBufferOrNone 14 = .ok (.goto 4, 3) := by decide +kernel
theorem dX1_hasBufferOrNone_17 : decode cX1_hasBufferOrNone 17 = .ok (.iconst 0, 1) := by decide +kernel
theorem dX1_hasBufferOrNone_18 : decode cX1_hasBufferOrNone 18 = .ok (.ireturn, 1) := by decide +kernel
theorem dX1_hasStation_0 : decode cX1_hasStation 0 = .ok (.iload_n 1, 1) := by decide +kernel
theorem dX1_hasStation_1 : decode cX1_hasStation 1 = .ok (.ifCond .lt 15, 3) := by decide +kernel
theorem dX1_hasStation_4 : decode cX1_hasStation 4 = .ok (.iload_n 1, 1) := by decide +kernel
theorem dX1_hasStation_5 : decode cX1_hasStation 5 = .ok (.aload_n 0, 1) := by decide +kernel
theorem dX1_hasStation_6 : decode cX1_hasStation 6 = .ok (.getfield 61, 3) := by decide +kernel
theorem dX1_hasStation_9 : decode cX1_hasStation 9 = .ok (.if_icmp .ge 7, 3) := by decide +kernel
theorem dX1_hasStation_12 : decode cX1_hasStation 12 = .ok (.iconst 1, 1) := by decide +kernel
theorem dX1_hasStation_13 : decode cX1_hasStation 13 = .ok (.goto 4, 3) := by decide +kernel
theorem dX1_hasStation_16 : decode cX1_hasStation 16 = .ok (.iconst 0, 1) := by decide +kernel
theorem dX1_hasStation_17 : decode cX1_hasStation 17 = .ok (.ireturn, 1) := by decide +kernel
theorem dX1_move_0 : decode cX1_move 0 = .ok (.aload_n 0, 1) := by decide +kernel
theorem dX1_move_1 : decode cX1_move 1 = .ok (.getfield 11, 3) := by decide +kernel
theorem dX1_move_4 : decode cX1_move 4 = .ok (.iload_n 1, 1) := by decide +kernel
theorem dX1_move_5 : decode cX1_move 5 = .ok (.iload_n 2, 1) := by decide +kernel
theorem dX1_move_6 : decode cX1_move 6 = .ok (.invokestatic 74, 3) := by decide +kernel
theorem dX1_move_9 : decode cX1_move 9 = .ok (.aaload, 1) := by decide +kernel
theorem dX1_move_10 : decode cX1_move 10 = .ok (.getfield 80, 3) := by decide +kernel
theorem dX1_move_13 : decode cX1_move 13 = .ok (.astore 4, 2) := by decide +kernel
theorem dX1_move_15 : decode cX1_move 15 = .ok (.aload_n 0, 1) := by decide +kernel
theorem dX1_move_16 : decode cX1_move 16 = .ok (.getfield 11, 3) := by decide +kernel
theorem dX1_move_19 : decode cX1_move 19 = .ok (.iload_n 1, 1) := by decide +kernel
theorem dX1_move_20 : decode cX1_move 20 = .ok (.iload_n 2, 1) := by decide +kernel
theorem dX1_move_21 : decode cX1_move 21 = .ok (.invokestatic 83, 3) := by decide +kernel
theorem dX1_move_24 : decode cX1_move 24 = .ok (.aaload, 1) := by decide +kernel
theorem dX1_move_25 : decode cX1_move 25 = .ok (.getfield 80, 3) := by decide +kernel
theorem dX1_move_28 : decode cX1_move 28 = .ok (.astore 5, 2) := by decide +kernel
theorem dX1_move_30 : decode cX1_move 30 = .ok (.aload 4, 2) := by decide +kernel
theorem dX1_move_32 : decode cX1_move 32 = .ok (.invokevirtual 86, 3) := by decide +kernel
theorem dX1_move_35 : decode cX1_move 35 = .ok (.aload 5, 2) := by decide +kernel
theorem dX1_move_37 : decode cX1_move 37 = .ok (.invokevirtual 86, 3) := by decide +kernel
theorem dX1_move_40 : decode cX1_move 40 = .ok (.iconst 0, 1) := by decide +kernel
theorem dX1_move_41 : decode cX1_move 41 = .ok (.istore 6, 2) := by decide +kernel
theorem dX1_move_43 : decode cX1_move 43 = .ok (.iload 6, 2) := by decide +kernel
theorem dX1_move_45 : decode cX1_move 45 = .ok (.iload_n 3, 1) := by decide +kernel
theorem dX1_move_46 : decode cX1_move 46 = .ok (.if_icmp .ge 27, 3) := by decide +kernel
theorem dX1_move_49 : decode cX1_move 49 = .ok (.aload_n 0, 1) := by decide +kernel
theorem dX1_move_50 : decode cX1_move 50 = .ok (.getfield 11, 3) := by decide +kernel
theorem dX1_move_53 : decode cX1_move 53 = .ok (.iload_n 1, 1) := by decide +kernel
theorem dX1_move_54 : decode cX1_move 54 = .ok (.aaload, 1) := by decide +kernel
theorem dX1_move_55 : decode cX1_move 55 = .ok (.aload_n 0, 1) := by decide +kernel
theorem dX1_move_56 : decode cX1_move 56 = .ok (.getfield 11, 3) := by decide +kernel
theorem dX1_move_59 : decode cX1_move 59 = .ok (.iload_n 2, 1) := by decide +kernel
theorem dX1_move_60 : decode cX1_move 60 = .ok (.aaload, 1) := by decide +kernel
theorem dX1_move_61 : decode cX1_move 61 = .ok (.invokestatic 89, 3) := by decide +kernel
theorem dX1_move_64 : decode cX1_move 64 = .ok (.ifCond .eq 9, 3) := by decide +kernel
theorem dX1_move_67 : decode cX1_move 67 = .ok (.iinc 6 1, 3) := by decide +kernel
theorem dX1_move_70 : decode cX1_move 70 = .ok (.goto (-27), 3) := by decide +kernel
theorem dX1_move_73 : decode cX1_move 73 = .ok (.aload 4, 2) := by decide +kernel
theorem dX1_move_75 : decode cX1_move 75 = .ok (.aload 5, 2) := by decide +kernel
theorem dX1_move_77 : decode cX1_move 77 = .ok (.iload 6, 2) := by decide +kernel
theorem dX1_move_79 : decode cX1_move 79 = .ok (.iload_n 3, 1) := by decide +kernel
theorem dX1_move_80 : decode cX1_move 80 = .ok (.if_icmp .ge 7, 3) := by decide +kernel
theorem dX1_move_83 : decode cX1_move 83 = .ok (.iconst 1, 1) := by decide +kernel
theorem dX1_move_84 : decode cX1_move 84 = .ok (.goto 4, 3) := by decide +kernel
theorem dX1_move_87 : decode cX1_move 87 = .ok (.iconst 0, 1) := by decide +kernel
theorem dX1_move_88 : decode cX1_move 88 = .ok (.invokestatic 93, 3) := by decide +kernel
theorem dX1_move_91 : decode cX1_move 91 = .ok (.iload 6, 2) := by decide +kernel
theorem dX1_move_93 : decode cX1_move 93 = .ok (.ireturn, 1) := by decide +kernel
theorem dX1_moveOne_0 : decode cX1_moveOne 0 = .ok (.aload_n 0, 1) := by decide +kernel
theorem dX1_moveOne_1 : decode cX1_moveOne 1 = .ok (.iconst (-1), 1) := by decide +kernel
theorem dX1_moveOne_2 : decode cX1_moveOne 2 = .ok (.invokevirtual 97, 3) := by decide +kernel
theorem dX1_moveOne_5 : decode cX1_moveOne 5 = .ok (.istore_n 2, 1) := by decide +kernel
theorem dX1_moveOne_6 : decode cX1_moveOne 6 = .ok (.iload_n 2, 1) := by decide +kernel
theorem dX1_moveOne_7 : decode cX1_moveOne 7 = .ok (.bipush (-5), 2) := by decide +kernel
theorem dX1_moveOne_9 : decode cX1_moveOne 9 = .ok (.if_icmp .ne 5, 3) := by decide +kernel
theorem dX1_moveOne_12 : decode cX1_moveOne 12 = .ok (.iconst 0, 1) := by decide +kernel
theorem dX1_moveOne_13 : decode cX1_moveOne 13 = .ok (.ireturn, 1) := by decide +kernel
theorem dX1_moveOne_14 : decode cX1_moveOne 14 = .ok (.aload_n 1, 1) := by decide +kernel
theorem dX1_moveOne_15 : decode cX1_moveOne 15 = .ok (.iload_n 2, 1) := by decide +kernel
theorem dX1_moveOne_16 : decode cX1_moveOne 16 = .ok (.iconst (-1), 1) := by decide +kernel
theorem dX1_moveOne_17 : decode cX1_moveOne 17 = .ok (.invokevirtual 101, 3) := by decide +kernel
theorem dX1_moveOne_20 : decode cX1_moveOne 20 = .ok (.ifCond .ne 13, 3) := by decide +kernel
theorem dX1_moveOne_23 : decode cX1_moveOne 23 = .ok (.aload_n 0, 1) := by decide +kernel
theorem dX1_moveOne_24 : decode cX1_moveOne 24 = .ok (.getfield 105, 3) := by decide +kernel
theorem dX1_moveOne_27 : decode cX1_moveOne 27 = .ok (.iload_n 2, 1) := by decide +kernel
theorem dX1_moveOne_28 : decode cX1_moveOne 28 = .ok (.invokevirtual 108, 3) := by decide +kernel
theorem dX1_moveOne_31 : decode cX1_moveOne 31 = .ok (.iconst 0, 1) := by decide +kernel
theorem dX1_moveOne_32 : decode cX1_moveOne 32 = .ok (.ireturn, 1) := by decide +kernel
theorem dX1_moveOne_33 : decode cX1_moveOne 33 = .ok (.iconst 1, 1) := by decide +kernel
theorem dX1_moveOne_34 : decode cX1_moveOne 34 = .ok (.ireturn, 1) := by decide +kernel
theorem dX1_leaveBoth_0 : decode cX1_leaveBoth 0 = .ok (.iload_n 2, 1) := by decide +kernel
theorem dX1_leaveBoth_1 : decode cX1_leaveBoth 1 = .ok (.ifCond .eq 14, 3) := by decide +kernel
theorem dX1_leaveBoth_4 : decode cX1_leaveBoth 4 = .ok (.aload_n 1, 1) := by decide +kernel
theorem dX1_leaveBoth_5 : decode cX1_leaveBoth 5 = .ok (.invokevirtual 111, 3) := by decide +kernel
theorem dX1_leaveBoth_8 : decode cX1_leaveBoth 8 = .ok (.aload_n 0, 1) := by decide +kernel
theorem dX1_leaveBoth_9 : decode cX1_leaveBoth 9 = .ok (.invokevirtual 111, 3) := by decide +kernel
theorem dX1_leaveBoth_12 : decode cX1_leaveBoth 12 = .ok (.goto 11, 3) := by decide +kernel
theorem dX1_leaveBoth_15 : decode cX1_leaveBoth 15 = .ok (.aload_n 1, 1) := by decide +kernel
theorem dX1_leaveBoth_16 : decode cX1_leaveBoth 16 = .ok (.invokevirtual 114, 3) := by decide +kernel
theorem dX1_leaveBoth_19 : decode cX1_leaveBoth 19 = .ok (.aload_n 0, 1) := by decide +kernel
theorem dX1_leaveBoth_20 : decode cX1_leaveBoth 20 = .ok (.invokevirtual 114, 3) := by decide +kernel
theorem dX1_leaveBoth_23 : decode cX1_leaveBoth 23 = .ok (.return_, 1) := by decide +kernel
theorem dX1_tick_0 : decode cX1_tick 0 = .ok (.aload_n 0, 1) := by decide +kernel
theorem dX1_tick_1 : decode cX1_tick 1 = .ok (.dup, 1) := by decide +kernel
theorem dX1_tick_2 : decode cX1_tick 2 = .ok (.getfield 64, 3) := by decide +kernel
theorem dX1_tick_5 : decode cX1_tick 5 = .ok (.iconst 1, 1) := by decide +kernel
theorem dX1_tick_6 : decode cX1_tick 6 = .ok (.iadd, 1) := by decide +kernel
theorem dX1_tick_7 : decode cX1_tick 7 = .ok (.putfield 64, 3) := by decide +kernel
theorem dX1_tick_10 : decode cX1_tick 10 = .ok (.iconst 0, 1) := by decide +kernel
theorem dX1_tick_11 : decode cX1_tick 11 = .ok (.istore_n 1, 1) := by decide +kernel
theorem dX1_tick_12 : decode cX1_tick 12 = .ok (.iconst 0, 1) := by decide +kernel
theorem dX1_tick_13 : decode cX1_tick 13 = .ok (.istore_n 2, 1) := by decide +kernel
theorem dX1_tick_14 : decode cX1_tick 14 = .ok (.iload_n 2, 1) := by decide +kernel
theorem dX1_tick_15 : decode cX1_tick 15 = .ok (.aload_n 0, 1) := by decide +kernel
theorem dX1_tick_16 : decode cX1_tick 16 = .ok (.getfield 61, 3) := by decide +kernel
theorem dX1_tick_19 : decode cX1_tick 19 = .ok (.if_icmp .ge 22, 3) := by decide +kernel
theorem dX1_tick_22 : decode cX1_tick 22 = .ok (.iload_n 1, 1) := by decide +kernel
theorem dX1_tick_23 : decode cX1_tick 23 = .ok (.aload_n 0, 1) := by decide +kernel
theorem dX1_tick_24 : decode cX1_tick 24 = .ok (.aload_n 0, 1) := by decide +kernel
theorem dX1_tick_25 : decode cX1_tick 25 = .ok (.getfield 19, 3) := by decide +kernel
theorem dX1_tick_28 : decode cX1_tick 28 = .ok (.iload_n 2, 1) := by decide +kernel
theorem dX1_tick_29 : decode cX1_tick 29 = .ok (.aaload, 1) := by decide +kernel
theorem dX1_tick_30 : decode cX1_tick 30 = .ok (.invokevirtual 117, 3) := by decide +kernel
theorem dX1_tick_33 : decode cX1_tick 33 = .ok (.iadd, 1) := by decide +kernel
theorem dX1_tick_34 : decode cX1_tick 34 = .ok (.istore_n 1, 1) := by decide +kernel
theorem dX1_tick_35 : decode cX1_tick 35 = .ok (.iinc 2 1, 3) := by decide +kernel
theorem dX1_tick_38 : decode cX1_tick 38 = .ok (.goto (-24), 3) := by decide +kernel
theorem dX1_tick_41 : decode cX1_tick 41 = .ok (.iload_n 1, 1) := by decide +kernel
theorem dX1_tick_42 : decode cX1_tick 42 = .ok (.ireturn, 1) := by decide +kernel
theorem dX1_tickStation_0 : decode cX1_tickStation 0 = .ok (.aload_n 0, 1) := by decide +kernel
theorem dX1_tickStation_1 : decode cX1_tickStation 1 = .ok (.aload_n 1, 1) := by decide +kernel
theorem dX1_tickStation_2 : decode cX1_tickStation 2 = .ok (.getfield 121, 3) := by decide +kernel
theorem dX1_tickStation_5 : decode cX1_tickStation 5 = .ok (.invokevirtual 70, 3) := by decide +kernel
theorem dX1_tickStation_8 : decode cX1_tickStation 8 = .ok (.ifCond .ne 19, 3) := by decide +kernel
theorem dX1_tickStation_11 : decode cX1_tickStation 11 = .ok (.aload_n 0, 1) := by decide +kernel
theorem dX1_tickStation_12 : decode cX1_tickStation 12 = .ok (.dup, 1) := by decide +kernel
theorem dX1_tickStation_13 : decode cX1_tickStation 13 = .ok (.getfield 67, 3) := by decide +kernel
theorem dX1_tickStation_16 : decode cX1_tickStation 16 = .ok (.iconst 1, 1) := by decide +kernel
theorem dX1_tickStation_17 : decode cX1_tickStation 17 = .ok (.iadd, 1) := by decide +kernel
theorem dX1_tickStation_18 : decode cX1_tickStation 18 = .ok (.putfield 67, 3) := by decide +kernel
theorem dX1_tickStation_21 : decode cX1_tickStation 21 = .ok (.aload_n 0, 1) := by decide +kernel
theorem dX1_tickStation_22 : decode cX1_tickStation 22 = .ok (.aload_n 1, 1) := by decide +kernel
theorem dX1_tickStation_23 : decode cX1_tickStation 23 = .ok (.invokevirtual 124, 3) := by decide +kernel
theorem dX1_tickStation_26 : decode cX1_tickStation 26 = .ok (.ireturn, 1) := by decide +kernel
theorem dX1_tickStation_27 : decode cX1_tickStation 27 = .ok (.aload_n 0, 1) := by decide +kernel
theorem dX1_tickStation_28 : decode cX1_tickStation 28 = .ok (.getfield 11, 3) := by decide +kernel
theorem dX1_tickStation_31 : decode cX1_tickStation 31 = .ok (.aload_n 1, 1) := by decide +kernel
theorem dX1_tickStation_32 : decode cX1_tickStation 32 = .ok (.getfield 121, 3) := by decide +kernel
theorem dX1_tickStation_35 : decode cX1_tickStation 35 = .ok (.aaload, 1) := by decide +kernel
theorem dX1_tickStation_36 : decode cX1_tickStation 36 = .ok (.getfield 80, 3) := by decide +kernel
theorem dX1_tickStation_39 : decode cX1_tickStation 39 = .ok (.astore_n 2, 1) := by decide +kernel
theorem dX1_tickStation_40 : decode cX1_tickStation 40 = .ok (.aload_n 2, 1) := by decide +kernel
theorem dX1_tickStation_41 : decode cX1_tickStation 41 = .ok (.invokevirtual 86, 3) := by decide +kernel
theorem dX1_tickStation_44 : decode cX1_tickStation 44 = .ok (.aload_n 0, 1) := by decide +kernel
theorem dX1_tickStation_45 : decode cX1_tickStation 45 = .ok (.aload_n 1, 1) := by decide +kernel
theorem dX1_tickStation_46 : decode cX1_tickStation 46 = .ok (.invokevirtual 124, 3) := by decide +kernel
theorem dX1_tickStation_49 : decode cX1_tickStation 49 = .ok (.istore_n 3, 1) := by decide +kernel
theorem dX1_tickStation_50 : decode cX1_tickStation 50 = .ok (.aload_n 2, 1) := by decide +kernel
theorem dX1_tickStation_51 : decode cX1_tickStation 51 = .ok (.invokevirtual 114, 3) := by decide +kernel
theorem dX1_tickStation_54 : decode cX1_tickStation 54 = .ok (.iload_n 3, 1) := by decide +kernel
theorem dX1_tickStation_55 : decode cX1_tickStation 55 = .ok (.ireturn, 1) := by decide +kernel
theorem dX1_work_0 : decode cX1_work 0 = .ok (.aload_n 1, 1) := by decide +kernel
theorem dX1_work_1 : decode cX1_work 1 = .ok (.invokevirtual 127, 3) := by decide +kernel
theorem dX1_work_4 : decode cX1_work 4 = .ok (.aload_n 1, 1) := by decide +kernel
theorem dX1_work_5 : decode cX1_work 5 = .ok (.getfield 130, 3) := by decide +kernel
theorem dX1_work_8 : decode cX1_work 8 = .ok (.iconst 2, 1) := by decide +kernel
theorem dX1_work_9 : decode cX1_work 9 = .ok (.if_icmp .ne 11, 3) := by decide +kernel
theorem dX1_work_12 : decode cX1_work 12 = .ok (.aload_n 0, 1) := by decide +kernel
theorem dX1_work_13 : decode cX1_work 13 = .ok (.aload_n 1, 1) := by decide +kernel
theorem dX1_work_14 : decode cX1_work 14 = .ok (.invokevirtual 133, 3) := by decide +kernel
theorem dX1_work_17 : decode cX1_work 17 = .ok (.goto 4, 3) := by decide +kernel
theorem dX1_work_20 : decode cX1_work 20 = .ok (.iconst 0, 1) := by decide +kernel
theorem dX1_work_21 : decode cX1_work 21 = .ok (.istore_n 2, 1) := by decide +kernel
theorem dX1_work_22 : decode cX1_work 22 = .ok (.aload_n 1, 1) := by decide +kernel
theorem dX1_work_23 : decode cX1_work 23 = .ok (.getfield 130, 3) := by decide +kernel
theorem dX1_work_26 : decode cX1_work 26 = .ok (.ifCond .ne 57, 3) := by decide +kernel
theorem dX1_work_29 : decode cX1_work 29 = .ok (.aload_n 0, 1) := by decide +kernel
theorem dX1_work_30 : decode cX1_work 30 = .ok (.aload_n 1, 1) := by decide +kernel
theorem dX1_work_31 : decode cX1_work 31 = .ok (.getfield 136, 3) := by decide +kernel
theorem dX1_work_34 : decode cX1_work 34 = .ok (.invokevirtual 70, 3) := by decide +kernel
theorem dX1_work_37 : decode cX1_work 37 = .ok (.ifCond .eq 46, 3) := by decide +kernel
theorem dX1_work_40 : decode cX1_work 40 = .ok (.aload_n 1, 1) := by decide +kernel
theorem dX1_work_41 : decode cX1_work 41 = .ok (.aload_n 0, 1) := by decide +kernel
theorem dX1_work_42 : decode cX1_work 42 = .ok (.aload_n 1, 1) := by decide +kernel
theorem dX1_work_43 : decode cX1_work 43 = .ok (.getfield 139, 3) := by decide +kernel
theorem dX1_work_46 : decode cX1_work 46 = .ok (.invokevirtual 70, 3) := by decide +kernel
theorem dX1_work_49 : decode cX1_work 49 = .ok (.ifCond .eq 18, 3) := by decide +kernel
theorem dX1_work_52 : decode cX1_work 52 = .ok (.aload_n 0, 1) := by decide +kernel
theorem dX1_work_53 : decode cX1_work 53 = .ok (.aload_n 1, 1) := by decide +kernel
theorem dX1_work_54 : decode cX1_work 54 = .ok (.getfield 136, 3) := by decide +kernel
theorem dX1_work_57 : decode cX1_work 57 = .ok (.aload_n 1, 1) := by decide +kernel
theorem dX1_work_58 : decode cX1_work 58 = .ok (.getfield 139, 3) := by decide +kernel
theorem dX1_work_61 : decode cX1_work 61 = .ok (.invokevirtual 142, 3) := by decide +kernel
theorem dX1_work_64 : decode cX1_work 64 = .ok (.goto 16, 3) := by decide +kernel
theorem dX1_work_67 : decode cX1_work 67 = .ok (.aload_n 0, 1) := by decide +kernel
theorem dX1_work_68 : decode cX1_work 68 = .ok (.getfield 11, 3) := by decide +kernel
theorem dX1_work_71 : decode cX1_work 71 = .ok (.aload_n 1, 1) := by decide +kernel
theorem dX1_work_72 : decode cX1_work 72 = .ok (.getfield 136, 3) := by decide +kernel
theorem dX1_work_75 : decode cX1_work 75 = .ok (.aaload, 1) := by decide +kernel
theorem dX1_work_76 : decode cX1_work 76 = .ok (.iconst (-1), 1) := by decide +kernel
theorem dX1_work_77 : decode cX1_work 77 = .ok (.invokevirtual 97, 3) := by decide +kernel
theorem dX1_work_80 : decode cX1_work 80 = .ok (.invokevirtual 145, 3) := by decide +kernel
theorem dX1_work_83 : decode cX1_work 83 = .ok (.iload_n 2, 1) := by decide +kernel
theorem dX1_work_84 : decode cX1_work 84 = .ok (.ireturn, 1) := by decide +kernel
theorem dX1_deliver_0 : decode cX1_deliver 0 = .ok (.aload_n 0, 1) := by decide +kernel
theorem dX1_deliver_1 : decode cX1_deliver 1 = .ok (.aload_n 1, 1) := by decide +kernel
theorem dX1_deliver_2 : decode cX1_deliver 2 = .ok (.getfield 148, 3) := by decide +kernel
theorem dX1_deliver_5 : decode cX1_deliver 5 = .ok (.invokevirtual 70, 3) := by decide +kernel
theorem dX1_deliver_8 : decode cX1_deliver 8 = .ok (.ifCond .eq 23, 3) := by decide +kernel
theorem dX1_deliver_11 : decode cX1_deliver 11 = .ok (.aload_n 0, 1) := by decide +kernel
theorem dX1_deliver_12 : decode cX1_deliver 12 = .ok (.getfield 11, 3) := by decide +kernel
theorem dX1_deliver_15 : decode cX1_deliver 15 = .ok (.aload_n 1, 1) := by decide +kernel
theorem dX1_deliver_16 : decode cX1_deliver 16 = .ok (.getfield 148, 3) := by decide +kernel
theorem dX1_deliver_19 : decode cX1_deliver 19 = .ok (.aaload, 1) := by decide +kernel
theorem dX1_deliver_20 : decode cX1_deliver 20 = .ok (.aload_n 1, 1) := by decide +kernel
theorem dX1_deliver_21 : decode cX1_deliver 21 = .ok (.getfield 151, 3) := by decide +kernel
theorem dX1_deliver_24 : decode cX1_deliver 24 = .ok (.iconst (-1), 1) := by decide +kernel
theorem dX1_deliver_25 : decode cX1_deliver 25 = .ok (.invokevirtual 101, 3) := by decide +kernel
theorem dX1_deliver_28 : decode cX1_deliver 28 = .ok (.ifCond .ne 15, 3) := by decide +kernel
theorem dX1_deliver_31 : decode cX1_deliver 31 = .ok (.aload_n 1, 1) := by decide +kernel
theorem dX1_deliver_32 : decode cX1_deliver 32 = .ok (.dup, 1) := by decide +kernel
theorem dX1_deliver_33 : decode cX1_deliver 33 = .ok (.getfield 154, 3) := by decide +kernel
theorem dX1_deliver_36 : decode cX1_deliver 36 = .ok (.iconst 1, 1) := by decide +kernel
theorem dX1_deliver_37 : decode cX1_deliver 37 = .ok (.iadd, 1) := by decide +kernel
theorem dX1_deliver_38 : decode cX1_deliver 38 = .ok (.putfield 154, 3) := by decide +kernel
theorem dX1_deliver_41 : decode cX1_deliver 41 = .ok (.iconst 0, 1) := by decide +kernel
theorem dX1_deliver_42 : decode cX1_deliver 42 = .ok (.ireturn, 1) := by decide +kernel
theorem dX1_deliver_43 : decode cX1_deliver 43 = .ok (.aload_n 1, 1) := by decide +kernel
theorem dX1_deliver_44 : decode cX1_deliver 44 = .ok (.invokevirtual 157, 3) := by decide +kernel
theorem dX1_deliver_47 : decode cX1_deliver 47 = .ok (.aload_n 1, 1) := by decide +kernel
theorem dX1_deliver_48 : decode cX1_deliver 48 = .ok (.dup, 1) := by decide +kernel
theorem dX1_deliver_49 : decode cX1_deliver 49 = .ok (.getfield 160, 3) := by decide +kernel
theorem dX1_deliver_52 : decode cX1_deliver 52 = .ok (.iconst 1, 1) := by decide +kernel
theorem dX1_deliver_53 : decode cX1_deliver 53 = .ok (.iadd, 1) := by decide +kernel
theorem dX1_deliver_54 : decode cX1_deliver 54 = .ok (.putfield 160, 3) := by decide +kernel
theorem dX1_deliver_57 : decode cX1_deliver 57 = .ok (.iconst 1, 1) := by decide +kernel
theorem dX1_deliver_58 : decode cX1_deliver 58 = .ok (.ireturn, 1) := by decide +kernel
theorem dX1_takePair_0 : decode cX1_takePair 0 = .ok (.aload_n 0, 1) := by decide +kernel
theorem dX1_takePair_1 : decode cX1_takePair 1 = .ok (.getfield 11, 3) := by decide +kernel
theorem dX1_takePair_4 : decode cX1_takePair 4 = .ok (.iload_n 1, 1) := by decide +kernel
theorem dX1_takePair_5 : decode cX1_takePair 5 = .ok (.iload_n 2, 1) := by decide +kernel
theorem dX1_takePair_6 : decode cX1_takePair 6 = .ok (.invokestatic 74, 3) := by decide +kernel
theorem dX1_takePair_9 : decode cX1_takePair 9 = .ok (.aaload, 1) := by decide +kernel
theorem dX1_takePair_10 : decode cX1_takePair 10 = .ok (.astore_n 3, 1) := by decide +kernel
theorem dX1_takePair_11 : decode cX1_takePair 11 = .ok (.aload_n 0, 1) := by decide +kernel
theorem dX1_takePair_12 : decode cX1_takePair 12 = .ok (.getfield 11, 3) := by decide +kernel
theorem dX1_takePair_15 : decode cX1_takePair 15 = .ok (.iload_n 1, 1) := by decide +kernel
theorem dX1_takePair_16 : decode cX1_takePair 16 = .ok (.iload_n 2, 1) := by decide +kernel
theorem dX1_takePair_17 : decode cX1_takePair 17 = .ok (.invokestatic 83, 3) := by decide +kernel
theorem dX1_takePair_20 : decode cX1_takePair 20 = .ok (.aaload, 1) := by decide +kernel
theorem dX1_takePair_21 : decode cX1_takePair 21 = .ok (.astore 4, 2) := by decide +kernel
theorem dX1_takePair_23 : decode cX1_takePair 23 = .ok (.aload_n 3, 1) := by decide +kernel
theorem dX1_takePair_24 : decode cX1_takePair 24 = .ok (.getfield 80, 3) := by decide +kernel
theorem dX1_takePair_27 : decode cX1_takePair 27 = .ok (.invokevirtual 86, 3) := by decide +kernel
theorem dX1_takePair_30 : decode cX1_takePair 30 = .ok (.aload 4, 2) := by decide +kernel
theorem dX1_takePair_32 : decode cX1_takePair 32 = .ok (.getfield 80, 3) := by decide +kernel
theorem dX1_takePair_35 : decode cX1_takePair 35 = .ok (.invokevirtual 86, 3) := by decide +kernel
theorem dX1_takePair_38 : decode cX1_takePair 38 = .ok (.iload_n 1, 1) := by decide +kernel
theorem dX1_takePair_39 : decode cX1_takePair 39 = .ok (.iload_n 2, 1) := by decide +kernel
theorem dX1_takePair_40 : decode cX1_takePair 40 = .ok (.if_icmp .ne 7, 3) := by decide +kernel
theorem dX1_takePair_43 : decode cX1_takePair 43 = .ok (.iconst 2, 1) := by decide +kernel
theorem dX1_takePair_44 : decode cX1_takePair 44 = .ok (.goto 4, 3) := by decide +kernel
theorem dX1_takePair_47 : decode cX1_takePair 47 = .ok (.iconst 1, 1) := by decide +kernel
theorem dX1_takePair_48 : decode cX1_takePair 48 = .ok (.istore 5, 2) := by decide +kernel
theorem dX1_takePair_50 : decode cX1_takePair 50 = .ok (.bipush (-5), 2) := by decide +kernel
theorem dX1_takePair_52 : decode cX1_takePair 52 = .ok (.istore 6, 2) := by decide +kernel
theorem dX1_takePair_54 : decode cX1_takePair 54 = .ok (.aload_n 3, 1) := by decide +kernel
theorem dX1_takePair_55 : decode cX1_takePair 55 = .ok (.iload 5, 2) := by decide +kernel
theorem dX1_takePair_57 : decode cX1_takePair 57 = .ok (.invokevirtual 163, 3) := by decide +kernel
theorem dX1_takePair_60 : decode cX1_takePair 60 = .ok (.ifCond .eq 25, 3) := by decide +kernel
theorem dX1_takePair_63 : decode cX1_takePair 63 = .ok (.aload 4, 2) := by decide +kernel
theorem dX1_takePair_65 : decode cX1_takePair 65 = .ok (.iload 5, 2) := by decide +kernel
theorem dX1_takePair_67 : decode cX1_takePair 67 = .ok (.invokevirtual 163, 3) := by decide +kernel
theorem dX1_takePair_70 : decode cX1_takePair 70 = .ok (.ifCond .eq 15, 3) := by decide +kernel
theorem dX1_takePair_73 : decode cX1_takePair 73 = .ok (.aload_n 3, 1) := by decide +kernel
theorem dX1_takePair_74 : decode cX1_takePair 74 = .ok (.invokevirtual 166, 3) := by decide +kernel
theorem dX1_takePair_77 : decode cX1_takePair 77 = .ok (.aload 4, 2) := by decide +kernel
theorem dX1_takePair_79 : decode cX1_takePair 79 = .ok (.invokevirtual 166, 3) := by decide +kernel
theorem dX1_takePair_82 : decode cX1_takePair 82 = .ok (.iadd, 1) := by decide +kernel
theorem dX1_takePair_83 : decode cX1_takePair 83 = .ok (.istore 6, 2) := by decide +kernel
theorem dX1_takePair_85 : decode cX1_takePair 85 = .ok (.aload_n 3, 1) := by decide +kernel
theorem dX1_takePair_86 : decode cX1_takePair 86 = .ok (.getfield 80, 3) := by decide +kernel
theorem dX1_takePair_89 : decode cX1_takePair 89 = .ok (.aload 4, 2) := by decide +kernel
theorem dX1_takePair_91 : decode cX1_takePair 91 = .ok (.getfield 80, 3) := by decide +kernel
theorem dX1_takePair_94 : decode cX1_takePair 94 = .ok (.iload 6, 2) := by decide +kernel
theorem dX1_takePair_96 : decode cX1_takePair 96 = .ok (.bipush (-5), 2) := by decide +kernel
theorem dX1_takePair_98 : decode cX1_takePair 98 = .ok (.if_icmp .ne 7, 3) := by decide +kernel
theorem dX1_takePair_101 : decode cX1_takePair 101 = .ok (.iconst 1, 1) := by decide +kernel
theorem dX1_takePair_102 : decode cX1_takePair 102 = .ok (.goto 4, 3) := by decide +kernel
theorem dX1_takePair_105 : decode cX1_takePair 105 = .ok (.iconst 0, 1) := by decide +kernel
theorem dX1_takePair_106 : decode cX1_takePair 106 = .ok (.invokestatic 93, 3) := by decide +kernel
theorem dX1_takePair_109 : decode cX1_takePair 109 = .ok (.iload 6, 2) := by decide +kernel
theorem dX1_takePair_111 : decode cX1_takePair 111 = .ok (.ireturn, 1) := by decide +kernel
theorem dX1_tryWish_0 : decode cX1_tryWish 0 = .ok (.iload_n 1, 1) := by decide +kernel
theorem dX1_tryWish_1 : decode cX1_tryWish 1 = .ok (.invokestatic 170, 3) := by decide +kernel
theorem dX1_tryWish_4 : decode cX1_tryWish 4 = .ok (.ifCond .eq 19, 3) := by decide +kernel
theorem dX1_tryWish_7 : decode cX1_tryWish 7 = .ok (.aload_n 0, 1) := by decide +kernel
theorem dX1_tryWish_8 : decode cX1_tryWish 8 = .ok (.aload_n 0, 1) := by decide +kernel
theorem dX1_tryWish_9 : decode cX1_tryWish 9 = .ok (.getfield 25, 3) := by decide +kernel
theorem dX1_tryWish_12 : decode cX1_tryWish 12 = .ok (.iload_n 1, 1) := by decide +kernel
theorem dX1_tryWish_13 : decode cX1_tryWish 13 = .ok (.aaload, 1) := by decide +kernel
theorem dX1_tryWish_14 : decode cX1_tryWish 14 = .ok (.getfield 173, 3) := by decide +kernel
theorem dX1_tryWish_17 : decode cX1_tryWish 17 = .ok (.invokevirtual 70, 3) := by decide +kernel
theorem dX1_tryWish_20 : decode cX1_tryWish 20 = .ok (.ifCond .ne 5, 3) := by decide +kernel
theorem dX1_tryWish_23 : decode cX1_tryWish 23 = .ok (.iconst 0, 1) := by decide +kernel
theorem dX1_tryWish_24 : decode cX1_tryWish 24 = .ok (.ireturn, 1) := by decide +kernel
theorem dX1_tryWish_25 : decode cX1_tryWish 25 = .ok (.aload_n 0, 1) := by decide +kernel
theorem dX1_tryWish_26 : decode cX1_tryWish 26 = .ok (.getfield 25, 3) := by decide +kernel
theorem dX1_tryWish_29 : decode cX1_tryWish 29 = .ok (.iload_n 1, 1) := by decide +kernel
theorem dX1_tryWish_30 : decode cX1_tryWish 30 = .ok (.aaload, 1) := by decide +kernel
theorem dX1_tryWish_31 : decode cX1_tryWish 31 = .ok (.astore_n 2, 1) := by decide +kernel
theorem dX1_tryWish_32 : decode cX1_tryWish 32 = .ok (.aload_n 0, 1) := by decide +kernel
theorem dX1_tryWish_33 : decode cX1_tryWish 33 = .ok (.getfield 11, 3) := by decide +kernel
theorem dX1_tryWish_36 : decode cX1_tryWish 36 = .ok (.aload_n 2, 1) := by decide +kernel
theorem dX1_tryWish_37 : decode cX1_tryWish 37 = .ok (.getfield 173, 3) := by decide +kernel
theorem dX1_tryWish_40 : decode cX1_tryWish 40 = .ok (.aaload, 1) := by decide +kernel
theorem dX1_tryWish_41 : decode cX1_tryWish 41 = .ok (.astore_n 3, 1) := by decide +kernel
theorem dX1_tryWish_42 : decode cX1_tryWish 42 = .ok (.aload_n 2, 1) := by decide +kernel
theorem dX1_tryWish_43 : decode cX1_tryWish 43 = .ok (.getfield 176, 3) := by decide +kernel
theorem dX1_tryWish_46 : decode cX1_tryWish 46 = .ok (.ifCond .ne 17, 3) := by decide +kernel
theorem dX1_tryWish_49 : decode cX1_tryWish 49 = .ok (.aload_n 3, 1) := by decide +kernel
theorem dX1_tryWish_50 : decode cX1_tryWish 50 = .ok (.aload_n 2, 1) := by decide +kernel
theorem dX1_tryWish_51 : decode cX1_tryWish 51 = .ok (.getfield 179, 3) := by decide +kernel
theorem dX1_tryWish_54 : decode cX1_tryWish 54 = .ok (.iload_n 1, 1) := by decide +kernel
theorem dX1_tryWish_55 : decode cX1_tryWish 55 = .ok (.invokevirtual 101, 3) := by decide +kernel
theorem dX1_tryWish_58 : decode cX1_tryWish 58 = .ok (.ifCond .ne 27, 3) := by decide +kernel
theorem dX1_tryWish_61 : decode cX1_tryWish 61 = .ok (.iconst 0, 1) := by decide +kernel
theorem dX1_tryWish_62 : decode cX1_tryWish 62 = .ok (.ireturn, 1) := by decide +kernel
theorem dX1_tryWish_63 : decode cX1_tryWish 63 = .ok (.aload_n 3, 1) := by decide +kernel
theorem dX1_tryWish_64 : decode cX1_tryWish 64 = .ok (.iload_n 1, 1) := by decide +kernel
theorem dX1_tryWish_65 : decode cX1_tryWish 65 = .ok (.invokevirtual 97, 3) := by decide +kernel
theorem dX1_tryWish_68 : decode cX1_tryWish 68 = .ok (.istore 4, 2) := by decide +kernel
theorem dX1_tryWish_70 : decode cX1_tryWish 70 = .ok (.iload 4, 2) := by decide +kernel
theorem dX1_tryWish_72 : decode cX1_tryWish 72 = .ok (.bipush (-5), 2) := by decide +kernel
theorem dX1_tryWish_74 : decode cX1_tryWish 74 = .ok (.if_icmp .ne 5, 3) := by decide +kernel
theorem dX1_tryWish_77 : decode cX1_tryWish 77 = .ok (.iconst 0, 1) := by decide +kernel
theorem dX1_tryWish_78 : decode cX1_tryWish 78 = .ok (.ireturn, 1) := by decide +kernel
theorem dX1_tryWish_79 : decode cX1_tryWish 79 = .ok (.aload_n 2, 1) := by decide +kernel
theorem dX1_tryWish_80 : decode cX1_tryWish 80 = .ok (.iload 4, 2) := by decide +kernel
theorem dX1_tryWish_82 : decode cX1_tryWish 82 = .ok (.putfield 180, 3) := by decide +kernel
theorem dX1_tryWish_85 : decode cX1_tryWish 85 = .ok (.aload_n 2, 1) := by decide +kernel
theorem dX1_tryWish_86 : decode cX1_tryWish 86 = .ok (.invokevirtual 183, 3) := by decide +kernel
theorem dX1_tryWish_89 : decode cX1_tryWish 89 = .ok (.iconst 1, 1) := by decide +kernel
theorem dX1_tryWish_90 : decode cX1_tryWish 90 = .ok (.ireturn, 1) := by decide +kernel
theorem dX1_serve_0 : decode cX1_serve 0 = .ok (.iconst 1, 1) := by decide +kernel
theorem dX1_serve_1 : decode cX1_serve 1 = .ok (.istore_n 1, 1) := by decide +kernel
theorem dX1_serve_2 : decode cX1_serve 2 = .ok (.iconst 0, 1) := by decide +kernel
theorem dX1_serve_3 : decode cX1_serve 3 = .ok (.istore_n 2, 1) := by decide +kernel
theorem dX1_serve_4 : decode cX1_serve 4 = .ok (.iload_n 2, 1) := by decide +kernel
theorem dX1_serve_5 : decode cX1_serve 5 = .ok (.bipush 6, 2) := by decide +kernel
theorem dX1_serve_7 : decode cX1_serve 7 = .ok (.if_icmp .gt 18, 3) := by decide +kernel
theorem dX1_serve_10 : decode cX1_serve 10 = .ok (.iload_n 1, 1) := by decide +kernel
theorem dX1_serve_11 : decode cX1_serve 11 = .ok (.ifCond .eq 14, 3) := by decide +kernel
theorem dX1_serve_14 : decode cX1_serve 14 = .ok (.aload_n 0, 1) := by decide +kernel
theorem dX1_serve_15 : decode cX1_serve 15 = .ok (.invokevirtual 186, 3) := by decide +kernel
theorem dX1_serve_18 : decode cX1_serve 18 = .ok (.istore_n 1, 1) := by decide +kernel
theorem dX1_serve_19 : decode cX1_serve 19 = .ok (.iinc 2 1, 3) := by decide +kernel
theorem dX1_serve_22 : decode cX1_serve 22 = .ok (.goto (-18), 3) := by decide +kernel
theorem dX1_serve_25 : decode cX1_serve 25 = .ok (.return_, 1) := by decide +kernel
theorem dX1_serveFirst_0 : decode cX1_serveFirst 0 = .ok (.iconst 0, 1) := by decide +kernel
theorem dX1_serveFirst_1 : decode cX1_serveFirst 1 = .ok (.istore_n 1, 1) := by decide +kernel
theorem dX1_serveFirst_2 : decode cX1_serveFirst 2 = .ok (.iload_n 1, 1) := by decide +kernel
theorem dX1_serveFirst_3 : decode cX1_serveFirst 3 = .ok (.aload_n 0, 1) := by decide +kernel
theorem dX1_serveFirst_4 : decode cX1_serveFirst 4 = .ok (.getfield 32, 3) := by decide +kernel
theorem dX1_serveFirst_7 : decode cX1_serveFirst 7 = .ok (.getfield 53, 3) := by decide +kernel
theorem dX1_serveFirst_10 : decode cX1_serveFirst 10 = .ok (.if_icmp .ge 35, 3) := by decide +kernel
theorem dX1_serveFirst_13 : decode cX1_serveFirst 13 = .ok (.aload_n 0, 1) := by decide +kernel
theorem dX1_serveFirst_14 : decode cX1_serveFirst 14 = .ok (.aload_n 0, 1) := by decide +kernel
theorem dX1_serveFirst_15 : decode cX1_serveFirst 15 = .ok (.getfield 32, 3) := by decide +kernel
theorem dX1_serveFirst_18 : decode cX1_serveFirst 18 = .ok (.iload_n 1, 1) := by decide +kernel
theorem dX1_serveFirst_19 : decode cX1_serveFirst 19 = .ok (.invokevirtual 190, 3) := by decide +kernel
theorem dX1_serveFirst_22 : decode cX1_serveFirst 22 = .ok (.invokevirtual 193, 3) := by decide +kernel
theorem dX1_serveFirst_25 : decode cX1_serveFirst 25 = .ok (.ifCond .eq 14, 3) := by decide +kernel
theorem dX1_serveFirst_28 : decode cX1_serveFirst 28 = .ok (.aload_n 0, 1) := by decide +kernel
theorem dX1_serveFirst_29 : decode cX1_serveFirst 29 = .ok (.getfield 32, 3) := by decide +kernel
theorem dX1_serveFirst_32 : decode cX1_serveFirst 32 = .ok (.iload_n 1, 1) := by decide +kernel
theorem dX1_serveFirst_33 : decode cX1_serveFirst 33 = .ok (.invokevirtual 196, 3) := by decide +kernel
theorem dX1_serveFirst_36 : decode cX1_serveFirst 36 = .ok (.pop, 1) := by decide +kernel
theorem dX1_serveFirst_37 : decode cX1_serveFirst 37 = .ok (.iconst 1, 1) := by decide +kernel
theorem dX1_serveFirst_38 : decode cX1_serveFirst 38 = .ok (.ireturn, 1) := by decide +kernel
theorem dX1_serveFirst_39 : decode cX1_serveFirst 39 = .ok (.iinc 1 1, 3) := by decide +kernel
theorem dX1_serveFirst_42 : decode cX1_serveFirst 42 = .ok (.goto (-40), 3) := by decide +kernel
theorem dX1_serveFirst_45 : decode cX1_serveFirst 45 = .ok (.iconst 0, 1) := by decide +kernel
theorem dX1_serveFirst_46 : decode cX1_serveFirst 46 = .ok (.ireturn, 1) := by decide +kernel
theorem dX1_queuedAt_0 : decode cX1_queuedAt 0 = .ok (.iconst 0, 1) := by decide +kernel
theorem dX1_queuedAt_1 : decode cX1_queuedAt 1 = .ok (.istore_n 2, 1) := by decide +kernel
theorem dX1_queuedAt_2 : decode cX1_queuedAt 2 = .ok (.iload_n 2, 1) := by decide +kernel
theorem dX1_queuedAt_3 : decode cX1_queuedAt 3 = .ok (.aload_n 0, 1) := by decide +kernel
theorem dX1_queuedAt_4 : decode cX1_queuedAt 4 = .ok (.getfield 58, 3) := by decide +kernel
theorem dX1_queuedAt_7 : decode cX1_queuedAt 7 = .ok (.if_icmp .ge 28, 3) := by decide +kernel
theorem dX1_queuedAt_10 : decode cX1_queuedAt 10 = .ok (.aload_n 0, 1) := by decide +kernel
theorem dX1_queuedAt_11 : decode cX1_queuedAt 11 = .ok (.getfield 11, 3) := by decide +kernel
theorem dX1_queuedAt_14 : decode cX1_queuedAt 14 = .ok (.iload_n 2, 1) := by decide +kernel
theorem dX1_queuedAt_15 : decode cX1_queuedAt 15 = .ok (.aaload, 1) := by decide +kernel
theorem dX1_queuedAt_16 : decode cX1_queuedAt 16 = .ok (.getfield 199, 3) := by decide +kernel
theorem dX1_queuedAt_19 : decode cX1_queuedAt 19 = .ok (.iload_n 1, 1) := by decide +kernel
theorem dX1_queuedAt_20 : decode cX1_queuedAt 20 = .ok (.invokevirtual 202, 3) := by decide +kernel
theorem dX1_queuedAt_23 : decode cX1_queuedAt 23 = .ok (.iconst (-1), 1) := by decide +kernel
theorem dX1_queuedAt_24 : decode cX1_queuedAt 24 = .ok (.if_icmp .eq 5, 3) := by decide +kernel
theorem dX1_queuedAt_27 : decode cX1_queuedAt 27 = .ok (.iload_n 2, 1) := by decide +kernel
theorem dX1_queuedAt_28 : decode cX1_queuedAt 28 = .ok (.ireturn, 1) := by decide +kernel
theorem dX1_queuedAt_29 : decode cX1_queuedAt 29 = .ok (.iinc 2 1, 3) := by decide +kernel
theorem dX1_queuedAt_32 : decode cX1_queuedAt 32 = .ok (.goto (-30), 3) := by decide +kernel
theorem dX1_queuedAt_35 : decode cX1_queuedAt 35 = .ok (.iconst (-1), 1) := by decide +kernel
theorem dX1_queuedAt_36 : decode cX1_queuedAt 36 = .ok (.ireturn, 1) := by decide +kernel
theorem dX1_stuckBits_0 : decode cX1_stuckBits 0 = .ok (.iconst 0, 1) := by decide +kernel
theorem dX1_stuckBits_1 : decode cX1_stuckBits 1 = .ok (.istore_n 1, 1) := by decide +kernel
theorem dX1_stuckBits_2 : decode cX1_stuckBits 2 = .ok (.iconst 0, 1) := by decide +kernel
theorem dX1_stuckBits_3 : decode cX1_stuckBits 3 = .ok (.istore_n 2, 1) := by decide +kernel
theorem dX1_stuckBits_4 : decode cX1_stuckBits 4 = .ok (.iload_n 2, 1) := by decide +kernel
theorem dX1_stuckBits_5 : decode cX1_stuckBits 5 = .ok (.bipush 6, 2) := by decide +kernel
theorem dX1_stuckBits_7 : decode cX1_stuckBits 7 = .ok (.if_icmp .ge 23, 3) := by decide +kernel
theorem dX1_stuckBits_10 : decode cX1_stuckBits 10 = .ok (.aload_n 0, 1) := by decide +kernel
theorem dX1_stuckBits_11 : decode cX1_stuckBits 11 = .ok (.iload_n 2, 1) := by decide +kernel
theorem dX1_stuckBits_12 : decode cX1_stuckBits 12 = .ok (.invokevirtual 205, 3) := by decide +kernel
theorem dX1_stuckBits_15 : decode cX1_stuckBits 15 = .ok (.ifCond .eq 9, 3) := by decide +kernel
theorem dX1_stuckBits_18 : decode cX1_stuckBits 18 = .ok (.iload_n 1, 1) := by decide +kernel
theorem dX1_stuckBits_19 : decode cX1_stuckBits 19 = .ok (.iconst 1, 1) := by decide +kernel
theorem dX1_stuckBits_20 : decode cX1_stuckBits 20 = .ok (.iload_n 2, 1) := by decide +kernel
theorem dX1_stuckBits_21 : decode cX1_stuckBits 21 = .ok (.ishl, 1) := by decide +kernel
theorem dX1_stuckBits_22 : decode cX1_stuckBits 22 = .ok (.ior, 1) := by decide +kernel
theorem dX1_stuckBits_23 : decode cX1_stuckBits 23 = .ok (.istore_n 1, 1) := by decide +kernel
theorem dX1_stuckBits_24 : decode cX1_stuckBits 24 = .ok (.iinc 2 1, 3) := by decide +kernel
theorem dX1_stuckBits_27 : decode cX1_stuckBits 27 = .ok (.goto (-23), 3) := by decide +kernel
theorem dX1_stuckBits_30 : decode cX1_stuckBits 30 = .ok (.iload_n 1, 1) := by decide +kernel
theorem dX1_stuckBits_31 : decode cX1_stuckBits 31 = .ok (.ireturn, 1) := by decide +kernel
theorem dX1_isStuck_0 : decode cX1_isStuck 0 = .ok (.iload_n 1, 1) := by decide +kernel
theorem dX1_isStuck_1 : decode cX1_isStuck 1 = .ok (.istore_n 2, 1) := by decide +kernel
theorem dX1_isStuck_2 : decode cX1_isStuck 2 = .ok (.iconst 0, 1) := by decide +kernel
theorem dX1_isStuck_3 : decode cX1_isStuck 3 = .ok (.istore_n 3, 1) := by decide +kernel
theorem dX1_isStuck_4 : decode cX1_isStuck 4 = .ok (.iload_n 3, 1) := by decide +kernel
theorem dX1_isStuck_5 : decode cX1_isStuck 5 = .ok (.bipush 6, 2) := by decide +kernel
theorem dX1_isStuck_7 : decode cX1_isStuck 7 = .ok (.if_icmp .ge 45, 3) := by decide +kernel
theorem dX1_isStuck_10 : decode cX1_isStuck 10 = .ok (.aload_n 0, 1) := by decide +kernel
theorem dX1_isStuck_11 : decode cX1_isStuck 11 = .ok (.iload_n 2, 1) := by decide +kernel
theorem dX1_isStuck_12 : decode cX1_isStuck 12 = .ok (.invokevirtual 208, 3) := by decide +kernel
theorem dX1_isStuck_15 : decode cX1_isStuck 15 = .ok (.istore 4, 2) := by decide +kernel
theorem dX1_isStuck_17 : decode cX1_isStuck 17 = .ok (.aload_n 0, 1) := by decide +kernel
theorem dX1_isStuck_18 : decode cX1_isStuck 18 = .ok (.iload 4, 2) := by decide +kernel
theorem dX1_isStuck_20 : decode cX1_isStuck 20 = .ok (.invokevirtual 70, 3) := by decide +kernel
theorem dX1_isStuck_23 : decode cX1_isStuck 23 = .ok (.ifCond .ne 5, 3) := by decide +kernel
theorem dX1_isStuck_26 : decode cX1_isStuck 26 = .ok (.iconst 0, 1) := by decide +kernel
theorem dX1_isStuck_27 : decode cX1_isStuck 27 = .ok (.ireturn, 1) := by decide +kernel
theorem dX1_isStuck_28 : decode cX1_isStuck 28 = .ok (.aload_n 0, 1) := by decide +kernel
theorem dX1_isStuck_29 : decode cX1_isStuck 29 = .ok (.getfield 11, 3) := by decide +kernel
theorem dX1_isStuck_32 : decode cX1_isStuck 32 = .ok (.iload 4, 2) := by decide +kernel
theorem dX1_isStuck_34 : decode cX1_isStuck 34 = .ok (.aaload, 1) := by decide +kernel
theorem dX1_isStuck_35 : decode cX1_isStuck 35 = .ok (.getfield 211, 3) := by decide +kernel
theorem dX1_isStuck_38 : decode cX1_isStuck 38 = .ok (.istore_n 2, 1) := by decide +kernel
theorem dX1_isStuck_39 : decode cX1_isStuck 39 = .ok (.iload_n 2, 1) := by decide +kernel
theorem dX1_isStuck_40 : decode cX1_isStuck 40 = .ok (.iload_n 1, 1) := by decide +kernel
theorem dX1_isStuck_41 : decode cX1_isStuck 41 = .ok (.if_icmp .ne 5, 3) := by decide +kernel
theorem dX1_isStuck_44 : decode cX1_isStuck 44 = .ok (.iconst 1, 1) := by decide +kernel
theorem dX1_isStuck_45 : decode cX1_isStuck 45 = .ok (.ireturn, 1) := by decide +kernel
theorem dX1_isStuck_46 : decode cX1_isStuck 46 = .ok (.iinc 3 1, 3) := by decide +kernel
theorem dX1_isStuck_49 : decode cX1_isStuck 49 = .ok (.goto (-45), 3) := by decide +kernel
theorem dX1_isStuck_52 : decode cX1_isStuck 52 = .ok (.iconst 0, 1) := by decide +kernel
theorem dX1_isStuck_53 : decode cX1_isStuck 53 = .ok (.ireturn, 1) := by decide +kernel
theorem dX1_worksTold_0 : decode cX1_worksTold 0 = .ok (.iload_n 1, 1) := by decide +kernel
theorem dX1_worksTold_1 : decode cX1_worksTold 1 = .ok (.tableswitch 105 0 8 #[51, 56, 61, 66, 71, 79, 87, 95, 100], 51) := by decide +kernel
theorem dX1_worksTold_52 : decode cX1_worksTold 52 = .ok (.aload_n 0, 1) := by decide +kernel
theorem dX1_worksTold_53 : decode cX1_worksTold 53 = .ok (.getfield 58, 3) := by decide +kernel
theorem dX1_worksTold_56 : decode cX1_worksTold 56 = .ok (.ireturn, 1) := by decide +kernel
theorem dX1_worksTold_57 : decode cX1_worksTold 57 = .ok (.aload_n 0, 1) := by decide +kernel
theorem dX1_worksTold_58 : decode cX1_worksTold 58 = .ok (.getfield 61, 3) := by decide +kernel
theorem dX1_worksTold_61 : decode cX1_worksTold 61 = .ok (.ireturn, 1) := by decide +kernel
theorem dX1_worksTold_62 : decode cX1_worksTold 62 = .ok (.aload_n 0, 1) := by decide +kernel
theorem dX1_worksTold_63 : decode cX1_worksTold 63 = .ok (.getfield 64, 3) := by decide +kernel
theorem dX1_worksTold_66 : decode cX1_worksTold 66 = .ok (.ireturn, 1) := by decide +kernel
theorem dX1_worksTold_67 : decode cX1_worksTold 67 = .ok (.aload_n 0, 1) := by decide +kernel
theorem dX1_worksTold_68 : decode cX1_worksTold 68 = .ok (.getfield 67, 3) := by decide +kernel
theorem dX1_worksTold_71 : decode cX1_worksTold 71 = .ok (.ireturn, 1) := by decide +kernel
theorem dX1_worksTold_72 : decode cX1_worksTold 72 = .ok (.aload_n 0, 1) := by decide +kernel
theorem dX1_worksTold_73 : decode cX1_worksTold 73 = .ok (.getfield 39, 3) := by decide +kernel
theorem dX1_worksTold_76 : decode cX1_worksTold 76 = .ok (.getfield 214, 3) := by decide +kernel
theorem dX1_worksTold_79 : decode cX1_worksTold 79 = .ok (.ireturn, 1) := by decide +kernel
theorem dX1_worksTold_80 : decode cX1_worksTold 80 = .ok (.aload_n 0, 1) := by decide +kernel
theorem dX1_worksTold_81 : decode cX1_worksTold 81 = .ok (.getfield 39, 3) := by decide +kernel
theorem dX1_worksTold_84 : decode cX1_worksTold 84 = .ok (.getfield 217, 3) := by decide +kernel
theorem dX1_worksTold_87 : decode cX1_worksTold 87 = .ok (.ireturn, 1) := by decide +kernel
theorem dX1_worksTold_88 : decode cX1_worksTold 88 = .ok (.aload_n 0, 1) := by decide +kernel
theorem dX1_worksTold_89 : decode cX1_worksTold 89 = .ok (.getfield 39, 3) := by decide +kernel
theorem dX1_worksTold_92 : decode cX1_worksTold 92 = .ok (.getfield 220, 3) := by decide +kernel
theorem dX1_worksTold_95 : decode cX1_worksTold 95 = .ok (.ireturn, 1) := by decide +kernel
theorem dX1_worksTold_96 : decode cX1_worksTold 96 = .ok (.aload_n 0, 1) := by decide +kernel
theorem dX1_worksTold_97 : decode cX1_worksTold 97 = .ok (.invokevirtual 223, 3) := by decide +kernel
theorem dX1_worksTold_100 : decode cX1_worksTold 100 = .ok (.ireturn, 1) := by decide +kernel
theorem dX1_worksTold_101 : decode cX1_worksTold 101 = .ok (.aload_n 0, 1) := by decide +kernel
theorem dX1_worksTold_102 : decode cX1_worksTold 102 = .ok (.invokevirtual 226, 3) := by decide +kernel
theorem dX1_worksTold_105 : decode cX1_worksTold 105 = .ok (.ireturn, 1) := by decide +kernel
theorem dX1_worksTold_106 : decode cX1_worksTold 106 = .ok (.aload_n 0, 1) := by decide +kernel
theorem dX1_worksTold_107 : decode cX1_worksTold 107 = .ok (.getfield 32, 3) := by decide +kernel
theorem dX1_worksTold_110 : decode cX1_worksTold 110 = .ok (.getfield 53, 3) := by decide +kernel
theorem dX1_worksTold_113 : decode cX1_worksTold 113 = .ok (.ireturn, 1) := by decide +kernel
theorem dX1_allItems_0 : decode cX1_allItems 0 = .ok (.iconst 0, 1) := by decide +kernel
theorem dX1_allItems_1 : decode cX1_allItems 1 = .ok (.istore_n 1, 1) := by decide +kernel
theorem dX1_allItems_2 : decode cX1_allItems 2 = .ok (.iconst 0, 1) := by decide +kernel
theorem dX1_allItems_3 : decode cX1_allItems 3 = .ok (.istore_n 2, 1) := by decide +kernel
theorem dX1_allItems_4 : decode cX1_allItems 4 = .ok (.iload_n 2, 1) := by decide +kernel
theorem dX1_allItems_5 : decode cX1_allItems 5 = .ok (.aload_n 0, 1) := by decide +kernel
theorem dX1_allItems_6 : decode cX1_allItems 6 = .ok (.getfield 58, 3) := by decide +kernel
theorem dX1_allItems_9 : decode cX1_allItems 9 = .ok (.if_icmp .ge 24, 3) := by decide +kernel
theorem dX1_allItems_12 : decode cX1_allItems 12 = .ok (.iload_n 1, 1) := by decide +kernel
theorem dX1_allItems_13 : decode cX1_allItems 13 = .ok (.aload_n 0, 1) := by decide +kernel
theorem dX1_allItems_14 : decode cX1_allItems 14 = .ok (.getfield 11, 3) := by decide +kernel
theorem dX1_allItems_17 : decode cX1_allItems 17 = .ok (.iload_n 2, 1) := by decide +kernel
theorem dX1_allItems_18 : decode cX1_allItems 18 = .ok (.aaload, 1) := by decide +kernel
theorem dX1_allItems_19 : decode cX1_allItems 19 = .ok (.getfield 105, 3) := by decide +kernel
theorem dX1_allItems_22 : decode cX1_allItems 22 = .ok (.getfield 53, 3) := by decide +kernel
theorem dX1_allItems_25 : decode cX1_allItems 25 = .ok (.iadd, 1) := by decide +kernel
theorem dX1_allItems_26 : decode cX1_allItems 26 = .ok (.istore_n 1, 1) := by decide +kernel
theorem dX1_allItems_27 : decode cX1_allItems 27 = .ok (.iinc 2 1, 3) := by decide +kernel
theorem dX1_allItems_30 : decode cX1_allItems 30 = .ok (.goto (-26), 3) := by decide +kernel
theorem dX1_allItems_33 : decode cX1_allItems 33 = .ok (.iload_n 1, 1) := by decide +kernel
theorem dX1_allItems_34 : decode cX1_allItems 34 = .ok (.ireturn, 1) := by decide +kernel
theorem dX1_allEntries_0 : decode cX1_allEntries 0 = .ok (.aload_n 0, 1) := by decide +kernel
theorem dX1_allEntries_1 : decode cX1_allEntries 1 = .ok (.getfield 39, 3) := by decide +kernel
theorem dX1_allEntries_4 : decode cX1_allEntries 4 = .ok (.getfield 214, 3) := by decide +kernel
theorem dX1_allEntries_7 : decode cX1_allEntries 7 = .ok (.istore_n 1, 1) := by decide +kernel
theorem dX1_allEntries_8 : decode cX1_allEntries 8 = .ok (.iconst 0, 1) := by decide +kernel
theorem dX1_allEntries_9 : decode cX1_allEntries 9 = .ok (.istore_n 2, 1) := by decide +kernel
theorem dX1_allEntries_10 : decode cX1_allEntries 10 = .ok (.iload_n 2, 1) := by decide +kernel
theorem dX1_allEntries_11 : decode cX1_allEntries 11 = .ok (.aload_n 0, 1) := by decide +kernel
theorem dX1_allEntries_12 : decode cX1_allEntries 12 = .ok (.getfield 58, 3) := by decide +kernel
theorem dX1_allEntries_15 : decode cX1_allEntries 15 = .ok (.if_icmp .ge 24, 3) := by decide +kernel
theorem dX1_allEntries_18 : decode cX1_allEntries 18 = .ok (.iload_n 1, 1) := by decide +kernel
theorem dX1_allEntries_19 : decode cX1_allEntries 19 = .ok (.aload_n 0, 1) := by decide +kernel
theorem dX1_allEntries_20 : decode cX1_allEntries 20 = .ok (.getfield 11, 3) := by decide +kernel
theorem dX1_allEntries_23 : decode cX1_allEntries 23 = .ok (.iload_n 2, 1) := by decide +kernel
theorem dX1_allEntries_24 : decode cX1_allEntries 24 = .ok (.aaload, 1) := by decide +kernel
theorem dX1_allEntries_25 : decode cX1_allEntries 25 = .ok (.getfield 80, 3) := by decide +kernel
theorem dX1_allEntries_28 : decode cX1_allEntries 28 = .ok (.getfield 214, 3) := by decide +kernel
theorem dX1_allEntries_31 : decode cX1_allEntries 31 = .ok (.iadd, 1) := by decide +kernel
theorem dX1_allEntries_32 : decode cX1_allEntries 32 = .ok (.istore_n 1, 1) := by decide +kernel
theorem dX1_allEntries_33 : decode cX1_allEntries 33 = .ok (.iinc 2 1, 3) := by decide +kernel
theorem dX1_allEntries_36 : decode cX1_allEntries 36 = .ok (.goto (-26), 3) := by decide +kernel
theorem dX1_allEntries_39 : decode cX1_allEntries 39 = .ok (.iload_n 1, 1) := by decide +kernel
theorem dX1_allEntries_40 : decode cX1_allEntries 40 = .ok (.ireturn, 1) := by decide +kernel
theorem dX1_copyFrom_0 : decode cX1_copyFrom 0 = .ok (.iconst 0, 1) := by decide +kernel
theorem dX1_copyFrom_1 : decode cX1_copyFrom 1 = .ok (.istore_n 2, 1) := by decide +kernel
theorem dX1_copyFrom_2 : decode cX1_copyFrom 2 = .ok (.iload_n 2, 1) := by decide +kernel
theorem dX1_copyFrom_3 : decode cX1_copyFrom 3 = .ok (.bipush 6, 2) := by decide +kernel
theorem dX1_copyFrom_5 : decode cX1_copyFrom 5 = .ok (.if_icmp .ge 24, 3) := by decide +kernel
theorem dX1_copyFrom_8 : decode cX1_copyFrom 8 = .ok (.aload_n 0, 1) := by decide +kernel
theorem dX1_copyFrom_9 : decode cX1_copyFrom 9 = .ok (.getfield 11, 3) := by decide +kernel
theorem dX1_copyFrom_12 : decode cX1_copyFrom 12 = .ok (.iload_n 2, 1) := by decide +kernel
theorem dX1_copyFrom_13 : decode cX1_copyFrom 13 = .ok (.aaload, 1) := by decide +kernel
theorem dX1_copyFrom_14 : decode cX1_copyFrom 14 = .ok (.aload_n 1, 1) := by decide +kernel
theorem dX1_copyFrom_15 : decode cX1_copyFrom 15 = .ok (.getfield 11, 3) := by decide +kernel
theorem dX1_copyFrom_18 : decode cX1_copyFrom 18 = .ok (.iload_n 2, 1) := by decide +kernel
theorem dX1_copyFrom_19 : decode cX1_copyFrom 19 = .ok (.aaload, 1) := by decide +kernel
theorem dX1_copyFrom_20 : decode cX1_copyFrom 20 = .ok (.invokevirtual 229, 3) := by decide +kernel
theorem dX1_copyFrom_23 : decode cX1_copyFrom 23 = .ok (.iinc 2 1, 3) := by decide +kernel
theorem dX1_copyFrom_26 : decode cX1_copyFrom 26 = .ok (.goto (-24), 3) := by decide +kernel
theorem dX1_copyFrom_29 : decode cX1_copyFrom 29 = .ok (.iconst 0, 1) := by decide +kernel
theorem dX1_copyFrom_30 : decode cX1_copyFrom 30 = .ok (.istore_n 2, 1) := by decide +kernel
theorem dX1_copyFrom_31 : decode cX1_copyFrom 31 = .ok (.iload_n 2, 1) := by decide +kernel
theorem dX1_copyFrom_32 : decode cX1_copyFrom 32 = .ok (.bipush 6, 2) := by decide +kernel
theorem dX1_copyFrom_34 : decode cX1_copyFrom 34 = .ok (.if_icmp .ge 24, 3) := by decide +kernel
theorem dX1_copyFrom_37 : decode cX1_copyFrom 37 = .ok (.aload_n 0, 1) := by decide +kernel
theorem dX1_copyFrom_38 : decode cX1_copyFrom 38 = .ok (.getfield 19, 3) := by decide +kernel
theorem dX1_copyFrom_41 : decode cX1_copyFrom 41 = .ok (.iload_n 2, 1) := by decide +kernel
theorem dX1_copyFrom_42 : decode cX1_copyFrom 42 = .ok (.aaload, 1) := by decide +kernel
theorem dX1_copyFrom_43 : decode cX1_copyFrom 43 = .ok (.aload_n 1, 1) := by decide +kernel
theorem dX1_copyFrom_44 : decode cX1_copyFrom 44 = .ok (.getfield 19, 3) := by decide +kernel
theorem dX1_copyFrom_47 : decode cX1_copyFrom 47 = .ok (.iload_n 2, 1) := by decide +kernel
theorem dX1_copyFrom_48 : decode cX1_copyFrom 48 = .ok (.aaload, 1) := by decide +kernel
theorem dX1_copyFrom_49 : decode cX1_copyFrom 49 = .ok (.invokevirtual 233, 3) := by decide +kernel
theorem dX1_copyFrom_52 : decode cX1_copyFrom 52 = .ok (.iinc 2 1, 3) := by decide +kernel
theorem dX1_copyFrom_55 : decode cX1_copyFrom 55 = .ok (.goto (-24), 3) := by decide +kernel
theorem dX1_copyFrom_58 : decode cX1_copyFrom 58 = .ok (.iconst 0, 1) := by decide +kernel
theorem dX1_copyFrom_59 : decode cX1_copyFrom 59 = .ok (.istore_n 2, 1) := by decide +kernel
theorem dX1_copyFrom_60 : decode cX1_copyFrom 60 = .ok (.iload_n 2, 1) := by decide +kernel
theorem dX1_copyFrom_61 : decode cX1_copyFrom 61 = .ok (.bipush 6, 2) := by decide +kernel
theorem dX1_copyFrom_63 : decode cX1_copyFrom 63 = .ok (.if_icmp .ge 24, 3) := by decide +kernel
theorem dX1_copyFrom_66 : decode cX1_copyFrom 66 = .ok (.aload_n 0, 1) := by decide +kernel
theorem dX1_copyFrom_67 : decode cX1_copyFrom 67 = .ok (.getfield 25, 3) := by decide +kernel
theorem dX1_copyFrom_70 : decode cX1_copyFrom 70 = .ok (.iload_n 2, 1) := by decide +kernel
theorem dX1_copyFrom_71 : decode cX1_copyFrom 71 = .ok (.aaload, 1) := by decide +kernel
theorem dX1_copyFrom_72 : decode cX1_copyFrom 72 = .ok (.aload_n 1, 1) := by decide +kernel
theorem dX1_copyFrom_73 : decode cX1_copyFrom 73 = .ok (.getfield 25, 3) := by decide +kernel
theorem dX1_copyFrom_76 : decode cX1_copyFrom 76 = .ok (.iload_n 2, 1) := by decide +kernel
theorem dX1_copyFrom_77 : decode cX1_copyFrom 77 = .ok (.aaload, 1) := by decide +kernel
theorem dX1_copyFrom_78 : decode cX1_copyFrom 78 = .ok (.invokevirtual 236, 3) := by decide +kernel
theorem dX1_copyFrom_81 : decode cX1_copyFrom 81 = .ok (.iinc 2 1, 3) := by decide +kernel
theorem dX1_copyFrom_84 : decode cX1_copyFrom 84 = .ok (.goto (-24), 3) := by decide +kernel
theorem dX1_copyFrom_87 : decode cX1_copyFrom 87 = .ok (.aload_n 0, 1) := by decide +kernel
theorem dX1_copyFrom_88 : decode cX1_copyFrom 88 = .ok (.getfield 32, 3) := by decide +kernel
theorem dX1_copyFrom_91 : decode cX1_copyFrom 91 = .ok (.aload_n 1, 1) := by decide +kernel
theorem dX1_copyFrom_92 : decode cX1_copyFrom 92 = .ok (.getfield 32, 3) := by decide +kernel
theorem dX1_copyFrom_95 : decode cX1_copyFrom 95 = .ok (.invokevirtual 239, 3) := by decide +kernel
theorem dX1_copyFrom_98 : decode cX1_copyFrom 98 = .ok (.aload_n 0, 1) := by decide +kernel
theorem dX1_copyFrom_99 : decode cX1_copyFrom 99 = .ok (.getfield 39, 3) := by decide +kernel
theorem dX1_copyFrom_102 : decode cX1_copyFrom 102 = .ok (.aload_n 1, 1) := by decide +kernel
theorem dX1_copyFrom_103 : decode cX1_copyFrom 103 = .ok (.getfield 39, 3) := by decide +kernel
theorem dX1_copyFrom_106 : decode cX1_copyFrom 106 = .ok (.invokevirtual 242, 3) := by decide +kernel
theorem dX1_copyFrom_109 : decode cX1_copyFrom 109 = .ok (.aload_n 0, 1) := by decide +kernel
theorem dX1_copyFrom_110 : decode cX1_copyFrom 110 = .ok (.aload_n 1, 1) := by decide +kernel
theorem dX1_copyFrom_111 : decode cX1_copyFrom 111 = .ok (.getfield 58, 3) := by decide +kernel
theorem dX1_copyFrom_114 : decode cX1_copyFrom 114 = .ok (.putfield 58, 3) := by decide +kernel
theorem dX1_copyFrom_117 : decode cX1_copyFrom 117 = .ok (.aload_n 0, 1) := by decide +kernel
theorem dX1_copyFrom_118 : decode cX1_copyFrom 118 = .ok (.aload_n 1, 1) := by decide +kernel
theorem dX1_copyFrom_119 : decode cX1_copyFrom 119 = .ok (.getfield 61, 3) := by decide +kernel
theorem dX1_copyFrom_122 : decode cX1_copyFrom 122 = .ok (.putfield 61, 3) := by decide +kernel
theorem dX1_copyFrom_125 : decode cX1_copyFrom 125 = .ok (.aload_n 0, 1) := by decide +kernel
theorem dX1_copyFrom_126 : decode cX1_copyFrom 126 = .ok (.aload_n 1, 1) := by decide +kernel
theorem dX1_copyFrom_127 : decode cX1_copyFrom 127 = .ok (.getfield 64, 3) := by decide +kernel
theorem dX1_copyFrom_130 : decode cX1_copyFrom 130 = .ok (.putfield 64, 3) := by decide +kernel
theorem dX1_copyFrom_133 : decode cX1_copyFrom 133 = .ok (.aload_n 0, 1) := by decide +kernel
theorem dX1_copyFrom_134 : decode cX1_copyFrom 134 = .ok (.aload_n 1, 1) := by decide +kernel
theorem dX1_copyFrom_135 : decode cX1_copyFrom 135 = .ok (.getfield 67, 3) := by decide +kernel
theorem dX1_copyFrom_138 : decode cX1_copyFrom 138 = .ok (.putfield 67, 3) := by decide +kernel
theorem dX1_copyFrom_141 : decode cX1_copyFrom 141 = .ok (.return_, 1) := by decide +kernel
theorem dX2_init_0 : decode cX2_init 0 = .ok (.aload_n 0, 1) := by decide +kernel
theorem dX2_init_1 : decode cX2_init 1 = .ok (.invokespecial 1, 3) := by decide +kernel
theorem dX2_init_4 : decode cX2_init 4 = .ok (.return_, 1) := by decide +kernel
theorem dX2_enter_0 : decode cX2_enter 0 = .ok (.aload_n 0, 1) := by decide +kernel
theorem dX2_enter_1 : decode cX2_enter 1 = .ok (.dup, 1) := by decide +kernel
theorem dX2_enter_2 : decode cX2_enter 2 = .ok (.getfield 7, 3) := by decide +kernel
theorem dX2_enter_5 : decode cX2_enter 5 = .ok (.iconst 1, 1) := by decide +kernel
theorem dX2_enter_6 : decode cX2_enter 6 = .ok (.iadd, 1) := by decide +kernel
theorem dX2_enter_7 : decode cX2_enter 7 = .ok (.putfield 7, 3) := by decide +kernel
theorem dX2_enter_10 : decode cX2_enter 10 = .ok (.aload_n 0, 1) := by decide +kernel
theorem dX2_enter_11 : decode cX2_enter 11 = .ok (.dup, 1) := by decide +kernel
theorem dX2_enter_12 : decode cX2_enter 12 = .ok (.getfield 13, 3) := by decide +kernel
theorem dX2_enter_15 : decode cX2_enter 15 = .ok (.iconst 1, 1) := by decide +kernel
theorem dX2_enter_16 : decode cX2_enter 16 = .ok (.iadd, 1) := by decide +kernel
theorem dX2_enter_17 : decode cX2_enter 17 = .ok (.putfield 13, 3) := by decide +kernel
theorem dX2_enter_20 : decode cX2_enter 20 = .ok (.aload_n 0, 1) := by decide +kernel
theorem dX2_enter_21 : decode cX2_enter 21 = .ok (.aload_n 0, 1) := by decide +kernel
theorem dX2_enter_22 : decode cX2_enter 22 = .ok (.getfield 16, 3) := by decide +kernel
theorem dX2_enter_25 : decode cX2_enter 25 = .ok (.aload_n 0, 1) := by decide +kernel
theorem dX2_enter_26 : decode cX2_enter 26 = .ok (.getfield 13, 3) := by decide +kernel
theorem dX2_enter_29 : decode cX2_enter 29 = .ok (.invokestatic 19, 3) := by decide +kernel
theorem dX2_enter_32 : decode cX2_enter 32 = .ok (.putfield 16, 3) := by decide +kernel
theorem dX2_enter_35 : decode cX2_enter 35 = .ok (.return_, 1) := by decide +kernel
theorem dX2_leave_0 : decode cX2_leave 0 = .ok (.aload_n 0, 1) := by decide +kernel
theorem dX2_leave_1 : decode cX2_leave 1 = .ok (.dup, 1) := by decide +kernel
theorem dX2_leave_2 : decode cX2_leave 2 = .ok (.getfield 13, 3) := by decide +kernel
theorem dX2_leave_5 : decode cX2_leave 5 = .ok (.iconst 1, 1) := by decide +kernel
theorem dX2_leave_6 : decode cX2_leave 6 = .ok (.isub, 1) := by decide +kernel
theorem dX2_leave_7 : decode cX2_leave 7 = .ok (.putfield 13, 3) := by decide +kernel
theorem dX2_leave_10 : decode cX2_leave 10 = .ok (.return_, 1) := by decide +kernel
theorem dX2_leaveThrown_0 : decode cX2_leaveThrown 0 = .ok (.aload_n 0, 1) := by decide +kernel
theorem dX2_leaveThrown_1 : decode cX2_leaveThrown 1 = .ok (.dup, 1) := by decide +kernel
theorem dX2_leaveThrown_2 : decode cX2_leaveThrown 2 = .ok (.getfield 13, 3) := by decide +kernel
theorem dX2_leaveThrown_5 : decode cX2_leaveThrown 5 = .ok (.iconst 1, 1) := by decide +kernel
theorem dX2_leaveThrown_6 : decode cX2_leaveThrown 6 = .ok (.isub, 1) := by decide +kernel
theorem dX2_leaveThrown_7 : decode cX2_leaveThrown 7 = .ok (.putfield 13, 3) := by decide +kernel
theorem dX2_leaveThrown_10 : decode cX2_leaveThrown 10 = .ok (.aload_n 0, 1) := by decide +kernel
theorem dX2_leaveThrown_11 : decode cX2_leaveThrown 11 = .ok (.dup, 1) := by decide +kernel
theorem dX2_leaveThrown_12 : decode cX2_leaveThrown 12 = .ok (.getfield 25, 3) := by decide +kernel
theorem dX2_leaveThrown_15 : decode cX2_leaveThrown 15 = .ok (.iconst 1, 1) := by decide +kernel
theorem dX2_leaveThrown_16 : decode cX2_leaveThrown 16 = .ok (.iadd, 1) := by decide +kernel
theorem dX2_leaveThrown_17 : decode cX2_leaveThrown 17 = .ok (.putfield 25, 3) := by decide +kernel
theorem dX2_leaveThrown_20 : decode cX2_leaveThrown 20 = .ok (.return_, 1) := by decide +kernel
theorem dX2_startAnew_0 : decode cX2_startAnew 0 = .ok (.aload_n 0, 1) := by decide +kernel
theorem dX2_startAnew_1 : decode cX2_startAnew 1 = .ok (.iconst 0, 1) := by decide +kernel
theorem dX2_startAnew_2 : decode cX2_startAnew 2 = .ok (.putfield 7, 3) := by decide +kernel
theorem dX2_startAnew_5 : decode cX2_startAnew 5 = .ok (.aload_n 0, 1) := by decide +kernel
theorem dX2_startAnew_6 : decode cX2_startAnew 6 = .ok (.iconst 0, 1) := by decide +kernel
theorem dX2_startAnew_7 : decode cX2_startAnew 7 = .ok (.putfield 13, 3) := by decide +kernel
theorem dX2_startAnew_10 : decode cX2_startAnew 10 = .ok (.aload_n 0, 1) := by decide +kernel
theorem dX2_startAnew_11 : decode cX2_startAnew 11 = .ok (.iconst 0, 1) := by decide +kernel
theorem dX2_startAnew_12 : decode cX2_startAnew 12 = .ok (.putfield 16, 3) := by decide +kernel
theorem dX2_startAnew_15 : decode cX2_startAnew 15 = .ok (.aload_n 0, 1) := by decide +kernel
theorem dX2_startAnew_16 : decode cX2_startAnew 16 = .ok (.iconst 0, 1) := by decide +kernel
theorem dX2_startAnew_17 : decode cX2_startAnew 17 = .ok (.putfield 25, 3) := by decide +kernel
theorem dX2_startAnew_20 : decode cX2_startAnew 20 = .ok (.return_, 1) := by decide +kernel
theorem dX2_copyFrom_0 : decode cX2_copyFrom 0 = .ok (.aload_n 0, 1) := by decide +kernel
theorem dX2_copyFrom_1 : decode cX2_copyFrom 1 = .ok (.aload_n 1, 1) := by decide +kernel
theorem dX2_copyFrom_2 : decode cX2_copyFrom 2 = .ok (.getfield 7, 3) := by decide +kernel
theorem dX2_copyFrom_5 : decode cX2_copyFrom 5 = .ok (.putfield 7, 3) := by decide +kernel
theorem dX2_copyFrom_8 : decode cX2_copyFrom 8 = .ok (.aload_n 0, 1) := by decide +kernel
theorem dX2_copyFrom_9 : decode cX2_copyFrom 9 = .ok (.aload_n 1, 1) := by decide +kernel
theorem dX2_copyFrom_10 : decode cX2_copyFrom 10 = .ok (.getfield 13, 3) := by decide +kernel
theorem dX2_copyFrom_13 : decode cX2_copyFrom 13 = .ok (.putfield 13, 3) := by decide +kernel
theorem dX2_copyFrom_16 : decode cX2_copyFrom 16 = .ok (.aload_n 0, 1) := by decide +kernel
theorem dX2_copyFrom_17 : decode cX2_copyFrom 17 = .ok (.aload_n 1, 1) := by decide +kernel
theorem dX2_copyFrom_18 : decode cX2_copyFrom 18 = .ok (.getfield 16, 3) := by decide +kernel
theorem dX2_copyFrom_21 : decode cX2_copyFrom 21 = .ok (.putfield 16, 3) := by decide +kernel
theorem dX2_copyFrom_24 : decode cX2_copyFrom 24 = .ok (.aload_n 0, 1) := by decide +kernel
theorem dX2_copyFrom_25 : decode cX2_copyFrom 25 = .ok (.aload_n 1, 1) := by decide +kernel
theorem dX2_copyFrom_26 : decode cX2_copyFrom 26 = .ok (.getfield 25, 3) := by decide +kernel
theorem dX2_copyFrom_29 : decode cX2_copyFrom 29 = .ok (.putfield 25, 3) := by decide +kernel
theorem dX2_copyFrom_32 : decode cX2_copyFrom 32 = .ok (.return_, 1) := by decide +kernel
theorem dX3_init_0 : decode cX3_init 0 = .ok (.aload_n 0, 1) := by decide +kernel
theorem dX3_init_1 : decode cX3_init 1 = .ok (.invokespecial 3, 3) := by decide +kernel
theorem dX3_init_4 : decode cX3_init 4 = .ok (.aload_n 0, 1) := by decide +kernel
theorem dX3_init_5 : decode cX3_init 5 = .ok (.bipush 6, 2) := by decide +kernel
theorem dX3_init_7 : decode cX3_init 7 = .ok (.anewarray 9, 3) := by decide +kernel
theorem dX3_init_10 : decode cX3_init 10 = .ok (.putfield 11, 3) := by decide +kernel
theorem dX3_init_13 : decode cX3_init 13 = .ok (.iconst 0, 1) := by decide +kernel
theorem dX3_init_14 : decode cX3_init 14 = .ok (.istore_n 1, 1) := by decide +kernel
theorem dX3_init_15 : decode cX3_init 15 = .ok (.iload_n 1, 1) := by decide +kernel
theorem dX3_init_16 : decode cX3_init 16 = .ok (.bipush 6, 2) := by decide +kernel
theorem dX3_init_18 : decode cX3_init 18 = .ok (.if_icmp .ge 22, 3) := by decide +kernel
theorem dX3_init_21 : decode cX3_init 21 = .ok (.aload_n 0, 1) := by decide +kernel
theorem dX3_init_22 : decode cX3_init 22 = .ok (.getfield 11, 3) := by decide +kernel
theorem dX3_init_25 : decode cX3_init 25 = .ok (.iload_n 1, 1) := by decide +kernel
theorem dX3_init_26 : decode cX3_init 26 = .ok (.new 9, 3) := by decide +kernel
theorem dX3_init_29 : decode cX3_init 29 = .ok (.dup, 1) := by decide +kernel
theorem dX3_init_30 : decode cX3_init 30 = .ok (.invokespecial 17, 3) := by decide +kernel
theorem dX3_init_33 : decode cX3_init 33 = .ok (.aastore, 1) := by decide +kernel
theorem dX3_init_34 : decode cX3_init 34 = .ok (.iinc 1 1, 3) := by decide +kernel
theorem dX3_init_37 : decode cX3_init 37 = .ok (.goto (-22), 3) := by decide +kernel
theorem dX3_init_40 : decode cX3_init 40 = .ok (.return_, 1) := by decide +kernel
theorem dX3_keep_0 : decode cX3_keep 0 = .ok (.aload_n 0, 1) := by decide +kernel
theorem dX3_keep_1 : decode cX3_keep 1 = .ok (.getfield 11, 3) := by decide +kernel
theorem dX3_keep_4 : decode cX3_keep 4 = .ok (.aload_n 0, 1) := by decide +kernel
theorem dX3_keep_5 : decode cX3_keep 5 = .ok (.getfield 18, 3) := by decide +kernel
theorem dX3_keep_8 : decode cX3_keep 8 = .ok (.aaload, 1) := by decide +kernel
theorem dX3_keep_9 : decode cX3_keep 9 = .ok (.aload_n 1, 1) := by decide +kernel
theorem dX3_keep_10 : decode cX3_keep 10 = .ok (.invokevirtual 22, 3) := by decide +kernel
theorem dX3_keep_13 : decode cX3_keep 13 = .ok (.aload_n 0, 1) := by decide +kernel
theorem dX3_keep_14 : decode cX3_keep 14 = .ok (.aload_n 0, 1) := by decide +kernel
theorem dX3_keep_15 : decode cX3_keep 15 = .ok (.getfield 18, 3) := by decide +kernel
theorem dX3_keep_18 : decode cX3_keep 18 = .ok (.iconst 1, 1) := by decide +kernel
theorem dX3_keep_19 : decode cX3_keep 19 = .ok (.iadd, 1) := by decide +kernel
theorem dX3_keep_20 : decode cX3_keep 20 = .ok (.bipush 6, 2) := by decide +kernel
theorem dX3_keep_22 : decode cX3_keep 22 = .ok (.irem, 1) := by decide +kernel
theorem dX3_keep_23 : decode cX3_keep 23 = .ok (.putfield 18, 3) := by decide +kernel
theorem dX3_keep_26 : decode cX3_keep 26 = .ok (.aload_n 0, 1) := by decide +kernel
theorem dX3_keep_27 : decode cX3_keep 27 = .ok (.aload_n 0, 1) := by decide +kernel
theorem dX3_keep_28 : decode cX3_keep 28 = .ok (.getfield 26, 3) := by decide +kernel
theorem dX3_keep_31 : decode cX3_keep 31 = .ok (.iconst 1, 1) := by decide +kernel
theorem dX3_keep_32 : decode cX3_keep 32 = .ok (.iadd, 1) := by decide +kernel
theorem dX3_keep_33 : decode cX3_keep 33 = .ok (.bipush 6, 2) := by decide +kernel
theorem dX3_keep_35 : decode cX3_keep 35 = .ok (.invokestatic 29, 3) := by decide +kernel
theorem dX3_keep_38 : decode cX3_keep 38 = .ok (.putfield 26, 3) := by decide +kernel
theorem dX3_keep_41 : decode cX3_keep 41 = .ok (.return_, 1) := by decide +kernel
theorem dX3_giveBack_0 : decode cX3_giveBack 0 = .ok (.aload_n 0, 1) := by decide +kernel
theorem dX3_giveBack_1 : decode cX3_giveBack 1 = .ok (.getfield 26, 3) := by decide +kernel
theorem dX3_giveBack_4 : decode cX3_giveBack 4 = .ok (.ifCond .le 42, 3) := by decide +kernel
theorem dX3_giveBack_7 : decode cX3_giveBack 7 = .ok (.aload_n 0, 1) := by decide +kernel
theorem dX3_giveBack_8 : decode cX3_giveBack 8 = .ok (.aload_n 0, 1) := by decide +kernel
theorem dX3_giveBack_9 : decode cX3_giveBack 9 = .ok (.getfield 18, 3) := by decide +kernel
theorem dX3_giveBack_12 : decode cX3_giveBack 12 = .ok (.bipush 6, 2) := by decide +kernel
theorem dX3_giveBack_14 : decode cX3_giveBack 14 = .ok (.iadd, 1) := by decide +kernel
theorem dX3_giveBack_15 : decode cX3_giveBack 15 = .ok (.iconst 1, 1) := by decide +kernel
theorem dX3_giveBack_16 : decode cX3_giveBack 16 = .ok (.isub, 1) := by decide +kernel
theorem dX3_giveBack_17 : decode cX3_giveBack 17 = .ok (.bipush 6, 2) := by decide +kernel
theorem dX3_giveBack_19 : decode cX3_giveBack 19 = .ok (.irem, 1) := by decide +kernel
theorem dX3_giveBack_20 : decode cX3_giveBack 20 = .ok (.putfield 18, 3) := by decide +kernel
theorem dX3_giveBack_23 : decode cX3_giveBack 23 = .ok (.aload_n 0, 1) := by decide +kernel
theorem dX3_giveBack_24 : decode cX3_giveBack 24 = .ok (.dup, 1) := by decide +kernel
theorem dX3_giveBack_25 : decode cX3_giveBack 25 = .ok (.getfield 26, 3) := by decide +kernel
theorem dX3_giveBack_28 : decode cX3_giveBack 28 = .ok (.iconst 1, 1) := by decide +kernel
theorem dX3_giveBack_29 : decode cX3_giveBack 29 = .ok (.isub, 1) := by decide +kernel
theorem dX3_giveBack_30 : decode cX3_giveBack 30 = .ok (.putfield 26, 3) := by decide +kernel
theorem dX3_giveBack_33 : decode cX3_giveBack 33 = .ok (.aload_n 1, 1) := by decide +kernel
theorem dX3_giveBack_34 : decode cX3_giveBack 34 = .ok (.aload_n 0, 1) := by decide +kernel
theorem dX3_giveBack_35 : decode cX3_giveBack 35 = .ok (.getfield 11, 3) := by decide +kernel
theorem dX3_giveBack_38 : decode cX3_giveBack 38 = .ok (.aload_n 0, 1) := by decide +kernel
theorem dX3_giveBack_39 : decode cX3_giveBack 39 = .ok (.getfield 18, 3) := by decide +kernel
theorem dX3_giveBack_42 : decode cX3_giveBack 42 = .ok (.aaload, 1) := by decide +kernel
theorem dX3_giveBack_43 : decode cX3_giveBack 43 = .ok (.invokevirtual 22, 3) := by decide +kernel
theorem dX3_giveBack_46 : decode cX3_giveBack 46 = .ok (.return_, 1) := by decide +kernel
theorem dX4_init_0 : decode cX4_init 0 = .ok (.aload_n 0, 1) := by decide +kernel
theorem dX4_init_1 : decode cX4_init 1 = .ok (.invokespecial 3, 3) := by decide +kernel
theorem dX4_init_4 : decode cX4_init 4 = .ok (.aload_n 0, 1) := by decide +kernel
theorem dX4_init_5 : decode cX4_init 5 = .ok (.bipush 6, 2) := by decide +kernel
theorem dX4_init_7 : decode cX4_init 7 = .ok (.anewarray 9, 3) := by decide +kernel
theorem dX4_init_10 : decode cX4_init 10 = .ok (.putfield 11, 3) := by decide +kernel
theorem dX4_init_13 : decode cX4_init 13 = .ok (.iconst 0, 1) := by decide +kernel
theorem dX4_init_14 : decode cX4_init 14 = .ok (.istore_n 1, 1) := by decide +kernel
theorem dX4_init_15 : decode cX4_init 15 = .ok (.iload_n 1, 1) := by decide +kernel
theorem dX4_init_16 : decode cX4_init 16 = .ok (.bipush 6, 2) := by decide +kernel
theorem dX4_init_18 : decode cX4_init 18 = .ok (.if_icmp .ge 22, 3) := by decide +kernel
theorem dX4_init_21 : decode cX4_init 21 = .ok (.aload_n 0, 1) := by decide +kernel
