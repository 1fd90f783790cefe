theorem dX0_init_0 : decode cX0_init 0 = .ok (.aload_n 0, 1) := by decide +kernel
theorem dX0_init_1 : decode cX0_init 1 = .ok (.invokespecial 3, 3) := by decide +kernel
theorem dX0_init_4 : decode cX0_init 4 = .ok (.aload_n 0, 1) := by decide +kernel
theorem dX0_init_5 : decode cX0_init 5 = .ok (.iconst 4, 1) := by decide +kernel
theorem dX0_init_6 : decode cX0_init 6 = .ok (.bipush 16, 2) := by decide +kernel
theorem dX0_init_8 : decode cX0_init 8 = .ok (.multianewarray 9 2, 4) := by decide +kernel
theorem dX0_init_12 : decode cX0_init 12 = .ok (.putfield 11, 3) := by decide +kernel
theorem dX0_init_15 : decode cX0_init 15 = .ok (.aload_n 0, 1) := by decide +kernel
theorem dX0_init_16 : decode cX0_init 16 = .ok (.iconst 4, 1) := by decide +kernel
theorem dX0_init_17 : decode cX0_init 17 = .ok (.newarray .boolean, 2) := by decide +kernel
theorem dX0_init_19 : decode cX0_init 19 = .ok (.putfield 16, 3) := by decide +kernel
theorem dX0_init_22 : decode cX0_init 22 = .ok (.aload_n 0, 1) := by decide +kernel
theorem dX0_init_23 : decode cX0_init 23 = .ok (.bipush 16, 2) := by decide +kernel
theorem dX0_init_25 : decode cX0_init 25 = .ok (.newarray .int, 2) := by decide +kernel
theorem dX0_init_27 : decode cX0_init 27 = .ok (.putfield 20, 3) := by decide +kernel
theorem dX0_init_30 : decode cX0_init 30 = .ok (.aload_n 0, 1) := by decide +kernel
theorem dX0_init_31 : decode cX0_init 31 = .ok (.iconst 0, 1) := by decide +kernel
theorem dX0_init_32 : decode cX0_init 32 = .ok (.putfield 24, 3) := by decide +kernel
theorem dX0_init_35 : decode cX0_init 35 = .ok (.aload_n 0, 1) := by decide +kernel
theorem dX0_init_36 : decode cX0_init 36 = .ok (.getfield 20, 3) := by decide +kernel
theorem dX0_init_39 : decode cX0_init 39 = .ok (.bipush 16, 2) := by decide +kernel
theorem dX0_init_41 : decode cX0_init 41 = .ok (.invokestatic 28, 3) := by decide +kernel
theorem dX0_init_44 : decode cX0_init 44 = .ok (.return_, 1) := by decide +kernel
theorem dX0_copyFrom_0 : decode cX0_copyFrom 0 = .ok (.iconst 0, 1) := by decide +kernel
theorem dX0_copyFrom_1 : decode cX0_copyFrom 1 = .ok (.istore_n 2, 1) := by decide +kernel
theorem dX0_copyFrom_2 : decode cX0_copyFrom 2 = .ok (.iload_n 2, 1) := by decide +kernel
theorem dX0_copyFrom_3 : decode cX0_copyFrom 3 = .ok (.iconst 4, 1) := by decide +kernel
theorem dX0_copyFrom_4 : decode cX0_copyFrom 4 = .ok (.if_icmp .ge 36, 3) := by decide +kernel
theorem dX0_copyFrom_7 : decode cX0_copyFrom 7 = .ok (.aload_n 1, 1) := by decide +kernel
theorem dX0_copyFrom_8 : decode cX0_copyFrom 8 = .ok (.getfield 11, 3) := by decide +kernel
theorem dX0_copyFrom_11 : decode cX0_copyFrom 11 = .ok (.iload_n 2, 1) := by decide +kernel
theorem dX0_copyFrom_12 : decode cX0_copyFrom 12 = .ok (.aaload, 1) := by decide +kernel
theorem dX0_copyFrom_13 : decode cX0_copyFrom 13 = .ok (.aload_n 0, 1) := by decide +kernel
theorem dX0_copyFrom_14 : decode cX0_copyFrom 14 = .ok (.getfield 11, 3) := by decide +kernel
theorem dX0_copyFrom_17 : decode cX0_copyFrom 17 = .ok (.iload_n 2, 1) := by decide +kernel
theorem dX0_copyFrom_18 : decode cX0_copyFrom 18 = .ok (.aaload, 1) := by decide +kernel
theorem dX0_copyFrom_19 : decode cX0_copyFrom 19 = .ok (.invokestatic 34, 3) := by decide +kernel
theorem dX0_copyFrom_22 : decode cX0_copyFrom 22 = .ok (.aload_n 0, 1) := by decide +kernel
theorem dX0_copyFrom_23 : decode cX0_copyFrom 23 = .ok (.getfield 16, 3) := by decide +kernel
theorem dX0_copyFrom_26 : decode cX0_copyFrom 26 = .ok (.iload_n 2, 1) := by decide +kernel
theorem dX0_copyFrom_27 : decode cX0_copyFrom 27 = .ok (.aload_n 1, 1) := by decide +kernel
theorem dX0_copyFrom_28 : decode cX0_copyFrom 28 = .ok (.getfield 16, 3) := by decide +kernel
theorem dX0_copyFrom_31 : decode cX0_copyFrom 31 = .ok (.iload_n 2, 1) := by decide +kernel
theorem dX0_copyFrom_32 : decode cX0_copyFrom 32 = .ok (.baload, 1) := by decide +kernel
theorem dX0_copyFrom_33 : decode cX0_copyFrom 33 = .ok (.bastore, 1) := by decide +kernel
theorem dX0_copyFrom_34 : decode cX0_copyFrom 34 = .ok (.iinc 2 1, 3) := by decide +kernel
theorem dX0_copyFrom_37 : decode cX0_copyFrom 37 = .ok (.goto (-35), 3) := by decide +kernel
theorem dX0_copyFrom_40 : decode cX0_copyFrom 40 = .ok (.aload_n 1, 1) := by decide +kernel
theorem dX0_copyFrom_41 : decode cX0_copyFrom 41 = .ok (.getfield 20, 3) := by decide +kernel
theorem dX0_copyFrom_44 : decode cX0_copyFrom 44 = .ok (.aload_n 0, 1) := by decide +kernel
theorem dX0_copyFrom_45 : decode cX0_copyFrom 45 = .ok (.getfield 20, 3) := by decide +kernel
theorem dX0_copyFrom_48 : decode cX0_copyFrom 48 = .ok (.invokestatic 34, 3) := by decide +kernel
theorem dX0_copyFrom_51 : decode cX0_copyFrom 51 = .ok (.aload_n 0, 1) := by decide +kernel
theorem dX0_copyFrom_52 : decode cX0_copyFrom 52 = .ok (.aload_n 1, 1) := by decide +kernel
theorem dX0_copyFrom_53 : decode cX0_copyFrom 53 = .ok (.getfield 24, 3) := by decide +kernel
theorem dX0_copyFrom_56 : decode cX0_copyFrom 56 = .ok (.putfield 24, 3) := by decide +kernel
theorem dX0_copyFrom_59 : decode cX0_copyFrom 59 = .ok (.return_, 1) := by decide +kernel
theorem dX0_settle_0 : decode cX0_settle 0 = .ok (.iconst 0, 1) := by decide +kernel
theorem dX0_settle_1 : decode cX0_settle 1 = .ok (.istore_n 1, 1) := by decide +kernel
theorem dX0_settle_2 : decode cX0_settle 2 = .ok (.iconst 0, 1) := by decide +kernel
theorem dX0_settle_3 : decode cX0_settle 3 = .ok (.istore_n 2, 1) := by decide +kernel
theorem dX0_settle_4 : decode cX0_settle 4 = .ok (.iload_n 2, 1) := by decide +kernel
theorem dX0_settle_5 : decode cX0_settle 5 = .ok (.bipush 16, 2) := by decide +kernel
theorem dX0_settle_7 : decode cX0_settle 7 = .ok (.if_icmp .ge 57, 3) := by decide +kernel
theorem dX0_settle_10 : decode cX0_settle 10 = .ok (.aload_n 0, 1) := by decide +kernel
theorem dX0_settle_11 : decode cX0_settle 11 = .ok (.iload_n 2, 1) := by decide +kernel
theorem dX0_settle_12 : decode cX0_settle 12 = .ok (.invokevirtual 40, 3) := by decide +kernel
theorem dX0_settle_15 : decode cX0_settle 15 = .ok (.istore_n 3, 1) := by decide +kernel
theorem dX0_settle_16 : decode cX0_settle 16 = .ok (.iload_n 3, 1) := by decide +kernel
theorem dX0_settle_17 : decode cX0_settle 17 = .ok (.iconst (-1), 1) := by decide +kernel
theorem dX0_settle_18 : decode cX0_settle 18 = .ok (.if_icmp .ne 8, 3) := by decide +kernel
theorem dX0_settle_21 : decode cX0_settle 21 = .ok (.bipush 16, 2) := by decide +kernel
theorem dX0_settle_23 : decode cX0_settle 23 = .ok (.goto 11, 3) := by decide +kernel
theorem dX0_settle_26 : decode cX0_settle 26 = .ok (.aload_n 0, 1) := by decide +kernel
theorem dX0_settle_27 : decode cX0_settle 27 = .ok (.getfield 11, 3) := by decide +kernel
theorem dX0_settle_30 : decode cX0_settle 30 = .ok (.iload_n 3, 1) := by decide +kernel
theorem dX0_settle_31 : decode cX0_settle 31 = .ok (.aaload, 1) := by decide +kernel
theorem dX0_settle_32 : decode cX0_settle 32 = .ok (.iload_n 2, 1) := by decide +kernel
theorem dX0_settle_33 : decode cX0_settle 33 = .ok (.iaload, 1) := by decide +kernel
theorem dX0_settle_34 : decode cX0_settle 34 = .ok (.istore 4, 2) := by decide +kernel
theorem dX0_settle_36 : decode cX0_settle 36 = .ok (.aload_n 0, 1) := by decide +kernel
theorem dX0_settle_37 : decode cX0_settle 37 = .ok (.getfield 20, 3) := by decide +kernel
theorem dX0_settle_40 : decode cX0_settle 40 = .ok (.iload_n 2, 1) := by decide +kernel
theorem dX0_settle_41 : decode cX0_settle 41 = .ok (.iaload, 1) := by decide +kernel
theorem dX0_settle_42 : decode cX0_settle 42 = .ok (.iload 4, 2) := by decide +kernel
theorem dX0_settle_44 : decode cX0_settle 44 = .ok (.if_icmp .eq 6, 3) := by decide +kernel
theorem dX0_settle_47 : decode cX0_settle 47 = .ok (.iinc 1 1, 3) := by decide +kernel
theorem dX0_settle_50 : decode cX0_settle 50 = .ok (.aload_n 0, 1) := by decide +kernel
theorem dX0_settle_51 : decode cX0_settle 51 = .ok (.getfield 20, 3) := by decide +kernel
theorem dX0_settle_54 : decode cX0_settle 54 = .ok (.iload_n 2, 1) := by decide +kernel
theorem dX0_settle_55 : decode cX0_settle 55 = .ok (.iload 4, 2) := by decide +kernel
theorem dX0_settle_57 : decode cX0_settle 57 = .ok (.iastore, 1) := by decide +kernel
theorem dX0_settle_58 : decode cX0_settle 58 = .ok (.iinc 2 1, 3) := by decide +kernel
theorem dX0_settle_61 : decode cX0_settle 61 = .ok (.goto (-57), 3) := by decide +kernel
theorem dX0_settle_64 : decode cX0_settle 64 = .ok (.iload_n 1, 1) := by decide +kernel
theorem dX0_settle_65 : decode cX0_settle 65 = .ok (.ireturn, 1) := by decide +kernel
theorem dX0_tellingLayer_0 : decode cX0_tellingLayer 0 = .ok (.iconst 3, 1) := by decide +kernel
theorem dX0_tellingLayer_1 : decode cX0_tellingLayer 1 = .ok (.istore_n 2, 1) := by decide +kernel
theorem dX0_tellingLayer_2 : decode cX0_tellingLayer 2 = .ok (.iload_n 2, 1) := by decide +kernel
theorem dX0_tellingLayer_3 : decode cX0_tellingLayer 3 = .ok (.ifCond .lt 41, 3) := by decide +kernel
theorem dX0_tellingLayer_6 : decode cX0_tellingLayer 6 = .ok (.iload_n 2, 1) := by decide +kernel
theorem dX0_tellingLayer_7 : decode cX0_tellingLayer 7 = .ok (.aload_n 0, 1) := by decide +kernel
theorem dX0_tellingLayer_8 : decode cX0_tellingLayer 8 = .ok (.getfield 24, 3) := by decide +kernel
theorem dX0_tellingLayer_11 : decode cX0_tellingLayer 11 = .ok (.if_icmp .ge 27, 3) := by decide +kernel
theorem dX0_tellingLayer_14 : decode cX0_tellingLayer 14 = .ok (.aload_n 0, 1) := by decide +kernel
theorem dX0_tellingLayer_15 : decode cX0_tellingLayer 15 = .ok (.getfield 16, 3) := by decide +kernel
theorem dX0_tellingLayer_18 : decode cX0_tellingLayer 18 = .ok (.iload_n 2, 1) := by decide +kernel
theorem dX0_tellingLayer_19 : decode cX0_tellingLayer 19 = .ok (.baload, 1) := by decide +kernel
theorem dX0_tellingLayer_20 : decode cX0_tellingLayer 20 = .ok (.ifCond .eq 18, 3) := by decide +kernel
theorem dX0_tellingLayer_23 : decode cX0_tellingLayer 23 = .ok (.aload_n 0, 1) := by decide +kernel
theorem dX0_tellingLayer_24 : decode cX0_tellingLayer 24 = .ok (.getfield 11, 3) := by decide +kernel
theorem dX0_tellingLayer_27 : decode cX0_tellingLayer 27 = .ok (.iload_n 2, 1) := by decide +kernel
theorem dX0_tellingLayer_28 : decode cX0_tellingLayer 28 = .ok (.aaload, 1) := by decide +kernel
theorem dX0_tellingLayer_29 : decode cX0_tellingLayer 29 = .ok (.iload_n 1, 1) := by decide +kernel
theorem dX0_tellingLayer_30 : decode cX0_tellingLayer 30 = .ok (.iaload, 1) := by decide +kernel
theorem dX0_tellingLayer_31 : decode cX0_tellingLayer 31 = .ok (.bipush 17, 2) := by decide +kernel
theorem dX0_tellingLayer_33 : decode cX0_tellingLayer 33 = .ok (.if_icmp .eq 5, 3) := by decide +kernel
theorem dX0_tellingLayer_36 : decode cX0_tellingLayer 36 = .ok (.iload_n 2, 1) := by decide +kernel
theorem dX0_tellingLayer_37 : decode cX0_tellingLayer 37 = .ok (.ireturn, 1) := by decide +kernel
theorem dX0_tellingLayer_38 : decode cX0_tellingLayer 38 = .ok (.iinc 2 (-1), 3) := by decide +kernel
theorem dX0_tellingLayer_41 : decode cX0_tellingLayer 41 = .ok (.goto (-39), 3) := by decide +kernel
theorem dX0_tellingLayer_44 : decode cX0_tellingLayer 44 = .ok (.iconst (-1), 1) := by decide +kernel
theorem dX0_tellingLayer_45 : decode cX0_tellingLayer 45 = .ok (.ireturn, 1) := by decide +kernel
theorem dX0_addLayer_0 : decode cX0_addLayer 0 = .ok (.aload_n 0, 1) := by decide +kernel
theorem dX0_addLayer_1 : decode cX0_addLayer 1 = .ok (.getfield 24, 3) := by decide +kernel
theorem dX0_addLayer_4 : decode cX0_addLayer 4 = .ok (.iconst 4, 1) := by decide +kernel
theorem dX0_addLayer_5 : decode cX0_addLayer 5 = .ok (.if_icmp .lt 4, 3) := by decide +kernel
theorem dX0_addLayer_8 : decode cX0_addLayer 8 = .ok (.return_, 1) := by decide +kernel
theorem dX0_addLayer_9 : decode cX0_addLayer 9 = .ok (.aload_n 1, 1) := by decide +kernel
theorem dX0_addLayer_10 : decode cX0_addLayer 10 = .ok (.aload_n 0, 1) := by decide +kernel
theorem dX0_addLayer_11 : decode cX0_addLayer 11 = .ok (.getfield 11, 3) := by decide +kernel
theorem dX0_addLayer_14 : decode cX0_addLayer 14 = .ok (.aload_n 0, 1) := by decide +kernel
theorem dX0_addLayer_15 : decode cX0_addLayer 15 = .ok (.getfield 24, 3) := by decide +kernel
theorem dX0_addLayer_18 : decode cX0_addLayer 18 = .ok (.aaload, 1) := by decide +kernel
theorem dX0_addLayer_19 : decode cX0_addLayer 19 = .ok (.invokestatic 34, 3) := by decide +kernel
theorem dX0_addLayer_22 : decode cX0_addLayer 22 = .ok (.aload_n 0, 1) := by decide +kernel
theorem dX0_addLayer_23 : decode cX0_addLayer 23 = .ok (.getfield 16, 3) := by decide +kernel
theorem dX0_addLayer_26 : decode cX0_addLayer 26 = .ok (.aload_n 0, 1) := by decide +kernel
theorem dX0_addLayer_27 : decode cX0_addLayer 27 = .ok (.getfield 24, 3) := by decide +kernel
theorem dX0_addLayer_30 : decode cX0_addLayer 30 = .ok (.iconst 1, 1) := by decide +kernel
theorem dX0_addLayer_31 : decode cX0_addLayer 31 = .ok (.bastore, 1) := by decide +kernel
theorem dX0_addLayer_32 : decode cX0_addLayer 32 = .ok (.aload_n 0, 1) := by decide +kernel
theorem dX0_addLayer_33 : decode cX0_addLayer 33 = .ok (.dup, 1) := by decide +kernel
theorem dX0_addLayer_34 : decode cX0_addLayer 34 = .ok (.getfield 24, 3) := by decide +kernel
theorem dX0_addLayer_37 : decode cX0_addLayer 37 = .ok (.iconst 1, 1) := by decide +kernel
theorem dX0_addLayer_38 : decode cX0_addLayer 38 = .ok (.iadd, 1) := by decide +kernel
theorem dX0_addLayer_39 : decode cX0_addLayer 39 = .ok (.putfield 24, 3) := by decide +kernel
theorem dX0_addLayer_42 : decode cX0_addLayer 42 = .ok (.aload_n 0, 1) := by decide +kernel
theorem dX0_addLayer_43 : decode cX0_addLayer 43 = .ok (.invokevirtual 44, 3) := by decide +kernel
theorem dX0_addLayer_46 : decode cX0_addLayer 46 = .ok (.pop, 1) := by decide +kernel
theorem dX0_addLayer_47 : decode cX0_addLayer 47 = .ok (.return_, 1) := by decide +kernel
theorem dX0_removeTop_0 : decode cX0_removeTop 0 = .ok (.aload_n 0, 1) := by decide +kernel
theorem dX0_removeTop_1 : decode cX0_removeTop 1 = .ok (.getfield 24, 3) := by decide +kernel
theorem dX0_removeTop_4 : decode cX0_removeTop 4 = .ok (.ifCond .gt 5, 3) := by decide +kernel
theorem dX0_removeTop_7 : decode cX0_removeTop 7 = .ok (.iconst 0, 1) := by decide +kernel
theorem dX0_removeTop_8 : decode cX0_removeTop 8 = .ok (.ireturn, 1) := by decide +kernel
theorem dX0_removeTop_9 : decode cX0_removeTop 9 = .ok (.aload_n 0, 1) := by decide +kernel
theorem dX0_removeTop_10 : decode cX0_removeTop 10 = .ok (.dup, 1) := by decide +kernel
theorem dX0_removeTop_11 : decode cX0_removeTop 11 = .ok (.getfield 24, 3) := by decide +kernel
theorem dX0_removeTop_14 : decode cX0_removeTop 14 = .ok (.iconst 1, 1) := by decide +kernel
theorem dX0_removeTop_15 : decode cX0_removeTop 15 = .ok (.isub, 1) := by decide +kernel
theorem dX0_removeTop_16 : decode cX0_removeTop 16 = .ok (.putfield 24, 3) := by decide +kernel
theorem dX0_removeTop_19 : decode cX0_removeTop 19 = .ok (.aload_n 0, 1) := by decide +kernel
theorem dX0_removeTop_20 : decode cX0_removeTop 20 = .ok (.invokevirtual 44, 3) := by decide +kernel
theorem dX0_removeTop_23 : decode cX0_removeTop 23 = .ok (.pop, 1) := by decide +kernel
theorem dX0_removeTop_24 : decode cX0_removeTop 24 = .ok (.aload_n 0, 1) := by decide +kernel
theorem dX0_removeTop_25 : decode cX0_removeTop 25 = .ok (.aload_n 0, 1) := by decide +kernel
theorem dX0_removeTop_26 : decode cX0_removeTop 26 = .ok (.getfield 24, 3) := by decide +kernel
theorem dX0_removeTop_29 : decode cX0_removeTop 29 = .ok (.invokevirtual 48, 3) := by decide +kernel
theorem dX0_removeTop_32 : decode cX0_removeTop 32 = .ok (.ireturn, 1) := by decide +kernel
theorem dX0_becomeOneLayer_0 : decode cX0_becomeOneLayer 0 = .ok (.iconst 0, 1) := by decide +kernel
theorem dX0_becomeOneLayer_1 : decode cX0_becomeOneLayer 1 = .ok (.istore_n 2, 1) := by decide +kernel
theorem dX0_becomeOneLayer_2 : decode cX0_becomeOneLayer 2 = .ok (.iload_n 2, 1) := by decide +kernel
theorem dX0_becomeOneLayer_3 : decode cX0_becomeOneLayer 3 = .ok (.bipush 16, 2) := by decide +kernel
theorem dX0_becomeOneLayer_5 : decode cX0_becomeOneLayer 5 = .ok (.if_icmp .ge 33, 3) := by decide +kernel
theorem dX0_becomeOneLayer_8 : decode cX0_becomeOneLayer 8 = .ok (.aload_n 0, 1) := by decide +kernel
theorem dX0_becomeOneLayer_9 : decode cX0_becomeOneLayer 9 = .ok (.getfield 11, 3) := by decide +kernel
theorem dX0_becomeOneLayer_12 : decode cX0_becomeOneLayer 12 = .ok (.iconst 0, 1) := by decide +kernel
theorem dX0_becomeOneLayer_13 : decode cX0_becomeOneLayer 13 = .ok (.aaload, 1) := by decide +kernel
theorem dX0_becomeOneLayer_14 : decode cX0_becomeOneLayer 14 = .ok (.iload_n 2, 1) := by decide +kernel
theorem dX0_becomeOneLayer_15 : decode cX0_becomeOneLayer 15 = .ok (.aload_n 1, 1) := by decide +kernel
theorem dX0_becomeOneLayer_16 : decode cX0_becomeOneLayer 16 = .ok (.iload_n 2, 1) := by decide +kernel
theorem dX0_becomeOneLayer_17 : decode cX0_becomeOneLayer 17 = .ok (.iaload, 1) := by decide +kernel
theorem dX0_becomeOneLayer_18 : decode cX0_becomeOneLayer 18 = .ok (.bipush 16, 2) := by decide +kernel
theorem dX0_becomeOneLayer_20 : decode cX0_becomeOneLayer 20 = .ok (.if_icmp .ne 8, 3) := by decide +kernel
theorem dX0_becomeOneLayer_23 : decode cX0_becomeOneLayer 23 = .ok (.bipush 17, 2) := by decide +kernel
theorem dX0_becomeOneLayer_25 : decode cX0_becomeOneLayer 25 = .ok (.goto 6, 3) := by decide +kernel
theorem dX0_becomeOneLayer_28 : decode cX0_becomeOneLayer 28 = .ok (.aload_n 1, 1) := by decide +kernel
theorem dX0_becomeOneLayer_29 : decode cX0_becomeOneLayer 29 = .ok (.iload_n 2, 1) := by decide +kernel
theorem dX0_becomeOneLayer_30 : decode cX0_becomeOneLayer 30 = .ok (.iaload, 1) := by decide +kernel
theorem dX0_becomeOneLayer_31 : decode cX0_becomeOneLayer 31 = .ok (.iastore, 1) := by decide +kernel
theorem dX0_becomeOneLayer_32 : decode cX0_becomeOneLayer 32 = .ok (.iinc 2 1, 3) := by decide +kernel
theorem dX0_becomeOneLayer_35 : decode cX0_becomeOneLayer 35 = .ok (.goto (-33), 3) := by decide +kernel
theorem dX0_becomeOneLayer_38 : decode cX0_becomeOneLayer 38 = .ok (.aload_n 0, 1) := by decide +kernel
theorem dX0_becomeOneLayer_39 : decode cX0_becomeOneLayer 39 = .ok (.getfield 16, 3) := by decide +kernel
theorem dX0_becomeOneLayer_42 : decode cX0_becomeOneLayer 42 = .ok (.iconst 0, 1) := by decide +kernel
theorem dX0_becomeOneLayer_43 : decode cX0_becomeOneLayer 43 = .ok (.iconst 1, 1) := by decide +kernel
theorem dX0_becomeOneLayer_44 : decode cX0_becomeOneLayer 44 = .ok (.bastore, 1) := by decide +kernel
theorem dX0_becomeOneLayer_45 : decode cX0_becomeOneLayer 45 = .ok (.aload_n 0, 1) := by decide +kernel
theorem dX0_becomeOneLayer_46 : decode cX0_becomeOneLayer 46 = .ok (.iconst 1, 1) := by decide +kernel
theorem dX0_becomeOneLayer_47 : decode cX0_becomeOneLayer 47 = .ok (.putfield 24, 3) := by decide +kernel
theorem dX0_becomeOneLayer_50 : decode cX0_becomeOneLayer 50 = .ok (.aload_n 0, 1) := by decide +kernel
theorem dX0_becomeOneLayer_51 : decode cX0_becomeOneLayer 51 = .ok (.invokevirtual 44, 3) := by decide +kernel
theorem dX0_becomeOneLayer_54 : decode cX0_becomeOneLayer 54 = .ok (.pop, 1) := by decide +kernel
theorem dX0_becomeOneLayer_55 : decode cX0_becomeOneLayer 55 = .ok (.aload_n 0, 1) := by decide +kernel
theorem dX0_becomeOneLayer_56 : decode cX0_becomeOneLayer 56 = .ok (.iconst 0, 1) := by decide +kernel
theorem dX0_becomeOneLayer_57 : decode cX0_becomeOneLayer 57 = .ok (.invokevirtual 48, 3) := by decide +kernel
theorem dX0_becomeOneLayer_60 : decode cX0_becomeOneLayer 60 = .ok (.ireturn, 1) := by decide +kernel
theorem dX0_moveLayer_0 : decode cX0_moveLayer 0 = .ok (.iload_n 1, 1) := by decide +kernel
theorem dX0_moveLayer_1 : decode cX0_moveLayer 1 = .ok (.istore_n 3, 1) := by decide +kernel
theorem dX0_moveLayer_2 : decode cX0_moveLayer 2 = .ok (.iload_n 3, 1) := by decide +kernel
theorem dX0_moveLayer_3 : decode cX0_moveLayer 3 = .ok (.iload_n 2, 1) := by decide +kernel
theorem dX0_moveLayer_4 : decode cX0_moveLayer 4 = .ok (.if_icmp .ge 14, 3) := by decide +kernel
theorem dX0_moveLayer_7 : decode cX0_moveLayer 7 = .ok (.aload_n 0, 1) := by decide +kernel
theorem dX0_moveLayer_8 : decode cX0_moveLayer 8 = .ok (.iload_n 3, 1) := by decide +kernel
theorem dX0_moveLayer_9 : decode cX0_moveLayer 9 = .ok (.invokevirtual 51, 3) := by decide +kernel
theorem dX0_moveLayer_12 : decode cX0_moveLayer 12 = .ok (.iinc 3 1, 3) := by decide +kernel
theorem dX0_moveLayer_15 : decode cX0_moveLayer 15 = .ok (.goto (-13), 3) := by decide +kernel
theorem dX0_moveLayer_18 : decode cX0_moveLayer 18 = .ok (.iload_n 1, 1) := by decide +kernel
theorem dX0_moveLayer_19 : decode cX0_moveLayer 19 = .ok (.istore_n 3, 1) := by decide +kernel
theorem dX0_moveLayer_20 : decode cX0_moveLayer 20 = .ok (.iload_n 3, 1) := by decide +kernel
theorem dX0_moveLayer_21 : decode cX0_moveLayer 21 = .ok (.iload_n 2, 1) := by decide +kernel
theorem dX0_moveLayer_22 : decode cX0_moveLayer 22 = .ok (.if_icmp .le 16, 3) := by decide +kernel
theorem dX0_moveLayer_25 : decode cX0_moveLayer 25 = .ok (.aload_n 0, 1) := by decide +kernel
theorem dX0_moveLayer_26 : decode cX0_moveLayer 26 = .ok (.iload_n 3, 1) := by decide +kernel
theorem dX0_moveLayer_27 : decode cX0_moveLayer 27 = .ok (.iconst 1, 1) := by decide +kernel
theorem dX0_moveLayer_28 : decode cX0_moveLayer 28 = .ok (.isub, 1) := by decide +kernel
theorem dX0_moveLayer_29 : decode cX0_moveLayer 29 = .ok (.invokevirtual 51, 3) := by decide +kernel
theorem dX0_moveLayer_32 : decode cX0_moveLayer 32 = .ok (.iinc 3 (-1), 3) := by decide +kernel
theorem dX0_moveLayer_35 : decode cX0_moveLayer 35 = .ok (.goto (-15), 3) := by decide +kernel
theorem dX0_moveLayer_38 : decode cX0_moveLayer 38 = .ok (.return_, 1) := by decide +kernel
theorem dX0_swapWithNext_0 : decode cX0_swapWithNext 0 = .ok (.iload_n 1, 1) := by decide +kernel
theorem dX0_swapWithNext_1 : decode cX0_swapWithNext 1 = .ok (.ifCond .lt 10, 3) := by decide +kernel
theorem dX0_swapWithNext_4 : decode cX0_swapWithNext 4 = .ok (.iload_n 1, 1) := by decide +kernel
theorem dX0_swapWithNext_5 : decode cX0_swapWithNext 5 = .ok (.iconst 1, 1) := by decide +kernel
theorem dX0_swapWithNext_6 : decode cX0_swapWithNext 6 = .ok (.iadd, 1) := by decide +kernel
theorem dX0_swapWithNext_7 : decode cX0_swapWithNext 7 = .ok (.iconst 4, 1) := by decide +kernel
theorem dX0_swapWithNext_8 : decode cX0_swapWithNext 8 = .ok (.if_icmp .lt 4, 3) := by decide +kernel
theorem dX0_swapWithNext_11 : decode cX0_swapWithNext 11 = .ok (.return_, 1) := by decide +kernel
theorem dX0_swapWithNext_12 : decode cX0_swapWithNext 12 = .ok (.iconst 0, 1) := by decide +kernel
theorem dX0_swapWithNext_13 : decode cX0_swapWithNext 13 = .ok (.istore_n 2, 1) := by decide +kernel
theorem dX0_swapWithNext_14 : decode cX0_swapWithNext 14 = .ok (.iload_n 2, 1) := by decide +kernel
theorem dX0_swapWithNext_15 : decode cX0_swapWithNext 15 = .ok (.bipush 16, 2) := by decide +kernel
theorem dX0_swapWithNext_17 : decode cX0_swapWithNext 17 = .ok (.if_icmp .ge 47, 3) := by decide +kernel
theorem dX0_swapWithNext_20 : decode cX0_swapWithNext 20 = .ok (.aload_n 0, 1) := by decide +kernel
theorem dX0_swapWithNext_21 : decode cX0_swapWithNext 21 = .ok (.getfield 11, 3) := by decide +kernel
theorem dX0_swapWithNext_24 : decode cX0_swapWithNext 24 = .ok (.iload_n 1, 1) := by decide +kernel
theorem dX0_swapWithNext_25 : decode cX0_swapWithNext 25 = .ok (.aaload, 1) := by decide +kernel
theorem dX0_swapWithNext_26 : decode cX0_swapWithNext 26 = .ok (.iload_n 2, 1) := by decide +kernel
theorem dX0_swapWithNext_27 : decode cX0_swapWithNext 27 = .ok (.iaload, 1) := by decide +kernel
theorem dX0_swapWithNext_28 : decode cX0_swapWithNext 28 = .ok (.istore_n 3, 1) := by decide +kernel
theorem dX0_swapWithNext_29 : decode cX0_swapWithNext 29 = .ok (.aload_n 0, 1) := by decide +kernel
theorem dX0_swapWithNext_30 : decode cX0_swapWithNext 30 = .ok (.getfield 11, 3) := by decide +kernel
theorem dX0_swapWithNext_33 : decode cX0_swapWithNext 33 = .ok (.iload_n 1, 1) := by decide +kernel
theorem dX0_swapWithNext_34 : decode cX0_swapWithNext 34 = .ok (.aaload, 1) := by decide +kernel
theorem dX0_swapWithNext_35 : decode cX0_swapWithNext 35 = .ok (.iload_n 2, 1) := by decide +kernel
theorem dX0_swapWithNext_36 : decode cX0_swapWithNext 36 = .ok (.aload_n 0, 1) := by decide +kernel
theorem dX0_swapWithNext_37 : decode cX0_swapWithNext 37 = .ok (.getfield 11, 3) := by decide +kernel
theorem dX0_swapWithNext_40 : decode cX0_swapWithNext 40 = .ok (.iload_n 1, 1) := by decide +kernel
theorem dX0_swapWithNext_41 : decode cX0_swapWithNext 41 = .ok (.iconst 1, 1) := by decide +kernel
theorem dX0_swapWithNext_42 : decode cX0_swapWithNext 42 = .ok (.iadd, 1) := by decide +kernel
theorem dX0_swapWithNext_43 : decode cX0_swapWithNext 43 = .ok (.aaload, 1) := by decide +kernel
theorem dX0_swapWithNext_44 : decode cX0_swapWithNext 44 = .ok (.iload_n 2, 1) := by decide +kernel
theorem dX0_swapWithNext_45 : decode cX0_swapWithNext 45 = .ok (.iaload, 1) := by decide +kernel
theorem dX0_swapWithNext_46 : decode cX0_swapWithNext 46 = .ok (.iastore, 1) := by decide +kernel
theorem dX0_swapWithNext_47 : decode cX0_swapWithNext 47 = .ok (.aload_n 0, 1) := by decide +kernel
theorem dX0_swapWithNext_48 : decode cX0_swapWithNext 48 = .ok (.getfield 11, 3) := by decide +kernel
theorem dX0_swapWithNext_51 : decode cX0_swapWithNext 51 = .ok (.iload_n 1, 1) := by decide +kernel
theorem dX0_swapWithNext_52 : decode cX0_swapWithNext 52 = .ok (.iconst 1, 1) := by decide +kernel
theorem dX0_swapWithNext_53 : decode cX0_swapWithNext 53 = .ok (.iadd, 1) := by decide +kernel
theorem dX0_swapWithNext_54 : decode cX0_swapWithNext 54 = .ok (.aaload, 1) := by decide +kernel
theorem dX0_swapWithNext_55 : decode cX0_swapWithNext 55 = .ok (.iload_n 2, 1) := by decide +kernel
theorem dX0_swapWithNext_56 : decode cX0_swapWithNext 56 = .ok (.iload_n 3, 1) := by decide +kernel
theorem dX0_swapWithNext_57 : decode cX0_swapWithNext 57 = .ok (.iastore, 1) := by decide +kernel
theorem dX0_swapWithNext_58 : decode cX0_swapWithNext 58 = .ok (.iinc 2 1, 3) := by decide +kernel
theorem dX0_swapWithNext_61 : decode cX0_swapWithNext 61 = .ok (.goto (-47), 3) := by decide +kernel
theorem dX0_swapWithNext_64 : decode cX0_swapWithNext 64 = .ok (.aload_n 0, 1) := by decide +kernel
theorem dX0_swapWithNext_65 : decode cX0_swapWithNext 65 = .ok (.getfield 16, 3) := by decide +kernel
theorem dX0_swapWithNext_68 : decode cX0_swapWithNext 68 = .ok (.iload_n 1, 1) := by decide +kernel
theorem dX0_swapWithNext_69 : decode cX0_swapWithNext 69 = .ok (.baload, 1) := by decide +kernel
theorem dX0_swapWithNext_70 : decode cX0_swapWithNext 70 = .ok (.istore_n 2, 1) := by decide +kernel
theorem dX0_swapWithNext_71 : decode cX0_swapWithNext 71 = .ok (.aload_n 0, 1) := by decide +kernel
theorem dX0_swapWithNext_72 : decode cX0_swapWithNext 72 = .ok (.getfield 16, 3) := by decide +kernel
theorem dX0_swapWithNext_75 : decode cX0_swapWithNext 75 = .ok (.iload_n 1, 1) := by decide +kernel
theorem dX0_swapWithNext_76 : decode cX0_swapWithNext 76 = .ok (.aload_n 0, 1) := by decide +kernel
theorem dX0_swapWithNext_77 : decode cX0_swapWithNext 77 = .ok (.getfield 16, 3) := by decide +kernel
theorem dX0_swapWithNext_80 : decode cX0_swapWithNext 80 = .ok (.iload_n 1, 1) := by decide +kernel
theorem dX0_swapWithNext_81 : decode cX0_swapWithNext 81 = .ok (.iconst 1, 1) := by decide +kernel
theorem dX0_swapWithNext_82 : decode cX0_swapWithNext 82 = .ok (.iadd, 1) := by decide +kernel
theorem dX0_swapWithNext_83 : decode cX0_swapWithNext 83 = .ok (.baload, 1) := by decide +kernel
theorem dX0_swapWithNext_84 : decode cX0_swapWithNext 84 = .ok (.bastore, 1) := by decide +kernel
theorem dX0_swapWithNext_85 : decode cX0_swapWithNext 85 = .ok (.aload_n 0, 1) := by decide +kernel
theorem dX0_swapWithNext_86 : decode cX0_swapWithNext 86 = .ok (.getfield 16, 3) := by decide +kernel
theorem dX0_swapWithNext_89 : decode cX0_swapWithNext 89 = .ok (.iload_n 1, 1) := by decide +kernel
theorem dX0_swapWithNext_90 : decode cX0_swapWithNext 90 = .ok (.iconst 1, 1) := by decide +kernel
theorem dX0_swapWithNext_91 : decode cX0_swapWithNext 91 = .ok (.iadd, 1) := by decide +kernel
theorem dX0_swapWithNext_92 : decode cX0_swapWithNext 92 = .ok (.iload_n 2, 1) := by decide +kernel
theorem dX0_swapWithNext_93 : decode cX0_swapWithNext 93 = .ok (.bastore, 1) := by decide +kernel
theorem dX0_swapWithNext_94 : decode cX0_swapWithNext 94 = .ok (.return_, 1) := by decide +kernel
theorem dX0_isFlat_0 : decode cX0_isFlat 0 = .ok (.aload_n 0, 1) := by decide +kernel
theorem dX0_isFlat_1 : decode cX0_isFlat 1 = .ok (.getfield 24, 3) := by decide +kernel
theorem dX0_isFlat_4 : decode cX0_isFlat 4 = .ok (.ifCond .eq 28, 3) := by decide +kernel
theorem dX0_isFlat_7 : decode cX0_isFlat 7 = .ok (.aload_n 0, 1) := by decide +kernel
theorem dX0_isFlat_8 : decode cX0_isFlat 8 = .ok (.getfield 24, 3) := by decide +kernel
theorem dX0_isFlat_11 : decode cX0_isFlat 11 = .ok (.iconst 1, 1) := by decide +kernel
theorem dX0_isFlat_12 : decode cX0_isFlat 12 = .ok (.if_icmp .ne 24, 3) := by decide +kernel
theorem dX0_isFlat_15 : decode cX0_isFlat 15 = .ok (.aload_n 0, 1) := by decide +kernel
theorem dX0_isFlat_16 : decode cX0_isFlat 16 = .ok (.getfield 16, 3) := by decide +kernel
theorem dX0_isFlat_19 : decode cX0_isFlat 19 = .ok (.iconst 0, 1) := by decide +kernel
theorem dX0_isFlat_20 : decode cX0_isFlat 20 = .ok (.baload, 1) := by decide +kernel
theorem dX0_isFlat_21 : decode cX0_isFlat 21 = .ok (.ifCond .eq 15, 3) := by decide +kernel
theorem dX0_isFlat_24 : decode cX0_isFlat 24 = .ok (.aload_n 0, 1) := by decide +kernel
theorem dX0_isFlat_25 : decode cX0_isFlat 25 = .ok (.iconst 0, 1) := by decide +kernel
theorem dX0_isFlat_26 : decode cX0_isFlat 26 = .ok (.invokevirtual 55, 3) := by decide +kernel
theorem dX0_isFlat_29 : decode cX0_isFlat 29 = .ok (.ifCond .ne 7, 3) := by decide +kernel
theorem dX0_isFlat_32 : decode cX0_isFlat 32 = .ok (.iconst 1, 1) := by decide +kernel
theorem dX0_isFlat_33 : decode cX0_isFlat 33 = .ok (.goto 4, 3) := by decide +kernel
theorem dX0_isFlat_36 : decode cX0_isFlat 36 = .ok (.iconst 0, 1) := by decide +kernel
theorem dX0_isFlat_37 : decode cX0_isFlat 37 = .ok (.ireturn, 1) := by decide +kernel
theorem dX0_layersOn_0 : decode cX0_layersOn 0 = .ok (.iconst 0, 1) := by decide +kernel
theorem dX0_layersOn_1 : decode cX0_layersOn 1 = .ok (.istore_n 1, 1) := by decide +kernel
theorem dX0_layersOn_2 : decode cX0_layersOn 2 = .ok (.iconst 0, 1) := by decide +kernel
theorem dX0_layersOn_3 : decode cX0_layersOn 3 = .ok (.istore_n 2, 1) := by decide +kernel
theorem dX0_layersOn_4 : decode cX0_layersOn 4 = .ok (.iload_n 2, 1) := by decide +kernel
theorem dX0_layersOn_5 : decode cX0_layersOn 5 = .ok (.aload_n 0, 1) := by decide +kernel
theorem dX0_layersOn_6 : decode cX0_layersOn 6 = .ok (.getfield 24, 3) := by decide +kernel
theorem dX0_layersOn_9 : decode cX0_layersOn 9 = .ok (.if_icmp .ge 26, 3) := by decide +kernel
theorem dX0_layersOn_12 : decode cX0_layersOn 12 = .ok (.iload_n 2, 1) := by decide +kernel
theorem dX0_layersOn_13 : decode cX0_layersOn 13 = .ok (.iconst 4, 1) := by decide +kernel
theorem dX0_layersOn_14 : decode cX0_layersOn 14 = .ok (.if_icmp .ge 21, 3) := by decide +kernel
theorem dX0_layersOn_17 : decode cX0_layersOn 17 = .ok (.aload_n 0, 1) := by decide +kernel
theorem dX0_layersOn_18 : decode cX0_layersOn 18 = .ok (.getfield 16, 3) := by decide +kernel
theorem dX0_layersOn_21 : decode cX0_layersOn 21 = .ok (.iload_n 2, 1) := by decide +kernel
theorem dX0_layersOn_22 : decode cX0_layersOn 22 = .ok (.baload, 1) := by decide +kernel
theorem dX0_layersOn_23 : decode cX0_layersOn 23 = .ok (.ifCond .eq 6, 3) := by decide +kernel
theorem dX0_layersOn_26 : decode cX0_layersOn 26 = .ok (.iinc 1 1, 3) := by decide +kernel
theorem dX0_layersOn_29 : decode cX0_layersOn 29 = .ok (.iinc 2 1, 3) := by decide +kernel
theorem dX0_layersOn_32 : decode cX0_layersOn 32 = .ok (.goto (-28), 3) := by decide +kernel
theorem dX0_layersOn_35 : decode cX0_layersOn 35 = .ok (.iload_n 1, 1) := by decide +kernel
theorem dX0_layersOn_36 : decode cX0_layersOn 36 = .ok (.ireturn, 1) := by decide +kernel
theorem dX0_entriesIn_0 : decode cX0_entriesIn 0 = .ok (.iconst 0, 1) := by decide +kernel
theorem dX0_entriesIn_1 : decode cX0_entriesIn 1 = .ok (.istore_n 2, 1) := by decide +kernel
theorem dX0_entriesIn_2 : decode cX0_entriesIn 2 = .ok (.iconst 0, 1) := by decide +kernel
theorem dX0_entriesIn_3 : decode cX0_entriesIn 3 = .ok (.istore_n 3, 1) := by decide +kernel
theorem dX0_entriesIn_4 : decode cX0_entriesIn 4 = .ok (.iload_n 3, 1) := by decide +kernel
theorem dX0_entriesIn_5 : decode cX0_entriesIn 5 = .ok (.bipush 16, 2) := by decide +kernel
theorem dX0_entriesIn_7 : decode cX0_entriesIn 7 = .ok (.if_icmp .ge 25, 3) := by decide +kernel
theorem dX0_entriesIn_10 : decode cX0_entriesIn 10 = .ok (.aload_n 0, 1) := by decide +kernel
theorem dX0_entriesIn_11 : decode cX0_entriesIn 11 = .ok (.getfield 11, 3) := by decide +kernel
theorem dX0_entriesIn_14 : decode cX0_entriesIn 14 = .ok (.iload_n 1, 1) := by decide +kernel
theorem dX0_entriesIn_15 : decode cX0_entriesIn 15 = .ok (.aaload, 1) := by decide +kernel
theorem dX0_entriesIn_16 : decode cX0_entriesIn 16 = .ok (.iload_n 3, 1) := by decide +kernel
theorem dX0_entriesIn_17 : decode cX0_entriesIn 17 = .ok (.iaload, 1) := by decide +kernel
theorem dX0_entriesIn_18 : decode cX0_entriesIn 18 = .ok (.bipush 17, 2) := by decide +kernel
theorem dX0_entriesIn_20 : decode cX0_entriesIn 20 = .ok (.if_icmp .eq 6, 3) := by decide +kernel
theorem dX0_entriesIn_23 : decode cX0_entriesIn 23 = .ok (.iinc 2 1, 3) := by decide +kernel
theorem dX0_entriesIn_26 : decode cX0_entriesIn 26 = .ok (.iinc 3 1, 3) := by decide +kernel
theorem dX0_entriesIn_29 : decode cX0_entriesIn 29 = .ok (.goto (-25), 3) := by decide +kernel
theorem dX0_entriesIn_32 : decode cX0_entriesIn 32 = .ok (.iload_n 2, 1) := by decide +kernel
theorem dX0_entriesIn_33 : decode cX0_entriesIn 33 = .ok (.ireturn, 1) := by decide +kernel
theorem dX0_nowhereIn_0 : decode cX0_nowhereIn 0 = .ok (.iconst 0, 1) := by decide +kernel
theorem dX0_nowhereIn_1 : decode cX0_nowhereIn 1 = .ok (.istore_n 2, 1) := by decide +kernel
theorem dX0_nowhereIn_2 : decode cX0_nowhereIn 2 = .ok (.iconst 0, 1) := by decide +kernel
theorem dX0_nowhereIn_3 : decode cX0_nowhereIn 3 = .ok (.istore_n 3, 1) := by decide +kernel
theorem dX0_nowhereIn_4 : decode cX0_nowhereIn 4 = .ok (.iload_n 3, 1) := by decide +kernel
theorem dX0_nowhereIn_5 : decode cX0_nowhereIn 5 = .ok (.bipush 16, 2) := by decide +kernel
theorem dX0_nowhereIn_7 : decode cX0_nowhereIn 7 = .ok (.if_icmp .ge 25, 3) := by decide +kernel
theorem dX0_nowhereIn_10 : decode cX0_nowhereIn 10 = .ok (.aload_n 0, 1) := by decide +kernel
theorem dX0_nowhereIn_11 : decode cX0_nowhereIn 11 = .ok (.getfield 11, 3) := by decide +kernel
theorem dX0_nowhereIn_14 : decode cX0_nowhereIn 14 = .ok (.iload_n 1, 1) := by decide +kernel
theorem dX0_nowhereIn_15 : decode cX0_nowhereIn 15 = .ok (.aaload, 1) := by decide +kernel
theorem dX0_nowhereIn_16 : decode cX0_nowhereIn 16 = .ok (.iload_n 3, 1) := by decide +kernel
theorem dX0_nowhereIn_17 : decode cX0_nowhereIn 17 = .ok (.iaload, 1) := by decide +kernel
theorem dX0_nowhereIn_18 : decode cX0_nowhereIn 18 = .ok (.bipush 16, 2) := by decide +kernel
theorem dX0_nowhereIn_20 : decode cX0_nowhereIn 20 = .ok (.if_icmp .ne 6, 3) := by decide +kernel
theorem dX0_nowhereIn_23 : decode cX0_nowhereIn 23 = .ok (.iinc 2 1, 3) := by decide +kernel
theorem dX0_nowhereIn_26 : decode cX0_nowhereIn 26 = .ok (.iinc 3 1, 3) := by decide +kernel
theorem dX0_nowhereIn_29 : decode cX0_nowhereIn 29 = .ok (.goto (-25), 3) := by decide +kernel
theorem dX0_nowhereIn_32 : decode cX0_nowhereIn 32 = .ok (.iload_n 2, 1) := by decide +kernel
theorem dX0_nowhereIn_33 : decode cX0_nowhereIn 33 = .ok (.ireturn, 1) := by decide +kernel
theorem dX0_shadowedIn_0 : decode cX0_shadowedIn 0 = .ok (.iconst 0, 1) := by decide +kernel
theorem dX0_shadowedIn_1 : decode cX0_shadowedIn 1 = .ok (.istore_n 2, 1) := by decide +kernel
theorem dX0_shadowedIn_2 : decode cX0_shadowedIn 2 = .ok (.iconst 0, 1) := by decide +kernel
theorem dX0_shadowedIn_3 : decode cX0_shadowedIn 3 = .ok (.istore_n 3, 1) := by decide +kernel
theorem dX0_shadowedIn_4 : decode cX0_shadowedIn 4 = .ok (.iload_n 3, 1) := by decide +kernel
theorem dX0_shadowedIn_5 : decode cX0_shadowedIn 5 = .ok (.bipush 16, 2) := by decide +kernel
theorem dX0_shadowedIn_7 : decode cX0_shadowedIn 7 = .ok (.if_icmp .ge 43, 3) := by decide +kernel
theorem dX0_shadowedIn_10 : decode cX0_shadowedIn 10 = .ok (.aload_n 0, 1) := by decide +kernel
theorem dX0_shadowedIn_11 : decode cX0_shadowedIn 11 = .ok (.getfield 16, 3) := by decide +kernel
theorem dX0_shadowedIn_14 : decode cX0_shadowedIn 14 = .ok (.iload_n 1, 1) := by decide +kernel
theorem dX0_shadowedIn_15 : decode cX0_shadowedIn 15 = .ok (.baload, 1) := by decide +kernel
theorem dX0_shadowedIn_16 : decode cX0_shadowedIn 16 = .ok (.ifCond .eq 28, 3) := by decide +kernel
theorem dX0_shadowedIn_19 : decode cX0_shadowedIn 19 = .ok (.aload_n 0, 1) := by decide +kernel
theorem dX0_shadowedIn_20 : decode cX0_shadowedIn 20 = .ok (.getfield 11, 3) := by decide +kernel
theorem dX0_shadowedIn_23 : decode cX0_shadowedIn 23 = .ok (.iload_n 1, 1) := by decide +kernel
theorem dX0_shadowedIn_24 : decode cX0_shadowedIn 24 = .ok (.aaload, 1) := by decide +kernel
theorem dX0_shadowedIn_25 : decode cX0_shadowedIn 25 = .ok (.iload_n 3, 1) := by decide +kernel
theorem dX0_shadowedIn_26 : decode cX0_shadowedIn 26 = .ok (.iaload, 1) := by decide +kernel
theorem dX0_shadowedIn_27 : decode cX0_shadowedIn 27 = .ok (.bipush 17, 2) := by decide +kernel
theorem dX0_shadowedIn_29 : decode cX0_shadowedIn 29 = .ok (.if_icmp .eq 15, 3) := by decide +kernel
theorem dX0_shadowedIn_32 : decode cX0_shadowedIn 32 = .ok (.aload_n 0, 1) := by decide +kernel
theorem dX0_shadowedIn_33 : decode cX0_shadowedIn 33 = .ok (.iload_n 3, 1) := by decide +kernel
theorem dX0_shadowedIn_34 : decode cX0_shadowedIn 34 = .ok (.invokevirtual 40, 3) := by decide +kernel
theorem dX0_shadowedIn_37 : decode cX0_shadowedIn 37 = .ok (.iload_n 1, 1) := by decide +kernel
theorem dX0_shadowedIn_38 : decode cX0_shadowedIn 38 = .ok (.if_icmp .le 6, 3) := by decide +kernel
theorem dX0_shadowedIn_41 : decode cX0_shadowedIn 41 = .ok (.iinc 2 1, 3) := by decide +kernel
theorem dX0_shadowedIn_44 : decode cX0_shadowedIn 44 = .ok (.iinc 3 1, 3) := by decide +kernel
theorem dX0_shadowedIn_47 : decode cX0_shadowedIn 47 = .ok (.goto (-43), 3) := by decide +kernel
theorem dX0_shadowedIn_50 : decode cX0_shadowedIn 50 = .ok (.iload_n 2, 1) := by decide +kernel
theorem dX0_shadowedIn_51 : decode cX0_shadowedIn 51 = .ok (.ireturn, 1) := by decide +kernel
theorem dX0_shadowed_0 : decode cX0_shadowed 0 = .ok (.iconst 0, 1) := by decide +kernel
theorem dX0_shadowed_1 : decode cX0_shadowed 1 = .ok (.istore_n 1, 1) := by decide +kernel
theorem dX0_shadowed_2 : decode cX0_shadowed 2 = .ok (.iconst 0, 1) := by decide +kernel
theorem dX0_shadowed_3 : decode cX0_shadowed 3 = .ok (.istore_n 2, 1) := by decide +kernel
theorem dX0_shadowed_4 : decode cX0_shadowed 4 = .ok (.iload_n 2, 1) := by decide +kernel
theorem dX0_shadowed_5 : decode cX0_shadowed 5 = .ok (.aload_n 0, 1) := by decide +kernel
theorem dX0_shadowed_6 : decode cX0_shadowed 6 = .ok (.getfield 24, 3) := by decide +kernel
theorem dX0_shadowed_9 : decode cX0_shadowed 9 = .ok (.if_icmp .ge 22, 3) := by decide +kernel
theorem dX0_shadowed_12 : decode cX0_shadowed 12 = .ok (.iload_n 2, 1) := by decide +kernel
theorem dX0_shadowed_13 : decode cX0_shadowed 13 = .ok (.iconst 4, 1) := by decide +kernel
theorem dX0_shadowed_14 : decode cX0_shadowed 14 = .ok (.if_icmp .ge 17, 3) := by decide +kernel
theorem dX0_shadowed_17 : decode cX0_shadowed 17 = .ok (.iload_n 1, 1) := by decide +kernel
theorem dX0_shadowed_18 : decode cX0_shadowed 18 = .ok (.aload_n 0, 1) := by decide +kernel
theorem dX0_shadowed_19 : decode cX0_shadowed 19 = .ok (.iload_n 2, 1) := by decide +kernel
theorem dX0_shadowed_20 : decode cX0_shadowed 20 = .ok (.invokevirtual 58, 3) := by decide +kernel
theorem dX0_shadowed_23 : decode cX0_shadowed 23 = .ok (.iadd, 1) := by decide +kernel
theorem dX0_shadowed_24 : decode cX0_shadowed 24 = .ok (.istore_n 1, 1) := by decide +kernel
theorem dX0_shadowed_25 : decode cX0_shadowed 25 = .ok (.iinc 2 1, 3) := by decide +kernel
theorem dX0_shadowed_28 : decode cX0_shadowed 28 = .ok (.goto (-24), 3) := by decide +kernel
theorem dX0_shadowed_31 : decode cX0_shadowed 31 = .ok (.iload_n 1, 1) := by decide +kernel
theorem dX0_shadowed_32 : decode cX0_shadowed 32 = .ok (.ireturn, 1) := by decide +kernel
theorem dX0_allEntries_0 : decode cX0_allEntries 0 = .ok (.iconst 0, 1) := by decide +kernel
theorem dX0_allEntries_1 : decode cX0_allEntries 1 = .ok (.istore_n 1, 1) := by decide +kernel
theorem dX0_allEntries_2 : decode cX0_allEntries 2 = .ok (.iconst 0, 1) := by decide +kernel
theorem dX0_allEntries_3 : decode cX0_allEntries 3 = .ok (.istore_n 2, 1) := by decide +kernel
theorem dX0_allEntries_4 : decode cX0_allEntries 4 = .ok (.iload_n 2, 1) := by decide +kernel
theorem dX0_allEntries_5 : decode cX0_allEntries 5 = .ok (.aload_n 0, 1) := by decide +kernel
theorem dX0_allEntries_6 : decode cX0_allEntries 6 = .ok (.getfield 24, 3) := by decide +kernel
theorem dX0_allEntries_9 : decode cX0_allEntries 9 = .ok (.if_icmp .ge 22, 3) := by decide +kernel
theorem dX0_allEntries_12 : decode cX0_allEntries 12 = .ok (.iload_n 2, 1) := by decide +kernel
theorem dX0_allEntries_13 : decode cX0_allEntries 13 = .ok (.iconst 4, 1) := by decide +kernel
theorem dX0_allEntries_14 : decode cX0_allEntries 14 = .ok (.if_icmp .ge 17, 3) := by decide +kernel
theorem dX0_allEntries_17 : decode cX0_allEntries 17 = .ok (.iload_n 1, 1) := by decide +kernel
theorem dX0_allEntries_18 : decode cX0_allEntries 18 = .ok (.aload_n 0, 1) := by decide +kernel
theorem dX0_allEntries_19 : decode cX0_allEntries 19 = .ok (.iload_n 2, 1) := by decide +kernel
theorem dX0_allEntries_20 : decode cX0_allEntries 20 = .ok (.invokevirtual 48, 3) := by decide +kernel
theorem dX0_allEntries_23 : decode cX0_allEntries 23 = .ok (.iadd, 1) := by decide +kernel
theorem dX0_allEntries_24 : decode cX0_allEntries 24 = .ok (.istore_n 1, 1) := by decide +kernel
theorem dX0_allEntries_25 : decode cX0_allEntries 25 = .ok (.iinc 2 1, 3) := by decide +kernel
theorem dX0_allEntries_28 : decode cX0_allEntries 28 = .ok (.goto (-24), 3) := by decide +kernel
theorem dX0_allEntries_31 : decode cX0_allEntries 31 = .ok (.iload_n 1, 1) := by decide +kernel
theorem dX0_allEntries_32 : decode cX0_allEntries 32 = .ok (.ireturn, 1) := by decide +kernel
theorem dX1_init_0 : decode cX1_init 0 = .ok (.aload_n 0, 1) := by decide +kernel
theorem dX1_init_1 : decode cX1_init 1 = .ok (.invokespecial 3, 3) := by decide +kernel
theorem dX1_init_4 : decode cX1_init 4 = .ok (.aload_n 0, 1) := by decide +kernel
theorem dX1_init_5 : decode cX1_init 5 = .ok (.new 9, 3) := by decide +kernel
theorem dX1_init_8 : decode cX1_init 8 = .ok (.dup, 1) := by decide +kernel
theorem dX1_init_9 : decode cX1_init 9 = .ok (.invokespecial 11, 3) := by decide +kernel
theorem dX1_init_12 : decode cX1_init 12 = .ok (.putfield 12, 3) := by decide +kernel
theorem dX1_init_15 : decode cX1_init 15 = .ok (.aload_n 0, 1) := by decide +kernel
theorem dX1_init_16 : decode cX1_init 16 = .ok (.bipush 10, 2) := by decide +kernel
theorem dX1_init_18 : decode cX1_init 18 = .ok (.bipush 16, 2) := by decide +kernel
theorem dX1_init_20 : decode cX1_init 20 = .ok (.multianewarray 18 2, 4) := by decide +kernel
theorem dX1_init_24 : decode cX1_init 24 = .ok (.putfield 20, 3) := by decide +kernel
theorem dX1_init_27 : decode cX1_init 27 = .ok (.aload_n 0, 1) := by decide +kernel
theorem dX1_init_28 : decode cX1_init 28 = .ok (.bipush 16, 2) := by decide +kernel
theorem dX1_init_30 : decode cX1_init 30 = .ok (.newarray .int, 2) := by decide +kernel
theorem dX1_init_32 : decode cX1_init 32 = .ok (.putfield 23, 3) := by decide +kernel
theorem dX1_init_35 : decode cX1_init 35 = .ok (.aload_n 0, 1) := by decide +kernel
theorem dX1_init_36 : decode cX1_init 36 = .ok (.bipush 16, 2) := by decide +kernel
theorem dX1_init_38 : decode cX1_init 38 = .ok (.newarray .int, 2) := by decide +kernel
theorem dX1_init_40 : decode cX1_init 40 = .ok (.putfield 27, 3) := by decide +kernel
theorem dX1_init_43 : decode cX1_init 43 = .ok (.aload_n 0, 1) := by decide +kernel
theorem dX1_init_44 : decode cX1_init 44 = .ok (.iconst (-1), 1) := by decide +kernel
theorem dX1_init_45 : decode cX1_init 45 = .ok (.putfield 30, 3) := by decide +kernel
theorem dX1_init_48 : decode cX1_init 48 = .ok (.return_, 1) := by decide +kernel
theorem dX1_readLayer_0 : decode cX1_readLayer 0 = .ok (.aload_n 0, 1) := by decide +kernel
theorem dX1_readLayer_1 : decode cX1_readLayer 1 = .ok (.getfield 12, 3) := by decide +kernel
theorem dX1_readLayer_4 : decode cX1_readLayer 4 = .ok (.iconst 0, 1) := by decide +kernel
theorem dX1_readLayer_5 : decode cX1_readLayer 5 = .ok (.putfield 34, 3) := by decide +kernel
theorem dX1_readLayer_8 : decode cX1_readLayer 8 = .ok (.aload_n 0, 1) := by decide +kernel
theorem dX1_readLayer_9 : decode cX1_readLayer 9 = .ok (.getfield 27, 3) := by decide +kernel
theorem dX1_readLayer_12 : decode cX1_readLayer 12 = .ok (.bipush 17, 2) := by decide +kernel
theorem dX1_readLayer_14 : decode cX1_readLayer 14 = .ok (.invokestatic 37, 3) := by decide +kernel
theorem dX1_readLayer_17 : decode cX1_readLayer 17 = .ok (.iconst 0, 1) := by decide +kernel
theorem dX1_readLayer_18 : decode cX1_readLayer 18 = .ok (.istore_n 1, 1) := by decide +kernel
theorem dX1_readLayer_19 : decode cX1_readLayer 19 = .ok (.iload_n 1, 1) := by decide +kernel
theorem dX1_readLayer_20 : decode cX1_readLayer 20 = .ok (.bipush 60, 2) := by decide +kernel
theorem dX1_readLayer_22 : decode cX1_readLayer 22 = .ok (.if_icmp .ge 56, 3) := by decide +kernel
theorem dX1_readLayer_25 : decode cX1_readLayer 25 = .ok (.aload_n 0, 1) := by decide +kernel
theorem dX1_readLayer_26 : decode cX1_readLayer 26 = .ok (.invokevirtual 43, 3) := by decide +kernel
theorem dX1_readLayer_29 : decode cX1_readLayer 29 = .ok (.ifCond .ne 11, 3) := by decide +kernel
theorem dX1_readLayer_32 : decode cX1_readLayer 32 = .ok (.aload_n 0, 1) := by decide +kernel
theorem dX1_readLayer_33 : decode cX1_readLayer 33 = .ok (.getfield 12, 3) := by decide +kernel
theorem dX1_readLayer_36 : decode cX1_readLayer 36 = .ok (.getfield 34, 3) := by decide +kernel
theorem dX1_readLayer_39 : decode cX1_readLayer 39 = .ok (.ireturn, 1) := by decide +kernel
theorem dX1_readLayer_40 : decode cX1_readLayer 40 = .ok (.aload_n 0, 1) := by decide +kernel
theorem dX1_readLayer_41 : decode cX1_readLayer 41 = .ok (.getfield 12, 3) := by decide +kernel
theorem dX1_readLayer_44 : decode cX1_readLayer 44 = .ok (.invokevirtual 47, 3) := by decide +kernel
theorem dX1_readLayer_47 : decode cX1_readLayer 47 = .ok (.ifCond .eq 5, 3) := by decide +kernel
theorem dX1_readLayer_50 : decode cX1_readLayer 50 = .ok (.iconst (-1), 1) := by decide +kernel
theorem dX1_readLayer_51 : decode cX1_readLayer 51 = .ok (.ireturn, 1) := by decide +kernel
theorem dX1_readLayer_52 : decode cX1_readLayer 52 = .ok (.aload_n 0, 1) := by decide +kernel
theorem dX1_readLayer_53 : decode cX1_readLayer 53 = .ok (.getfield 12, 3) := by decide +kernel
theorem dX1_readLayer_56 : decode cX1_readLayer 56 = .ok (.bipush 44, 2) := by decide +kernel
theorem dX1_readLayer_58 : decode cX1_readLayer 58 = .ok (.invokevirtual 50, 3) := by decide +kernel
theorem dX1_readLayer_61 : decode cX1_readLayer 61 = .ok (.ifCond .ne 11, 3) := by decide +kernel
theorem dX1_readLayer_64 : decode cX1_readLayer 64 = .ok (.aload_n 0, 1) := by decide +kernel
theorem dX1_readLayer_65 : decode cX1_readLayer 65 = .ok (.getfield 12, 3) := by decide +kernel
theorem dX1_readLayer_68 : decode cX1_readLayer 68 = .ok (.getfield 34, 3) := by decide +kernel
theorem dX1_readLayer_71 : decode cX1_readLayer 71 = .ok (.ireturn, 1) := by decide +kernel
theorem dX1_readLayer_72 : decode cX1_readLayer 72 = .ok (.iinc 1 1, 3) := by decide +kernel
theorem dX1_readLayer_75 : decode cX1_readLayer 75 = .ok (.goto (-56), 3) := by decide +kernel
theorem dX1_readLayer_78 : decode cX1_readLayer 78 = .ok (.aload_n 0, 1) := by decide +kernel
theorem dX1_readLayer_79 : decode cX1_readLayer 79 = .ok (.getfield 12, 3) := by decide +kernel
theorem dX1_readLayer_82 : decode cX1_readLayer 82 = .ok (.getfield 34, 3) := by decide +kernel
theorem dX1_readLayer_85 : decode cX1_readLayer 85 = .ok (.ireturn, 1) := by decide +kernel
theorem dX1_readEntry_0 : decode cX1_readEntry 0 = .ok (.aload_n 0, 1) := by decide +kernel
theorem dX1_readEntry_1 : decode cX1_readEntry 1 = .ok (.getfield 12, 3) := by decide +kernel
theorem dX1_readEntry_4 : decode cX1_readEntry 4 = .ok (.invokevirtual 54, 3) := by decide +kernel
theorem dX1_readEntry_7 : decode cX1_readEntry 7 = .ok (.istore_n 1, 1) := by decide +kernel
theorem dX1_readEntry_8 : decode cX1_readEntry 8 = .ok (.iload_n 1, 1) := by decide +kernel
theorem dX1_readEntry_9 : decode cX1_readEntry 9 = .ok (.invokestatic 58, 3) := by decide +kernel
theorem dX1_readEntry_12 : decode cX1_readEntry 12 = .ok (.ifCond .eq 15, 3) := by decide +kernel
theorem dX1_readEntry_15 : decode cX1_readEntry 15 = .ok (.aload_n 0, 1) := by decide +kernel
theorem dX1_readEntry_16 : decode cX1_readEntry 16 = .ok (.getfield 12, 3) := by decide +kernel
theorem dX1_readEntry_19 : decode cX1_readEntry 19 = .ok (.bipush 62, 2) := by decide +kernel
theorem dX1_readEntry_21 : decode cX1_readEntry 21 = .ok (.invokevirtual 50, 3) := by decide +kernel
theorem dX1_readEntry_24 : decode cX1_readEntry 24 = .ok (.ifCond .ne 5, 3) := by decide +kernel
theorem dX1_readEntry_27 : decode cX1_readEntry 27 = .ok (.iconst 0, 1) := by decide +kernel
theorem dX1_readEntry_28 : decode cX1_readEntry 28 = .ok (.ireturn, 1) := by decide +kernel
theorem dX1_readEntry_29 : decode cX1_readEntry 29 = .ok (.aload_n 0, 1) := by decide +kernel
theorem dX1_readEntry_30 : decode cX1_readEntry 30 = .ok (.getfield 12, 3) := by decide +kernel
theorem dX1_readEntry_33 : decode cX1_readEntry 33 = .ok (.bipush 45, 2) := by decide +kernel
theorem dX1_readEntry_35 : decode cX1_readEntry 35 = .ok (.invokevirtual 50, 3) := by decide +kernel
theorem dX1_readEntry_38 : decode cX1_readEntry 38 = .ok (.ifCond .eq 8, 3) := by decide +kernel
theorem dX1_readEntry_41 : decode cX1_readEntry 41 = .ok (.bipush 16, 2) := by decide +kernel
theorem dX1_readEntry_43 : decode cX1_readEntry 43 = .ok (.goto 10, 3) := by decide +kernel
theorem dX1_readEntry_46 : decode cX1_readEntry 46 = .ok (.aload_n 0, 1) := by decide +kernel
theorem dX1_readEntry_47 : decode cX1_readEntry 47 = .ok (.getfield 12, 3) := by decide +kernel
theorem dX1_readEntry_50 : decode cX1_readEntry 50 = .ok (.invokevirtual 54, 3) := by decide +kernel
theorem dX1_readEntry_53 : decode cX1_readEntry 53 = .ok (.istore_n 2, 1) := by decide +kernel
theorem dX1_readEntry_54 : decode cX1_readEntry 54 = .ok (.iload_n 2, 1) := by decide +kernel
theorem dX1_readEntry_55 : decode cX1_readEntry 55 = .ok (.iconst (-1), 1) := by decide +kernel
theorem dX1_readEntry_56 : decode cX1_readEntry 56 = .ok (.if_icmp .ne 5, 3) := by decide +kernel
theorem dX1_readEntry_59 : decode cX1_readEntry 59 = .ok (.iconst 0, 1) := by decide +kernel
theorem dX1_readEntry_60 : decode cX1_readEntry 60 = .ok (.ireturn, 1) := by decide +kernel
theorem dX1_readEntry_61 : decode cX1_readEntry 61 = .ok (.aload_n 0, 1) := by decide +kernel
theorem dX1_readEntry_62 : decode cX1_readEntry 62 = .ok (.getfield 27, 3) := by decide +kernel
theorem dX1_readEntry_65 : decode cX1_readEntry 65 = .ok (.iload_n 1, 1) := by decide +kernel
theorem dX1_readEntry_66 : decode cX1_readEntry 66 = .ok (.iload_n 2, 1) := by decide +kernel
theorem dX1_readEntry_67 : decode cX1_readEntry 67 = .ok (.iastore, 1) := by decide +kernel
theorem dX1_readEntry_68 : decode cX1_readEntry 68 = .ok (.iconst 1, 1) := by decide +kernel
theorem dX1_readEntry_69 : decode cX1_readEntry 69 = .ok (.ireturn, 1) := by decide +kernel
theorem dX1_readAssignment_0 : decode cX1_readAssignment 0 = .ok (.aload_n 0, 1) := by decide +kernel
theorem dX1_readAssignment_1 : decode cX1_readAssignment 1 = .ok (.getfield 12, 3) := by decide +kernel
theorem dX1_readAssignment_4 : decode cX1_readAssignment 4 = .ok (.iconst 0, 1) := by decide +kernel
theorem dX1_readAssignment_5 : decode cX1_readAssignment 5 = .ok (.putfield 34, 3) := by decide +kernel
theorem dX1_readAssignment_8 : decode cX1_readAssignment 8 = .ok (.aload_n 0, 1) := by decide +kernel
theorem dX1_readAssignment_9 : decode cX1_readAssignment 9 = .ok (.aload_n 0, 1) := by decide +kernel
theorem dX1_readAssignment_10 : decode cX1_readAssignment 10 = .ok (.getfield 12, 3) := by decide +kernel
theorem dX1_readAssignment_13 : decode cX1_readAssignment 13 = .ok (.invokevirtual 62, 3) := by decide +kernel
theorem dX1_readAssignment_16 : decode cX1_readAssignment 16 = .ok (.putfield 30, 3) := by decide +kernel
theorem dX1_readAssignment_19 : decode cX1_readAssignment 19 = .ok (.aload_n 0, 1) := by decide +kernel
theorem dX1_readAssignment_20 : decode cX1_readAssignment 20 = .ok (.getfield 30, 3) := by decide +kernel
theorem dX1_readAssignment_23 : decode cX1_readAssignment 23 = .ok (.iconst (-1), 1) := by decide +kernel
theorem dX1_readAssignment_24 : decode cX1_readAssignment 24 = .ok (.if_icmp .eq 28, 3) := by decide +kernel
theorem dX1_readAssignment_27 : decode cX1_readAssignment 27 = .ok (.aload_n 0, 1) := by decide +kernel
theorem dX1_readAssignment_28 : decode cX1_readAssignment 28 = .ok (.getfield 12, 3) := by decide +kernel
theorem dX1_readAssignment_31 : decode cX1_readAssignment 31 = .ok (.bipush 61, 2) := by decide +kernel
theorem dX1_readAssignment_33 : decode cX1_readAssignment 33 = .ok (.invokevirtual 50, 3) := by decide +kernel
theorem dX1_readAssignment_36 : decode cX1_readAssignment 36 = .ok (.ifCond .eq 16, 3) := by decide +kernel
theorem dX1_readAssignment_39 : decode cX1_readAssignment 39 = .ok (.aload_n 0, 1) := by decide +kernel
theorem dX1_readAssignment_40 : decode cX1_readAssignment 40 = .ok (.aload_n 1, 1) := by decide +kernel
theorem dX1_readAssignment_41 : decode cX1_readAssignment 41 = .ok (.aload_n 0, 1) := by decide +kernel
theorem dX1_readAssignment_42 : decode cX1_readAssignment 42 = .ok (.getfield 27, 3) := by decide +kernel
theorem dX1_readAssignment_45 : decode cX1_readAssignment 45 = .ok (.iconst 0, 1) := by decide +kernel
theorem dX1_readAssignment_46 : decode cX1_readAssignment 46 = .ok (.invokevirtual 65, 3) := by decide +kernel
theorem dX1_readAssignment_49 : decode cX1_readAssignment 49 = .ok (.ifCond .ne 11, 3) := by decide +kernel
theorem dX1_readAssignment_52 : decode cX1_readAssignment 52 = .ok (.aload_n 0, 1) := by decide +kernel
theorem dX1_readAssignment_53 : decode cX1_readAssignment 53 = .ok (.getfield 12, 3) := by decide +kernel
theorem dX1_readAssignment_56 : decode cX1_readAssignment 56 = .ok (.getfield 34, 3) := by decide +kernel
theorem dX1_readAssignment_59 : decode cX1_readAssignment 59 = .ok (.ireturn, 1) := by decide +kernel
theorem dX1_readAssignment_60 : decode cX1_readAssignment 60 = .ok (.aload_n 0, 1) := by decide +kernel
theorem dX1_readAssignment_61 : decode cX1_readAssignment 61 = .ok (.getfield 12, 3) := by decide +kernel
theorem dX1_readAssignment_64 : decode cX1_readAssignment 64 = .ok (.invokevirtual 47, 3) := by decide +kernel
theorem dX1_readAssignment_67 : decode cX1_readAssignment 67 = .ok (.ifCond .eq 7, 3) := by decide +kernel
theorem dX1_readAssignment_70 : decode cX1_readAssignment 70 = .ok (.iconst (-1), 1) := by decide +kernel
theorem dX1_readAssignment_71 : decode cX1_readAssignment 71 = .ok (.goto 10, 3) := by decide +kernel
theorem dX1_readAssignment_74 : decode cX1_readAssignment 74 = .ok (.aload_n 0, 1) := by decide +kernel
theorem dX1_readAssignment_75 : decode cX1_readAssignment 75 = .ok (.getfield 12, 3) := by decide +kernel
theorem dX1_readAssignment_78 : decode cX1_readAssignment 78 = .ok (.getfield 34, 3) := by decide +kernel
theorem dX1_readAssignment_81 : decode cX1_readAssignment 81 = .ok (.ireturn, 1) := by decide +kernel
theorem dX1_readExpression_0 : decode cX1_readExpression 0 = .ok (.iload_n 3, 1) := by decide +kernel
theorem dX1_readExpression_1 : decode cX1_readExpression 1 = .ok (.ifCond .lt 8, 3) := by decide +kernel
theorem dX1_readExpression_4 : decode cX1_readExpression 4 = .ok (.iload_n 3, 1) := by decide +kernel
theorem dX1_readExpression_5 : decode cX1_readExpression 5 = .ok (.iconst 4, 1) := by decide +kernel
theorem dX1_readExpression_6 : decode cX1_readExpression 6 = .ok (.if_icmp .le 5, 3) := by decide +kernel
theorem dX1_readExpression_9 : decode cX1_readExpression 9 = .ok (.iconst 0, 1) := by decide +kernel
theorem dX1_readExpression_10 : decode cX1_readExpression 10 = .ok (.ireturn, 1) := by decide +kernel
theorem dX1_readExpression_11 : decode cX1_readExpression 11 = .ok (.aload_n 0, 1) := by decide +kernel
theorem dX1_readExpression_12 : decode cX1_readExpression 12 = .ok (.getfield 20, 3) := by decide +kernel
theorem dX1_readExpression_15 : decode cX1_readExpression 15 = .ok (.iconst 2, 1) := by decide +kernel
theorem dX1_readExpression_16 : decode cX1_readExpression 16 = .ok (.iload_n 3, 1) := by decide +kernel
theorem dX1_readExpression_17 : decode cX1_readExpression 17 = .ok (.imul, 1) := by decide +kernel
theorem dX1_readExpression_18 : decode cX1_readExpression 18 = .ok (.aaload, 1) := by decide +kernel
theorem dX1_readExpression_19 : decode cX1_readExpression 19 = .ok (.astore 4, 2) := by decide +kernel
theorem dX1_readExpression_21 : decode cX1_readExpression 21 = .ok (.aload_n 0, 1) := by decide +kernel
theorem dX1_readExpression_22 : decode cX1_readExpression 22 = .ok (.getfield 20, 3) := by decide +kernel
theorem dX1_readExpression_25 : decode cX1_readExpression 25 = .ok (.iconst 2, 1) := by decide +kernel
theorem dX1_readExpression_26 : decode cX1_readExpression 26 = .ok (.iload_n 3, 1) := by decide +kernel
theorem dX1_readExpression_27 : decode cX1_readExpression 27 = .ok (.imul, 1) := by decide +kernel
theorem dX1_readExpression_28 : decode cX1_readExpression 28 = .ok (.iconst 1, 1) := by decide +kernel
theorem dX1_readExpression_29 : decode cX1_readExpression 29 = .ok (.iadd, 1) := by decide +kernel
theorem dX1_readExpression_30 : decode cX1_readExpression 30 = .ok (.aaload, 1) := by decide +kernel
theorem dX1_readExpression_31 : decode cX1_readExpression 31 = .ok (.astore 5, 2) := by decide +kernel
theorem dX1_readExpression_33 : decode cX1_readExpression 33 = .ok (.aload_n 2, 1) := by decide +kernel
theorem dX1_readExpression_34 : decode cX1_readExpression 34 = .ok (.bipush 16, 2) := by decide +kernel
theorem dX1_readExpression_36 : decode cX1_readExpression 36 = .ok (.invokestatic 37, 3) := by decide +kernel
theorem dX1_readExpression_39 : decode cX1_readExpression 39 = .ok (.iconst 0, 1) := by decide +kernel
theorem dX1_readExpression_40 : decode cX1_readExpression 40 = .ok (.istore 6, 2) := by decide +kernel
theorem dX1_readExpression_42 : decode cX1_readExpression 42 = .ok (.iload 6, 2) := by decide +kernel
theorem dX1_readExpression_44 : decode cX1_readExpression 44 = .ok (.bipush 60, 2) := by decide +kernel
theorem dX1_readExpression_46 : decode cX1_readExpression 46 = .ok (.if_icmp .ge 90, 3) := by decide +kernel
theorem dX1_readExpression_49 : decode cX1_readExpression 49 = .ok (.aload_n 0, 1) := by decide +kernel
theorem dX1_readExpression_50 : decode cX1_readExpression 50 = .ok (.aload_n 1, 1) := by decide +kernel
theorem dX1_readExpression_51 : decode cX1_readExpression 51 = .ok (.aload 4, 2) := by decide +kernel
theorem dX1_readExpression_53 : decode cX1_readExpression 53 = .ok (.iload_n 3, 1) := by decide +kernel
theorem dX1_readExpression_54 : decode cX1_readExpression 54 = .ok (.invokevirtual 69, 3) := by decide +kernel
theorem dX1_readExpression_57 : decode cX1_readExpression 57 = .ok (.ifCond .ne 5, 3) := by decide +kernel
theorem dX1_readExpression_60 : decode cX1_readExpression 60 = .ok (.iconst 0, 1) := by decide +kernel
theorem dX1_readExpression_61 : decode cX1_readExpression 61 = .ok (.ireturn, 1) := by decide +kernel
theorem dX1_readExpression_62 : decode cX1_readExpression 62 = .ok (.iconst 0, 1) := by decide +kernel
theorem dX1_readExpression_63 : decode cX1_readExpression 63 = .ok (.istore 7, 2) := by decide +kernel
theorem dX1_readExpression_65 : decode cX1_readExpression 65 = .ok (.iload 7, 2) := by decide +kernel
theorem dX1_readExpression_67 : decode cX1_readExpression 67 = .ok (.bipush 60, 2) := by decide +kernel
theorem dX1_readExpression_69 : decode cX1_readExpression 69 = .ok (.if_icmp .ge 41, 3) := by decide +kernel
theorem dX1_readExpression_72 : decode cX1_readExpression 72 = .ok (.aload_n 0, 1) := by decide +kernel
theorem dX1_readExpression_73 : decode cX1_readExpression 73 = .ok (.getfield 12, 3) := by decide +kernel
theorem dX1_readExpression_76 : decode cX1_readExpression 76 = .ok (.bipush 46, 2) := by decide +kernel
theorem dX1_readExpression_78 : decode cX1_readExpression 78 = .ok (.invokevirtual 50, 3) := by decide +kernel
theorem dX1_readExpression_81 : decode cX1_readExpression 81 = .ok (.ifCond .eq 29, 3) := by decide +kernel
theorem dX1_readExpression_84 : decode cX1_readExpression 84 = .ok (.aload_n 0, 1) := by decide +kernel
theorem dX1_readExpression_85 : decode cX1_readExpression 85 = .ok (.aload_n 1, 1) := by decide +kernel
theorem dX1_readExpression_86 : decode cX1_readExpression 86 = .ok (.aload 5, 2) := by decide +kernel
theorem dX1_readExpression_88 : decode cX1_readExpression 88 = .ok (.iload_n 3, 1) := by decide +kernel
theorem dX1_readExpression_89 : decode cX1_readExpression 89 = .ok (.invokevirtual 69, 3) := by decide +kernel
theorem dX1_readExpression_92 : decode cX1_readExpression 92 = .ok (.ifCond .ne 5, 3) := by decide +kernel
theorem dX1_readExpression_95 : decode cX1_readExpression 95 = .ok (.iconst 0, 1) := by decide +kernel
theorem dX1_readExpression_96 : decode cX1_readExpression 96 = .ok (.ireturn, 1) := by decide +kernel
theorem dX1_readExpression_97 : decode cX1_readExpression 97 = .ok (.aload 4, 2) := by decide +kernel
theorem dX1_readExpression_99 : decode cX1_readExpression 99 = .ok (.aload 5, 2) := by decide +kernel
theorem dX1_readExpression_101 : decode cX1_readExpression 101 = .ok (.invokestatic 72, 3) := by decide +kernel
theorem dX1_readExpression_104 : decode cX1_readExpression 104 = .ok (.iinc 7 1, 3) := by decide +kernel
theorem dX1_readExpression_107 : decode cX1_readExpression 107 = .ok (.goto (-42), 3) := by decide +kernel
theorem dX1_readExpression_110 : decode cX1_readExpression 110 = .ok (.aload_n 2, 1) := by decide +kernel
theorem dX1_readExpression_111 : decode cX1_readExpression 111 = .ok (.aload 4, 2) := by decide +kernel
theorem dX1_readExpression_113 : decode cX1_readExpression 113 = .ok (.invokestatic 78, 3) := by decide +kernel
theorem dX1_readExpression_116 : decode cX1_readExpression 116 = .ok (.aload_n 0, 1) := by decide +kernel
theorem dX1_readExpression_117 : decode cX1_readExpression 117 = .ok (.getfield 12, 3) := by decide +kernel
theorem dX1_readExpression_120 : decode cX1_readExpression 120 = .ok (.bipush 47, 2) := by decide +kernel
theorem dX1_readExpression_122 : decode cX1_readExpression 122 = .ok (.invokevirtual 50, 3) := by decide +kernel
theorem dX1_readExpression_125 : decode cX1_readExpression 125 = .ok (.ifCond .ne 5, 3) := by decide +kernel
theorem dX1_readExpression_128 : decode cX1_readExpression 128 = .ok (.iconst 1, 1) := by decide +kernel
theorem dX1_readExpression_129 : decode cX1_readExpression 129 = .ok (.ireturn, 1) := by decide +kernel
theorem dX1_readExpression_130 : decode cX1_readExpression 130 = .ok (.iinc 6 1, 3) := by decide +kernel
theorem dX1_readExpression_133 : decode cX1_readExpression 133 = .ok (.goto (-91), 3) := by decide +kernel
theorem dX1_readExpression_136 : decode cX1_readExpression 136 = .ok (.iconst 1, 1) := by decide +kernel
theorem dX1_readExpression_137 : decode cX1_readExpression 137 = .ok (.ireturn, 1) := by decide +kernel
theorem dX1_readFactor_0 : decode cX1_readFactor 0 = .ok (.aload_n 0, 1) := by decide +kernel
theorem dX1_readFactor_1 : decode cX1_readFactor 1 = .ok (.getfield 12, 3) := by decide +kernel
theorem dX1_readFactor_4 : decode cX1_readFactor 4 = .ok (.invokevirtual 62, 3) := by decide +kernel
theorem dX1_readFactor_7 : decode cX1_readFactor 7 = .ok (.istore 4, 2) := by decide +kernel
theorem dX1_readFactor_9 : decode cX1_readFactor 9 = .ok (.iload 4, 2) := by decide +kernel
theorem dX1_readFactor_11 : decode cX1_readFactor 11 = .ok (.invokestatic 81, 3) := by decide +kernel
theorem dX1_readFactor_14 : decode cX1_readFactor 14 = .ok (.ifCond .eq 27, 3) := by decide +kernel
theorem dX1_readFactor_17 : decode cX1_readFactor 17 = .ok (.aload_n 1, 1) := by decide +kernel
theorem dX1_readFactor_18 : decode cX1_readFactor 18 = .ok (.getfield 84, 3) := by decide +kernel
theorem dX1_readFactor_21 : decode cX1_readFactor 21 = .ok (.iload 4, 2) := by decide +kernel
theorem dX1_readFactor_23 : decode cX1_readFactor 23 = .ok (.aaload, 1) := by decide +kernel
theorem dX1_readFactor_24 : decode cX1_readFactor 24 = .ok (.getfield 90, 3) := by decide +kernel
theorem dX1_readFactor_27 : decode cX1_readFactor 27 = .ok (.aload_n 2, 1) := by decide +kernel
theorem dX1_readFactor_28 : decode cX1_readFactor 28 = .ok (.invokestatic 95, 3) := by decide +kernel
theorem dX1_readFactor_31 : decode cX1_readFactor 31 = .ok (.aload_n 0, 1) := by decide +kernel
theorem dX1_readFactor_32 : decode cX1_readFactor 32 = .ok (.aload_n 1, 1) := by decide +kernel
theorem dX1_readFactor_33 : decode cX1_readFactor 33 = .ok (.getfield 98, 3) := by decide +kernel
theorem dX1_readFactor_36 : decode cX1_readFactor 36 = .ok (.aload_n 2, 1) := by decide +kernel
theorem dX1_readFactor_37 : decode cX1_readFactor 37 = .ok (.invokevirtual 101, 3) := by decide +kernel
theorem dX1_readFactor_40 : decode cX1_readFactor 40 = .ok (.ireturn, 1) := by decide +kernel
theorem dX1_readFactor_41 : decode cX1_readFactor 41 = .ok (.iload_n 3, 1) := by decide +kernel
theorem dX1_readFactor_42 : decode cX1_readFactor 42 = .ok (.iconst 4, 1) := by decide +kernel
theorem dX1_readFactor_43 : decode cX1_readFactor 43 = .ok (.if_icmp .ge 15, 3) := by decide +kernel
theorem dX1_readFactor_46 : decode cX1_readFactor 46 = .ok (.aload_n 0, 1) := by decide +kernel
theorem dX1_readFactor_47 : decode cX1_readFactor 47 = .ok (.getfield 12, 3) := by decide +kernel
theorem dX1_readFactor_50 : decode cX1_readFactor 50 = .ok (.bipush 40, 2) := by decide +kernel
theorem dX1_readFactor_52 : decode cX1_readFactor 52 = .ok (.invokevirtual 50, 3) := by decide +kernel
theorem dX1_readFactor_55 : decode cX1_readFactor 55 = .ok (.ifCond .ne 5, 3) := by decide +kernel
theorem dX1_readFactor_58 : decode cX1_readFactor 58 = .ok (.iconst 0, 1) := by decide +kernel
theorem dX1_readFactor_59 : decode cX1_readFactor 59 = .ok (.ireturn, 1) := by decide +kernel
theorem dX1_readFactor_60 : decode cX1_readFactor 60 = .ok (.aload_n 0, 1) := by decide +kernel
theorem dX1_readFactor_61 : decode cX1_readFactor 61 = .ok (.aload_n 1, 1) := by decide +kernel
theorem dX1_readFactor_62 : decode cX1_readFactor 62 = .ok (.aload_n 2, 1) := by decide +kernel
theorem dX1_readFactor_63 : decode cX1_readFactor 63 = .ok (.iload_n 3, 1) := by decide +kernel
theorem dX1_readFactor_64 : decode cX1_readFactor 64 = .ok (.iconst 1, 1) := by decide +kernel
theorem dX1_readFactor_65 : decode cX1_readFactor 65 = .ok (.iadd, 1) := by decide +kernel
theorem dX1_readFactor_66 : decode cX1_readFactor 66 = .ok (.invokevirtual 65, 3) := by decide +kernel
theorem dX1_readFactor_69 : decode cX1_readFactor 69 = .ok (.ifCond .eq 31, 3) := by decide +kernel
theorem dX1_readFactor_72 : decode cX1_readFactor 72 = .ok (.aload_n 0, 1) := by decide +kernel
theorem dX1_readFactor_73 : decode cX1_readFactor 73 = .ok (.getfield 12, 3) := by decide +kernel
theorem dX1_readFactor_76 : decode cX1_readFactor 76 = .ok (.bipush 41, 2) := by decide +kernel
theorem dX1_readFactor_78 : decode cX1_readFactor 78 = .ok (.invokevirtual 50, 3) := by decide +kernel
theorem dX1_readFactor_81 : decode cX1_readFactor 81 = .ok (.ifCond .eq 19, 3) := by decide +kernel
theorem dX1_readFactor_84 : decode cX1_readFactor 84 = .ok (.aload_n 0, 1) := by decide +kernel
theorem dX1_readFactor_85 : decode cX1_readFactor 85 = .ok (.aload_n 1, 1) := by decide +kernel
theorem dX1_readFactor_86 : decode cX1_readFactor 86 = .ok (.getfield 98, 3) := by decide +kernel
theorem dX1_readFactor_89 : decode cX1_readFactor 89 = .ok (.aload_n 2, 1) := by decide +kernel
theorem dX1_readFactor_90 : decode cX1_readFactor 90 = .ok (.invokevirtual 101, 3) := by decide +kernel
theorem dX1_readFactor_93 : decode cX1_readFactor 93 = .ok (.ifCond .eq 7, 3) := by decide +kernel
theorem dX1_readFactor_96 : decode cX1_readFactor 96 = .ok (.iconst 1, 1) := by decide +kernel
theorem dX1_readFactor_97 : decode cX1_readFactor 97 = .ok (.goto 4, 3) := by decide +kernel
theorem dX1_readFactor_100 : decode cX1_readFactor 100 = .ok (.iconst 0, 1) := by decide +kernel
theorem dX1_readFactor_101 : decode cX1_readFactor 101 = .ok (.ireturn, 1) := by decide +kernel
theorem dX1_readSigns_0 : decode cX1_readSigns 0 = .ok (.iconst 0, 1) := by decide +kernel
theorem dX1_readSigns_1 : decode cX1_readSigns 1 = .ok (.istore_n 3, 1) := by decide +kernel
theorem dX1_readSigns_2 : decode cX1_readSigns 2 = .ok (.iload_n 3, 1) := by decide +kernel
theorem dX1_readSigns_3 : decode cX1_readSigns 3 = .ok (.bipush 60, 2) := by decide +kernel
theorem dX1_readSigns_5 : decode cX1_readSigns 5 = .ok (.if_icmp .ge 131, 3) := by decide +kernel
theorem dX1_readSigns_8 : decode cX1_readSigns 8 = .ok (.aload_n 0, 1) := by decide +kernel
theorem dX1_readSigns_9 : decode cX1_readSigns 9 = .ok (.getfield 12, 3) := by decide +kernel
theorem dX1_readSigns_12 : decode cX1_readSigns 12 = .ok (.bipush 126, 2) := by decide +kernel
theorem dX1_readSigns_14 : decode cX1_readSigns 14 = .ok (.invokevirtual 50, 3) := by decide +kernel
theorem dX1_readSigns_17 : decode cX1_readSigns 17 = .ok (.ifCond .eq 23, 3) := by decide +kernel
theorem dX1_readSigns_20 : decode cX1_readSigns 20 = .ok (.aload_n 2, 1) := by decide +kernel
theorem dX1_readSigns_21 : decode cX1_readSigns 21 = .ok (.iload_n 1, 1) := by decide +kernel
theorem dX1_readSigns_22 : decode cX1_readSigns 22 = .ok (.aload_n 0, 1) := by decide +kernel
theorem dX1_readSigns_23 : decode cX1_readSigns 23 = .ok (.getfield 23, 3) := by decide +kernel
theorem dX1_readSigns_26 : decode cX1_readSigns 26 = .ok (.invokestatic 105, 3) := by decide +kernel
theorem dX1_readSigns_29 : decode cX1_readSigns 29 = .ok (.aload_n 0, 1) := by decide +kernel
theorem dX1_readSigns_30 : decode cX1_readSigns 30 = .ok (.getfield 23, 3) := by decide +kernel
theorem dX1_readSigns_33 : decode cX1_readSigns 33 = .ok (.aload_n 2, 1) := by decide +kernel
theorem dX1_readSigns_34 : decode cX1_readSigns 34 = .ok (.invokestatic 95, 3) := by decide +kernel
theorem dX1_readSigns_37 : decode cX1_readSigns 37 = .ok (.goto 93, 3) := by decide +kernel
theorem dX1_readSigns_40 : decode cX1_readSigns 40 = .ok (.aload_n 0, 1) := by decide +kernel
theorem dX1_readSigns_41 : decode cX1_readSigns 41 = .ok (.getfield 12, 3) := by decide +kernel
theorem dX1_readSigns_44 : decode cX1_readSigns 44 = .ok (.bipush 94, 2) := by decide +kernel
theorem dX1_readSigns_46 : decode cX1_readSigns 46 = .ok (.invokevirtual 50, 3) := by decide +kernel
theorem dX1_readSigns_49 : decode cX1_readSigns 49 = .ok (.ifCond .eq 41, 3) := by decide +kernel
theorem dX1_readSigns_52 : decode cX1_readSigns 52 = .ok (.aload_n 0, 1) := by decide +kernel
theorem dX1_readSigns_53 : decode cX1_readSigns 53 = .ok (.getfield 12, 3) := by decide +kernel
theorem dX1_readSigns_56 : decode cX1_readSigns 56 = .ok (.invokevirtual 109, 3) := by decide +kernel
theorem dX1_readSigns_59 : decode cX1_readSigns 59 = .ok (.istore 4, 2) := by decide +kernel
theorem dX1_readSigns_61 : decode cX1_readSigns 61 = .ok (.iload 4, 2) := by decide +kernel
theorem dX1_readSigns_63 : decode cX1_readSigns 63 = .ok (.iconst (-1), 1) := by decide +kernel
theorem dX1_readSigns_64 : decode cX1_readSigns 64 = .ok (.if_icmp .ne 5, 3) := by decide +kernel
theorem dX1_readSigns_67 : decode cX1_readSigns 67 = .ok (.iconst 0, 1) := by decide +kernel
theorem dX1_readSigns_68 : decode cX1_readSigns 68 = .ok (.ireturn, 1) := by decide +kernel
theorem dX1_readSigns_69 : decode cX1_readSigns 69 = .ok (.aload_n 2, 1) := by decide +kernel
theorem dX1_readSigns_70 : decode cX1_readSigns 70 = .ok (.iload 4, 2) := by decide +kernel
theorem dX1_readSigns_72 : decode cX1_readSigns 72 = .ok (.aload_n 0, 1) := by decide +kernel
theorem dX1_readSigns_73 : decode cX1_readSigns 73 = .ok (.getfield 23, 3) := by decide +kernel
theorem dX1_readSigns_76 : decode cX1_readSigns 76 = .ok (.invokestatic 112, 3) := by decide +kernel
theorem dX1_readSigns_79 : decode cX1_readSigns 79 = .ok (.aload_n 0, 1) := by decide +kernel
theorem dX1_readSigns_80 : decode cX1_readSigns 80 = .ok (.getfield 23, 3) := by decide +kernel
theorem dX1_readSigns_83 : decode cX1_readSigns 83 = .ok (.aload_n 2, 1) := by decide +kernel
theorem dX1_readSigns_84 : decode cX1_readSigns 84 = .ok (.invokestatic 95, 3) := by decide +kernel
theorem dX1_readSigns_87 : decode cX1_readSigns 87 = .ok (.goto 43, 3) := by decide +kernel
theorem dX1_readSigns_90 : decode cX1_readSigns 90 = .ok (.aload_n 0, 1) := by decide +kernel
theorem dX1_readSigns_91 : decode cX1_readSigns 91 = .ok (.getfield 12, 3) := by decide +kernel
theorem dX1_readSigns_94 : decode cX1_readSigns 94 = .ok (.bipush 123, 2) := by decide +kernel
theorem dX1_readSigns_96 : decode cX1_readSigns 96 = .ok (.invokevirtual 50, 3) := by decide +kernel
theorem dX1_readSigns_99 : decode cX1_readSigns 99 = .ok (.ifCond .eq 29, 3) := by decide +kernel
theorem dX1_readSigns_102 : decode cX1_readSigns 102 = .ok (.aload_n 0, 1) := by decide +kernel
theorem dX1_readSigns_103 : decode cX1_readSigns 103 = .ok (.getfield 12, 3) := by decide +kernel
theorem dX1_readSigns_106 : decode cX1_readSigns 106 = .ok (.invokevirtual 115, 3) := by decide +kernel
theorem dX1_readSigns_109 : decode cX1_readSigns 109 = .ok (.istore 4, 2) := by decide +kernel
theorem dX1_readSigns_111 : decode cX1_readSigns 111 = .ok (.iload 4, 2) := by decide +kernel
theorem dX1_readSigns_113 : decode cX1_readSigns 113 = .ok (.iconst (-1), 1) := by decide +kernel
theorem dX1_readSigns_114 : decode cX1_readSigns 114 = .ok (.if_icmp .ne 5, 3) := by decide +kernel
theorem dX1_readSigns_117 : decode cX1_readSigns 117 = .ok (.iconst 0, 1) := by decide +kernel
theorem dX1_readSigns_118 : decode cX1_readSigns 118 = .ok (.ireturn, 1) := by decide +kernel
theorem dX1_readSigns_119 : decode cX1_readSigns 119 = .ok (.aload_n 2, 1) := by decide +kernel
theorem dX1_readSigns_120 : decode cX1_readSigns 120 = .ok (.iload 4, 2) := by decide +kernel
theorem dX1_readSigns_122 : decode cX1_readSigns 122 = .ok (.invokestatic 118, 3) := by decide +kernel
theorem dX1_readSigns_125 : decode cX1_readSigns 125 = .ok (.goto 5, 3) := by decide +kernel
theorem dX1_readSigns_128 : decode cX1_readSigns 128 = .ok (.iconst 1, 1) := by decide +kernel
theorem dX1_readSigns_129 : decode cX1_readSigns 129 = .ok (.ireturn, 1) := by decide +kernel
theorem dX1_readSigns_130 : decode cX1_readSigns 130 = .ok (.iinc 3 1, 3) := by decide +kernel
theorem dX1_readSigns_133 : decode cX1_readSigns 133 = .ok (.goto (-131), 3) := by decide +kernel
theorem dX1_readSigns_136 : decode cX1_readSigns 136 = .ok (.iconst 1, 1) := by decide +kernel
theorem dX1_readSigns_137 : decode cX1_readSigns 137 = .ok (.ireturn, 1) := by decide +kernel
theorem dX2_copy_0 : decode cX2_copy 0 = .ok (.aload_n 0, 1) := by decide +kernel
theorem dX2_copy_1 : decode cX2_copy 1 = .ok (.iconst 0, 1) := by decide +kernel
theorem dX2_copy_2 : decode cX2_copy 2 = .ok (.aload_n 1, 1) := by decide +kernel
theorem dX2_copy_3 : decode cX2_copy 3 = .ok (.iconst 0, 1) := by decide +kernel
theorem dX2_copy_4 : decode cX2_copy 4 = .ok (.bipush 16, 2) := by decide +kernel
theorem dX2_copy_6 : decode cX2_copy 6 = .ok (.invokestatic 9, 3) := by decide +kernel
theorem dX2_copy_9 : decode cX2_copy 9 = .ok (.return_, 1) := by decide +kernel
theorem dX2_step_0 : decode cX2_step 0 = .ok (.iload_n 1, 1) := by decide +kernel
theorem dX2_step_1 : decode cX2_step 1 = .ok (.ifCond .lt 15, 3) := by decide +kernel
theorem dX2_step_4 : decode cX2_step 4 = .ok (.iload_n 1, 1) := by decide +kernel
theorem dX2_step_5 : decode cX2_step 5 = .ok (.bipush 16, 2) := by decide +kernel
theorem dX2_step_7 : decode cX2_step 7 = .ok (.if_icmp .ge 9, 3) := by decide +kernel
theorem dX2_step_10 : decode cX2_step 10 = .ok (.aload_n 0, 1) := by decide +kernel
theorem dX2_step_11 : decode cX2_step 11 = .ok (.iload_n 1, 1) := by decide +kernel
theorem dX2_step_12 : decode cX2_step 12 = .ok (.iaload, 1) := by decide +kernel
theorem dX2_step_13 : decode cX2_step 13 = .ok (.goto 5, 3) := by decide +kernel
theorem dX2_step_16 : decode cX2_step 16 = .ok (.bipush 16, 2) := by decide +kernel
theorem dX2_step_18 : decode cX2_step 18 = .ok (.ireturn, 1) := by decide +kernel
theorem dX2_walk_0 : decode cX2_walk 0 = .ok (.iload_n 1, 1) := by decide +kernel
theorem dX2_walk_1 : decode cX2_walk 1 = .ok (.istore_n 3, 1) := by decide +kernel
theorem dX2_walk_2 : decode cX2_walk 2 = .ok (.iconst 0, 1) := by decide +kernel
theorem dX2_walk_3 : decode cX2_walk 3 = .ok (.istore 4, 2) := by decide +kernel
theorem dX2_walk_5 : decode cX2_walk 5 = .ok (.iload 4, 2) := by decide +kernel
theorem dX2_walk_7 : decode cX2_walk 7 = .ok (.iload_n 2, 1) := by decide +kernel
theorem dX2_walk_8 : decode cX2_walk 8 = .ok (.if_icmp .ge 21, 3) := by decide +kernel
theorem dX2_walk_11 : decode cX2_walk 11 = .ok (.iload_n 3, 1) := by decide +kernel
theorem dX2_walk_12 : decode cX2_walk 12 = .ok (.bipush 16, 2) := by decide +kernel
theorem dX2_walk_14 : decode cX2_walk 14 = .ok (.if_icmp .eq 15, 3) := by decide +kernel
theorem dX2_walk_17 : decode cX2_walk 17 = .ok (.aload_n 0, 1) := by decide +kernel
theorem dX2_walk_18 : decode cX2_walk 18 = .ok (.iload_n 3, 1) := by decide +kernel
theorem dX2_walk_19 : decode cX2_walk 19 = .ok (.invokestatic 15, 3) := by decide +kernel
theorem dX2_walk_22 : decode cX2_walk 22 = .ok (.istore_n 3, 1) := by decide +kernel
theorem dX2_walk_23 : decode cX2_walk 23 = .ok (.iinc 4 1, 3) := by decide +kernel
theorem dX2_walk_26 : decode cX2_walk 26 = .ok (.goto (-21), 3) := by decide +kernel
theorem dX2_walk_29 : decode cX2_walk 29 = .ok (.iload_n 3, 1) := by decide +kernel
theorem dX2_walk_30 : decode cX2_walk 30 = .ok (.ireturn, 1) := by decide +kernel
theorem dX2_walkFar_0 : decode cX2_walkFar 0 = .ok (.iload_n 2, 1) := by decide +kernel
theorem dX2_walkFar_1 : decode cX2_walkFar 1 = .ok (.bipush 16, 2) := by decide +kernel
theorem dX2_walkFar_3 : decode cX2_walkFar 3 = .ok (.if_icmp .gt 10, 3) := by decide +kernel
theorem dX2_walkFar_6 : decode cX2_walkFar 6 = .ok (.aload_n 0, 1) := by decide +kernel
theorem dX2_walkFar_7 : decode cX2_walkFar 7 = .ok (.iload_n 1, 1) := by decide +kernel
theorem dX2_walkFar_8 : decode cX2_walkFar 8 = .ok (.iload_n 2, 1) := by decide +kernel
theorem dX2_walkFar_9 : decode cX2_walkFar 9 = .ok (.invokestatic 21, 3) := by decide +kernel
theorem dX2_walkFar_12 : decode cX2_walkFar 12 = .ok (.ireturn, 1) := by decide +kernel
theorem dX2_walkFar_13 : decode cX2_walkFar 13 = .ok (.aload_n 0, 1) := by decide +kernel
theorem dX2_walkFar_14 : decode cX2_walkFar 14 = .ok (.iload_n 1, 1) := by decide +kernel
theorem dX2_walkFar_15 : decode cX2_walkFar 15 = .ok (.bipush 16, 2) := by decide +kernel
theorem dX2_walkFar_17 : decode cX2_walkFar 17 = .ok (.invokestatic 21, 3) := by decide +kernel
theorem dX2_walkFar_20 : decode cX2_walkFar 20 = .ok (.istore_n 3, 1) := by decide +kernel
theorem dX2_walkFar_21 : decode cX2_walkFar 21 = .ok (.aload_n 0, 1) := by decide +kernel
theorem dX2_walkFar_22 : decode cX2_walkFar 22 = .ok (.iload_n 3, 1) := by decide +kernel
theorem dX2_walkFar_23 : decode cX2_walkFar 23 = .ok (.invokestatic 25, 3) := by decide +kernel
theorem dX2_walkFar_26 : decode cX2_walkFar 26 = .ok (.istore 4, 2) := by decide +kernel
theorem dX2_walkFar_28 : decode cX2_walkFar 28 = .ok (.iload 4, 2) := by decide +kernel
theorem dX2_walkFar_30 : decode cX2_walkFar 30 = .ok (.ifCond .gt 8, 3) := by decide +kernel
theorem dX2_walkFar_33 : decode cX2_walkFar 33 = .ok (.bipush 16, 2) := by decide +kernel
theorem dX2_walkFar_35 : decode cX2_walkFar 35 = .ok (.goto 15, 3) := by decide +kernel
theorem dX2_walkFar_38 : decode cX2_walkFar 38 = .ok (.aload_n 0, 1) := by decide +kernel
theorem dX2_walkFar_39 : decode cX2_walkFar 39 = .ok (.iload_n 3, 1) := by decide +kernel
theorem dX2_walkFar_40 : decode cX2_walkFar 40 = .ok (.iload_n 2, 1) := by decide +kernel
theorem dX2_walkFar_41 : decode cX2_walkFar 41 = .ok (.bipush 16, 2) := by decide +kernel
theorem dX2_walkFar_43 : decode cX2_walkFar 43 = .ok (.isub, 1) := by decide +kernel
theorem dX2_walkFar_44 : decode cX2_walkFar 44 = .ok (.iload 4, 2) := by decide +kernel
theorem dX2_walkFar_46 : decode cX2_walkFar 46 = .ok (.irem, 1) := by decide +kernel
theorem dX2_walkFar_47 : decode cX2_walkFar 47 = .ok (.invokestatic 21, 3) := by decide +kernel
theorem dX2_walkFar_50 : decode cX2_walkFar 50 = .ok (.ireturn, 1) := by decide +kernel
theorem dX2_cycleOf_0 : decode cX2_cycleOf 0 = .ok (.iload_n 1, 1) := by decide +kernel
theorem dX2_cycleOf_1 : decode cX2_cycleOf 1 = .ok (.istore_n 2, 1) := by decide +kernel
theorem dX2_cycleOf_2 : decode cX2_cycleOf 2 = .ok (.iconst 1, 1) := by decide +kernel
theorem dX2_cycleOf_3 : decode cX2_cycleOf 3 = .ok (.istore_n 3, 1) := by decide +kernel
theorem dX2_cycleOf_4 : decode cX2_cycleOf 4 = .ok (.iload_n 3, 1) := by decide +kernel
theorem dX2_cycleOf_5 : decode cX2_cycleOf 5 = .ok (.bipush 16, 2) := by decide +kernel
theorem dX2_cycleOf_7 : decode cX2_cycleOf 7 = .ok (.if_icmp .gt 30, 3) := by decide +kernel
theorem dX2_cycleOf_10 : decode cX2_cycleOf 10 = .ok (.aload_n 0, 1) := by decide +kernel
theorem dX2_cycleOf_11 : decode cX2_cycleOf 11 = .ok (.iload_n 2, 1) := by decide +kernel
theorem dX2_cycleOf_12 : decode cX2_cycleOf 12 = .ok (.invokestatic 15, 3) := by decide +kernel
theorem dX2_cycleOf_15 : decode cX2_cycleOf 15 = .ok (.istore_n 2, 1) := by decide +kernel
theorem dX2_cycleOf_16 : decode cX2_cycleOf 16 = .ok (.iload_n 2, 1) := by decide +kernel
theorem dX2_cycleOf_17 : decode cX2_cycleOf 17 = .ok (.bipush 16, 2) := by decide +kernel
theorem dX2_cycleOf_19 : decode cX2_cycleOf 19 = .ok (.if_icmp .ne 5, 3) := by decide +kernel
theorem dX2_cycleOf_22 : decode cX2_cycleOf 22 = .ok (.iconst 0, 1) := by decide +kernel
theorem dX2_cycleOf_23 : decode cX2_cycleOf 23 = .ok (.ireturn, 1) := by decide +kernel
theorem dX2_cycleOf_24 : decode cX2_cycleOf 24 = .ok (.iload_n 2, 1) := by decide +kernel
theorem dX2_cycleOf_25 : decode cX2_cycleOf 25 = .ok (.iload_n 1, 1) := by decide +kernel
theorem dX2_cycleOf_26 : decode cX2_cycleOf 26 = .ok (.if_icmp .ne 5, 3) := by decide +kernel
theorem dX2_cycleOf_29 : decode cX2_cycleOf 29 = .ok (.iload_n 3, 1) := by decide +kernel
theorem dX2_cycleOf_30 : decode cX2_cycleOf 30 = .ok (.ireturn, 1) := by decide +kernel
theorem dX2_cycleOf_31 : decode cX2_cycleOf 31 = .ok (.iinc 3 1, 3) := by decide +kernel
theorem dX2_cycleOf_34 : decode cX2_cycleOf 34 = .ok (.goto (-30), 3) := by decide +kernel
theorem dX2_cycleOf_37 : decode cX2_cycleOf 37 = .ok (.iconst 0, 1) := by decide +kernel
theorem dX2_cycleOf_38 : decode cX2_cycleOf 38 = .ok (.ireturn, 1) := by decide +kernel
theorem dX2_stepsToHole_0 : decode cX2_stepsToHole 0 = .ok (.iload_n 1, 1) := by decide +kernel
theorem dX2_stepsToHole_1 : decode cX2_stepsToHole 1 = .ok (.istore_n 2, 1) := by decide +kernel
theorem dX2_stepsToHole_2 : decode cX2_stepsToHole 2 = .ok (.iconst 0, 1) := by decide +kernel
theorem dX2_stepsToHole_3 : decode cX2_stepsToHole 3 = .ok (.istore_n 3, 1) := by decide +kernel
theorem dX2_stepsToHole_4 : decode cX2_stepsToHole 4 = .ok (.iload_n 3, 1) := by decide +kernel
theorem dX2_stepsToHole_5 : decode cX2_stepsToHole 5 = .ok (.bipush 16, 2) := by decide +kernel
theorem dX2_stepsToHole_7 : decode cX2_stepsToHole 7 = .ok (.if_icmp .ge 23, 3) := by decide +kernel
theorem dX2_stepsToHole_10 : decode cX2_stepsToHole 10 = .ok (.aload_n 0, 1) := by decide +kernel
theorem dX2_stepsToHole_11 : decode cX2_stepsToHole 11 = .ok (.iload_n 2, 1) := by decide +kernel
theorem dX2_stepsToHole_12 : decode cX2_stepsToHole 12 = .ok (.invokestatic 15, 3) := by decide +kernel
theorem dX2_stepsToHole_15 : decode cX2_stepsToHole 15 = .ok (.istore_n 2, 1) := by decide +kernel
theorem dX2_stepsToHole_16 : decode cX2_stepsToHole 16 = .ok (.iload_n 2, 1) := by decide +kernel
theorem dX2_stepsToHole_17 : decode cX2_stepsToHole 17 = .ok (.bipush 16, 2) := by decide +kernel
theorem dX2_stepsToHole_19 : decode cX2_stepsToHole 19 = .ok (.if_icmp .ne 5, 3) := by decide +kernel
theorem dX2_stepsToHole_22 : decode cX2_stepsToHole 22 = .ok (.iload_n 3, 1) := by decide +kernel
theorem dX2_stepsToHole_23 : decode cX2_stepsToHole 23 = .ok (.ireturn, 1) := by decide +kernel
theorem dX2_stepsToHole_24 : decode cX2_stepsToHole 24 = .ok (.iinc 3 1, 3) := by decide +kernel
theorem dX2_stepsToHole_27 : decode cX2_stepsToHole 27 = .ok (.goto (-23), 3) := by decide +kernel
theorem dX2_stepsToHole_30 : decode cX2_stepsToHole 30 = .ok (.bipush (-5), 2) := by decide +kernel
theorem dX2_stepsToHole_32 : decode cX2_stepsToHole 32 = .ok (.ireturn, 1) := by decide +kernel
theorem dX2_stepsToSecondMeeting_0 : decode cX2_stepsToSecondMeeting 0 = .ok (.iload_n 1, 1) := by decide +kernel
theorem dX2_stepsToSecondMeeting_1 : decode cX2_stepsToSecondMeeting 1 = .ok (.istore_n 2, 1) := by decide +kernel
theorem dX2_stepsToSecondMeeting_2 : decode cX2_stepsToSecondMeeting 2 = .ok (.iconst 0, 1) := by decide +kernel
theorem dX2_stepsToSecondMeeting_3 : decode cX2_stepsToSecondMeeting 3 = .ok (.istore_n 3, 1) := by decide +kernel
theorem dX2_stepsToSecondMeeting_4 : decode cX2_stepsToSecondMeeting 4 = .ok (.iconst 0, 1) := by decide +kernel
theorem dX2_stepsToSecondMeeting_5 : decode cX2_stepsToSecondMeeting 5 = .ok (.istore 4, 2) := by decide +kernel
theorem dX2_stepsToSecondMeeting_7 : decode cX2_stepsToSecondMeeting 7 = .ok (.iload 4, 2) := by decide +kernel
theorem dX2_stepsToSecondMeeting_9 : decode cX2_stepsToSecondMeeting 9 = .ok (.bipush 16, 2) := by decide +kernel
theorem dX2_stepsToSecondMeeting_11 : decode cX2_stepsToSecondMeeting 11 = .ok (.if_icmp .gt 39, 3) := by decide +kernel
theorem dX2_stepsToSecondMeeting_14 : decode cX2_stepsToSecondMeeting 14 = .ok (.iload_n 2, 1) := by decide +kernel
theorem dX2_stepsToSecondMeeting_15 : decode cX2_stepsToSecondMeeting 15 = .ok (.bipush 16, 2) := by decide +kernel
theorem dX2_stepsToSecondMeeting_17 : decode cX2_stepsToSecondMeeting 17 = .ok (.if_icmp .eq 33, 3) := by decide +kernel
theorem dX2_stepsToSecondMeeting_20 : decode cX2_stepsToSecondMeeting 20 = .ok (.iload_n 3, 1) := by decide +kernel
theorem dX2_stepsToSecondMeeting_21 : decode cX2_stepsToSecondMeeting 21 = .ok (.iload_n 2, 1) := by decide +kernel
theorem dX2_stepsToSecondMeeting_22 : decode cX2_stepsToSecondMeeting 22 = .ok (.ishr, 1) := by decide +kernel
theorem dX2_stepsToSecondMeeting_23 : decode cX2_stepsToSecondMeeting 23 = .ok (.iconst 1, 1) := by decide +kernel
theorem dX2_stepsToSecondMeeting_24 : decode cX2_stepsToSecondMeeting 24 = .ok (.iand, 1) := by decide +kernel
theorem dX2_stepsToSecondMeeting_25 : decode cX2_stepsToSecondMeeting 25 = .ok (.iconst 1, 1) := by decide +kernel
theorem dX2_stepsToSecondMeeting_26 : decode cX2_stepsToSecondMeeting 26 = .ok (.if_icmp .ne 6, 3) := by decide +kernel
theorem dX2_stepsToSecondMeeting_29 : decode cX2_stepsToSecondMeeting 29 = .ok (.iload 4, 2) := by decide +kernel
theorem dX2_stepsToSecondMeeting_31 : decode cX2_stepsToSecondMeeting 31 = .ok (.ireturn, 1) := by decide +kernel
theorem dX2_stepsToSecondMeeting_32 : decode cX2_stepsToSecondMeeting 32 = .ok (.iload_n 3, 1) := by decide +kernel
theorem dX2_stepsToSecondMeeting_33 : decode cX2_stepsToSecondMeeting 33 = .ok (.iconst 1, 1) := by decide +kernel
theorem dX2_stepsToSecondMeeting_34 : decode cX2_stepsToSecondMeeting 34 = .ok (.iload_n 2, 1) := by decide +kernel
theorem dX2_stepsToSecondMeeting_35 : decode cX2_stepsToSecondMeeting 35 = .ok (.ishl, 1) := by decide +kernel
theorem dX2_stepsToSecondMeeting_36 : decode cX2_stepsToSecondMeeting 36 = .ok (.ior, 1) := by decide +kernel
theorem dX2_stepsToSecondMeeting_37 : decode cX2_stepsToSecondMeeting 37 = .ok (.istore_n 3, 1) := by decide +kernel
theorem dX2_stepsToSecondMeeting_38 : decode cX2_stepsToSecondMeeting 38 = .ok (.aload_n 0, 1) := by decide +kernel
theorem dX2_stepsToSecondMeeting_39 : decode cX2_stepsToSecondMeeting 39 = .ok (.iload_n 2, 1) := by decide +kernel
theorem dX2_stepsToSecondMeeting_40 : decode cX2_stepsToSecondMeeting 40 = .ok (.invokestatic 15, 3) := by decide +kernel
theorem dX2_stepsToSecondMeeting_43 : decode cX2_stepsToSecondMeeting 43 = .ok (.istore_n 2, 1) := by decide +kernel
theorem dX2_stepsToSecondMeeting_44 : decode cX2_stepsToSecondMeeting 44 = .ok (.iinc 4 1, 3) := by decide +kernel
theorem dX2_stepsToSecondMeeting_47 : decode cX2_stepsToSecondMeeting 47 = .ok (.goto (-40), 3) := by decide +kernel
theorem dX2_stepsToSecondMeeting_50 : decode cX2_stepsToSecondMeeting 50 = .ok (.bipush (-5), 2) := by decide +kernel
theorem dX2_stepsToSecondMeeting_52 : decode cX2_stepsToSecondMeeting 52 = .ok (.ireturn, 1) := by decide +kernel
theorem dX2_cycleMet_0 : decode cX2_cycleMet 0 = .ok (.aload_n 0, 1) := by decide +kernel
theorem dX2_cycleMet_1 : decode cX2_cycleMet 1 = .ok (.iload_n 1, 1) := by decide +kernel
theorem dX2_cycleMet_2 : decode cX2_cycleMet 2 = .ok (.bipush 16, 2) := by decide +kernel
theorem dX2_cycleMet_4 : decode cX2_cycleMet 4 = .ok (.invokestatic 21, 3) := by decide +kernel
theorem dX2_cycleMet_7 : decode cX2_cycleMet 7 = .ok (.istore_n 2, 1) := by decide +kernel
theorem dX2_cycleMet_8 : decode cX2_cycleMet 8 = .ok (.iload_n 2, 1) := by decide +kernel
theorem dX2_cycleMet_9 : decode cX2_cycleMet 9 = .ok (.bipush 16, 2) := by decide +kernel
theorem dX2_cycleMet_11 : decode cX2_cycleMet 11 = .ok (.if_icmp .ne 8, 3) := by decide +kernel
theorem dX2_cycleMet_14 : decode cX2_cycleMet 14 = .ok (.bipush (-5), 2) := by decide +kernel
theorem dX2_cycleMet_16 : decode cX2_cycleMet 16 = .ok (.goto 8, 3) := by decide +kernel
theorem dX2_cycleMet_19 : decode cX2_cycleMet 19 = .ok (.aload_n 0, 1) := by decide +kernel
theorem dX2_cycleMet_20 : decode cX2_cycleMet 20 = .ok (.iload_n 2, 1) := by decide +kernel
theorem dX2_cycleMet_21 : decode cX2_cycleMet 21 = .ok (.invokestatic 25, 3) := by decide +kernel
theorem dX2_cycleMet_24 : decode cX2_cycleMet 24 = .ok (.ireturn, 1) := by decide +kernel
theorem dX2_holes_0 : decode cX2_holes 0 = .ok (.iconst 0, 1) := by decide +kernel
theorem dX2_holes_1 : decode cX2_holes 1 = .ok (.istore_n 1, 1) := by decide +kernel
theorem dX2_holes_2 : decode cX2_holes 2 = .ok (.iconst 0, 1) := by decide +kernel
theorem dX2_holes_3 : decode cX2_holes 3 = .ok (.istore_n 2, 1) := by decide +kernel
theorem dX2_holes_4 : decode cX2_holes 4 = .ok (.iload_n 2, 1) := by decide +kernel
theorem dX2_holes_5 : decode cX2_holes 5 = .ok (.bipush 16, 2) := by decide +kernel
theorem dX2_holes_7 : decode cX2_holes 7 = .ok (.if_icmp .ge 23, 3) := by decide +kernel
theorem dX2_holes_10 : decode cX2_holes 10 = .ok (.aload_n 0, 1) := by decide +kernel
theorem dX2_holes_11 : decode cX2_holes 11 = .ok (.iload_n 2, 1) := by decide +kernel
theorem dX2_holes_12 : decode cX2_holes 12 = .ok (.iaload, 1) := by decide +kernel
theorem dX2_holes_13 : decode cX2_holes 13 = .ok (.bipush 16, 2) := by decide +kernel
theorem dX2_holes_15 : decode cX2_holes 15 = .ok (.if_icmp .ne 9, 3) := by decide +kernel
theorem dX2_holes_18 : decode cX2_holes 18 = .ok (.iload_n 1, 1) := by decide +kernel
theorem dX2_holes_19 : decode cX2_holes 19 = .ok (.iconst 1, 1) := by decide +kernel
theorem dX2_holes_20 : decode cX2_holes 20 = .ok (.iload_n 2, 1) := by decide +kernel
theorem dX2_holes_21 : decode cX2_holes 21 = .ok (.ishl, 1) := by decide +kernel
theorem dX2_holes_22 : decode cX2_holes 22 = .ok (.ior, 1) := by decide +kernel
theorem dX2_holes_23 : decode cX2_holes 23 = .ok (.istore_n 1, 1) := by decide +kernel
theorem dX2_holes_24 : decode cX2_holes 24 = .ok (.iinc 2 1, 3) := by decide +kernel
theorem dX2_holes_27 : decode cX2_holes 27 = .ok (.goto (-23), 3) := by decide +kernel
theorem dX2_holes_30 : decode cX2_holes 30 = .ok (.iload_n 1, 1) := by decide +kernel
theorem dX2_holes_31 : decode cX2_holes 31 = .ok (.ireturn, 1) := by decide +kernel
theorem dX2_image_0 : decode cX2_image 0 = .ok (.iconst 0, 1) := by decide +kernel
theorem dX2_image_1 : decode cX2_image 1 = .ok (.istore_n 1, 1) := by decide +kernel
theorem dX2_image_2 : decode cX2_image 2 = .ok (.iconst 0, 1) := by decide +kernel
theorem dX2_image_3 : decode cX2_image 3 = .ok (.istore_n 2, 1) := by decide +kernel
theorem dX2_image_4 : decode cX2_image 4 = .ok (.iload_n 2, 1) := by decide +kernel
theorem dX2_image_5 : decode cX2_image 5 = .ok (.bipush 16, 2) := by decide +kernel
theorem dX2_image_7 : decode cX2_image 7 = .ok (.if_icmp .ge 25, 3) := by decide +kernel
theorem dX2_image_10 : decode cX2_image 10 = .ok (.aload_n 0, 1) := by decide +kernel
theorem dX2_image_11 : decode cX2_image 11 = .ok (.iload_n 2, 1) := by decide +kernel
theorem dX2_image_12 : decode cX2_image 12 = .ok (.iaload, 1) := by decide +kernel
theorem dX2_image_13 : decode cX2_image 13 = .ok (.bipush 16, 2) := by decide +kernel
theorem dX2_image_15 : decode cX2_image 15 = .ok (.if_icmp .eq 11, 3) := by decide +kernel
theorem dX2_image_18 : decode cX2_image 18 = .ok (.iload_n 1, 1) := by decide +kernel
theorem dX2_image_19 : decode cX2_image 19 = .ok (.iconst 1, 1) := by decide +kernel
theorem dX2_image_20 : decode cX2_image 20 = .ok (.aload_n 0, 1) := by decide +kernel
theorem dX2_image_21 : decode cX2_image 21 = .ok (.iload_n 2, 1) := by decide +kernel
theorem dX2_image_22 : decode cX2_image 22 = .ok (.iaload, 1) := by decide +kernel
theorem dX2_image_23 : decode cX2_image 23 = .ok (.ishl, 1) := by decide +kernel
theorem dX2_image_24 : decode cX2_image 24 = .ok (.ior, 1) := by decide +kernel
theorem dX2_image_25 : decode cX2_image 25 = .ok (.istore_n 1, 1) := by decide +kernel
theorem dX2_image_26 : decode cX2_image 26 = .ok (.iinc 2 1, 3) := by decide +kernel
theorem dX2_image_29 : decode cX2_image 29 = .ok (.goto (-25), 3) := by decide +kernel
theorem dX2_image_32 : decode cX2_image 32 = .ok (.iload_n 1, 1) := by decide +kernel
theorem dX2_image_33 : decode cX2_image 33 = .ok (.ireturn, 1) := by decide +kernel
theorem dX2_isOneToOne_0 : decode cX2_isOneToOne 0 = .ok (.bipush 16, 2) := by decide +kernel
theorem dX2_isOneToOne_2 : decode cX2_isOneToOne 2 = .ok (.aload_n 0, 1) := by decide +kernel
theorem dX2_isOneToOne_3 : decode cX2_isOneToOne 3 = .ok (.invokestatic 28, 3) := by decide +kernel
theorem dX2_isOneToOne_6 : decode cX2_isOneToOne 6 = .ok (.invokestatic 32, 3) := by decide +kernel
theorem dX2_isOneToOne_9 : decode cX2_isOneToOne 9 = .ok (.isub, 1) := by decide +kernel
theorem dX2_isOneToOne_10 : decode cX2_isOneToOne 10 = .ok (.istore_n 1, 1) := by decide +kernel
theorem dX2_isOneToOne_11 : decode cX2_isOneToOne 11 = .ok (.aload_n 0, 1) := by decide +kernel
theorem dX2_isOneToOne_12 : decode cX2_isOneToOne 12 = .ok (.invokestatic 38, 3) := by decide +kernel
theorem dX2_isOneToOne_15 : decode cX2_isOneToOne 15 = .ok (.invokestatic 32, 3) := by decide +kernel
theorem dX2_isOneToOne_18 : decode cX2_isOneToOne 18 = .ok (.iload_n 1, 1) := by decide +kernel
theorem dX2_isOneToOne_19 : decode cX2_isOneToOne 19 = .ok (.if_icmp .ne 7, 3) := by decide +kernel
theorem dX2_isOneToOne_22 : decode cX2_isOneToOne 22 = .ok (.iconst 1, 1) := by decide +kernel
theorem dX2_isOneToOne_23 : decode cX2_isOneToOne 23 = .ok (.goto 4, 3) := by decide +kernel
theorem dX2_isOneToOne_26 : decode cX2_isOneToOne 26 = .ok (.iconst 0, 1) := by decide +kernel
theorem dX2_isOneToOne_27 : decode cX2_isOneToOne 27 = .ok (.ireturn, 1) := by decide +kernel
theorem dX2_fixed_0 : decode cX2_fixed 0 = .ok (.iconst 0, 1) := by decide +kernel
theorem dX2_fixed_1 : decode cX2_fixed 1 = .ok (.istore_n 1, 1) := by decide +kernel
theorem dX2_fixed_2 : decode cX2_fixed 2 = .ok (.iconst 0, 1) := by decide +kernel
theorem dX2_fixed_3 : decode cX2_fixed 3 = .ok (.istore_n 2, 1) := by decide +kernel
theorem dX2_fixed_4 : decode cX2_fixed 4 = .ok (.iload_n 2, 1) := by decide +kernel
theorem dX2_fixed_5 : decode cX2_fixed 5 = .ok (.bipush 16, 2) := by decide +kernel
theorem dX2_fixed_7 : decode cX2_fixed 7 = .ok (.if_icmp .ge 22, 3) := by decide +kernel
theorem dX2_fixed_10 : decode cX2_fixed 10 = .ok (.aload_n 0, 1) := by decide +kernel
theorem dX2_fixed_11 : decode cX2_fixed 11 = .ok (.iload_n 2, 1) := by decide +kernel
theorem dX2_fixed_12 : decode cX2_fixed 12 = .ok (.iaload, 1) := by decide +kernel
theorem dX2_fixed_13 : decode cX2_fixed 13 = .ok (.iload_n 2, 1) := by decide +kernel
theorem dX2_fixed_14 : decode cX2_fixed 14 = .ok (.if_icmp .ne 9, 3) := by decide +kernel
theorem dX2_fixed_17 : decode cX2_fixed 17 = .ok (.iload_n 1, 1) := by decide +kernel
theorem dX2_fixed_18 : decode cX2_fixed 18 = .ok (.iconst 1, 1) := by decide +kernel
theorem dX2_fixed_19 : decode cX2_fixed 19 = .ok (.iload_n 2, 1) := by decide +kernel
theorem dX2_fixed_20 : decode cX2_fixed 20 = .ok (.ishl, 1) := by decide +kernel
theorem dX2_fixed_21 : decode cX2_fixed 21 = .ok (.ior, 1) := by decide +kernel
theorem dX2_fixed_22 : decode cX2_fixed 22 = .ok (.istore_n 1, 1) := by decide +kernel
theorem dX2_fixed_23 : decode cX2_fixed 23 = .ok (.iinc 2 1, 3) := by decide +kernel
theorem dX2_fixed_26 : decode cX2_fixed 26 = .ok (.goto (-22), 3) := by decide +kernel
theorem dX2_fixed_29 : decode cX2_fixed 29 = .ok (.iload_n 1, 1) := by decide +kernel
theorem dX2_fixed_30 : decode cX2_fixed 30 = .ok (.ireturn, 1) := by decide +kernel
theorem dX2_cyclic_0 : decode cX2_cyclic 0 = .ok (.iconst 0, 1) := by decide +kernel
theorem dX2_cyclic_1 : decode cX2_cyclic 1 = .ok (.istore_n 1, 1) := by decide +kernel
theorem dX2_cyclic_2 : decode cX2_cyclic 2 = .ok (.iconst 0, 1) := by decide +kernel
theorem dX2_cyclic_3 : decode cX2_cyclic 3 = .ok (.istore_n 2, 1) := by decide +kernel
theorem dX2_cyclic_4 : decode cX2_cyclic 4 = .ok (.iload_n 2, 1) := by decide +kernel
theorem dX2_cyclic_5 : decode cX2_cyclic 5 = .ok (.bipush 16, 2) := by decide +kernel
theorem dX2_cyclic_7 : decode cX2_cyclic 7 = .ok (.if_icmp .ge 23, 3) := by decide +kernel
theorem dX2_cyclic_10 : decode cX2_cyclic 10 = .ok (.aload_n 0, 1) := by decide +kernel
theorem dX2_cyclic_11 : decode cX2_cyclic 11 = .ok (.iload_n 2, 1) := by decide +kernel
theorem dX2_cyclic_12 : decode cX2_cyclic 12 = .ok (.invokestatic 25, 3) := by decide +kernel
theorem dX2_cyclic_15 : decode cX2_cyclic 15 = .ok (.ifCond .le 9, 3) := by decide +kernel
theorem dX2_cyclic_18 : decode cX2_cyclic 18 = .ok (.iload_n 1, 1) := by decide +kernel
theorem dX2_cyclic_19 : decode cX2_cyclic 19 = .ok (.iconst 1, 1) := by decide +kernel
theorem dX2_cyclic_20 : decode cX2_cyclic 20 = .ok (.iload_n 2, 1) := by decide +kernel
theorem dX2_cyclic_21 : decode cX2_cyclic 21 = .ok (.ishl, 1) := by decide +kernel
theorem dX2_cyclic_22 : decode cX2_cyclic 22 = .ok (.ior, 1) := by decide +kernel
theorem dX2_cyclic_23 : decode cX2_cyclic 23 = .ok (.istore_n 1, 1) := by decide +kernel
theorem dX2_cyclic_24 : decode cX2_cyclic 24 = .ok (.iinc 2 1, 3) := by decide +kernel
theorem dX2_cyclic_27 : decode cX2_cyclic 27 = .ok (.goto (-23), 3) := by decide +kernel
theorem dX2_cyclic_30 : decode cX2_cyclic 30 = .ok (.iload_n 1, 1) := by decide +kernel
theorem dX2_cyclic_31 : decode cX2_cyclic 31 = .ok (.ireturn, 1) := by decide +kernel
theorem dX2_longestCycle_0 : decode cX2_longestCycle 0 = .ok (.iconst 0, 1) := by decide +kernel
theorem dX2_longestCycle_1 : decode cX2_longestCycle 1 = .ok (.istore_n 1, 1) := by decide +kernel
theorem dX2_longestCycle_2 : decode cX2_longestCycle 2 = .ok (.iconst 0, 1) := by decide +kernel
theorem dX2_longestCycle_3 : decode cX2_longestCycle 3 = .ok (.istore_n 2, 1) := by decide +kernel
theorem dX2_longestCycle_4 : decode cX2_longestCycle 4 = .ok (.iload_n 2, 1) := by decide +kernel
theorem dX2_longestCycle_5 : decode cX2_longestCycle 5 = .ok (.bipush 16, 2) := by decide +kernel
theorem dX2_longestCycle_7 : decode cX2_longestCycle 7 = .ok (.if_icmp .ge 19, 3) := by decide +kernel
theorem dX2_longestCycle_10 : decode cX2_longestCycle 10 = .ok (.iload_n 1, 1) := by decide +kernel
theorem dX2_longestCycle_11 : decode cX2_longestCycle 11 = .ok (.aload_n 0, 1) := by decide +kernel
theorem dX2_longestCycle_12 : decode cX2_longestCycle 12 = .ok (.iload_n 2, 1) := by decide +kernel
theorem dX2_longestCycle_13 : decode cX2_longestCycle 13 = .ok (.invokestatic 25, 3) := by decide +kernel
theorem dX2_longestCycle_16 : decode cX2_longestCycle 16 = .ok (.invokestatic 41, 3) := by decide +kernel
theorem dX2_longestCycle_19 : decode cX2_longestCycle 19 = .ok (.istore_n 1, 1) := by decide +kernel
theorem dX2_longestCycle_20 : decode cX2_longestCycle 20 = .ok (.iinc 2 1, 3) := by decide +kernel
theorem dX2_longestCycle_23 : decode cX2_longestCycle 23 = .ok (.goto (-19), 3) := by decide +kernel
theorem dX2_longestCycle_26 : decode cX2_longestCycle 26 = .ok (.iload_n 1, 1) := by decide +kernel
theorem dX2_longestCycle_27 : decode cX2_longestCycle 27 = .ok (.ireturn, 1) := by decide +kernel
theorem dX2_difference_0 : decode cX2_difference 0 = .ok (.iconst 0, 1) := by decide +kernel
theorem dX2_difference_1 : decode cX2_difference 1 = .ok (.istore_n 2, 1) := by decide +kernel
theorem dX2_difference_2 : decode cX2_difference 2 = .ok (.iconst 0, 1) := by decide +kernel
theorem dX2_difference_3 : decode cX2_difference 3 = .ok (.istore_n 3, 1) := by decide +kernel
theorem dX2_difference_4 : decode cX2_difference 4 = .ok (.iload_n 3, 1) := by decide +kernel
theorem dX2_difference_5 : decode cX2_difference 5 = .ok (.bipush 16, 2) := by decide +kernel
theorem dX2_difference_7 : decode cX2_difference 7 = .ok (.if_icmp .ge 24, 3) := by decide +kernel
theorem dX2_difference_10 : decode cX2_difference 10 = .ok (.aload_n 0, 1) := by decide +kernel
theorem dX2_difference_11 : decode cX2_difference 11 = .ok (.iload_n 3, 1) := by decide +kernel
theorem dX2_difference_12 : decode cX2_difference 12 = .ok (.iaload, 1) := by decide +kernel
theorem dX2_difference_13 : decode cX2_difference 13 = .ok (.aload_n 1, 1) := by decide +kernel
theorem dX2_difference_14 : decode cX2_difference 14 = .ok (.iload_n 3, 1) := by decide +kernel
theorem dX2_difference_15 : decode cX2_difference 15 = .ok (.iaload, 1) := by decide +kernel
theorem dX2_difference_16 : decode cX2_difference 16 = .ok (.if_icmp .eq 9, 3) := by decide +kernel
theorem dX2_difference_19 : decode cX2_difference 19 = .ok (.iload_n 2, 1) := by decide +kernel
theorem dX2_difference_20 : decode cX2_difference 20 = .ok (.iconst 1, 1) := by decide +kernel
theorem dX2_difference_21 : decode cX2_difference 21 = .ok (.iload_n 3, 1) := by decide +kernel
theorem dX2_difference_22 : decode cX2_difference 22 = .ok (.ishl, 1) := by decide +kernel
theorem dX2_difference_23 : decode cX2_difference 23 = .ok (.ior, 1) := by decide +kernel
theorem dX2_difference_24 : decode cX2_difference 24 = .ok (.istore_n 2, 1) := by decide +kernel
theorem dX2_difference_25 : decode cX2_difference 25 = .ok (.iinc 3 1, 3) := by decide +kernel
theorem dX2_difference_28 : decode cX2_difference 28 = .ok (.goto (-24), 3) := by decide +kernel
theorem dX2_difference_31 : decode cX2_difference 31 = .ok (.iload_n 2, 1) := by decide +kernel
theorem dX2_difference_32 : decode cX2_difference 32 = .ok (.ireturn, 1) := by decide +kernel
theorem dX2_overlay_0 : decode cX2_overlay 0 = .ok (.iconst 0, 1) := by decide +kernel
theorem dX2_overlay_1 : decode cX2_overlay 1 = .ok (.istore_n 2, 1) := by decide +kernel
theorem dX2_overlay_2 : decode cX2_overlay 2 = .ok (.iload_n 2, 1) := by decide +kernel
theorem dX2_overlay_3 : decode cX2_overlay 3 = .ok (.bipush 16, 2) := by decide +kernel
theorem dX2_overlay_5 : decode cX2_overlay 5 = .ok (.if_icmp .ge 23, 3) := by decide +kernel
theorem dX2_overlay_8 : decode cX2_overlay 8 = .ok (.aload_n 0, 1) := by decide +kernel
theorem dX2_overlay_9 : decode cX2_overlay 9 = .ok (.iload_n 2, 1) := by decide +kernel
theorem dX2_overlay_10 : decode cX2_overlay 10 = .ok (.iaload, 1) := by decide +kernel
theorem dX2_overlay_11 : decode cX2_overlay 11 = .ok (.bipush 16, 2) := by decide +kernel
theorem dX2_overlay_13 : decode cX2_overlay 13 = .ok (.if_icmp .ne 9, 3) := by decide +kernel
theorem dX2_overlay_16 : decode cX2_overlay 16 = .ok (.aload_n 0, 1) := by decide +kernel
theorem dX2_overlay_17 : decode cX2_overlay 17 = .ok (.iload_n 2, 1) := by decide +kernel
theorem dX2_overlay_18 : decode cX2_overlay 18 = .ok (.aload_n 1, 1) := by decide +kernel
theorem dX2_overlay_19 : decode cX2_overlay 19 = .ok (.iload_n 2, 1) := by decide +kernel
theorem dX2_overlay_20 : decode cX2_overlay 20 = .ok (.iaload, 1) := by decide +kernel
theorem dX2_overlay_21 : decode cX2_overlay 21 = .ok (.iastore, 1) := by decide +kernel
theorem dX2_overlay_22 : decode cX2_overlay 22 = .ok (.iinc 2 1, 3) := by decide +kernel
theorem dX2_overlay_25 : decode cX2_overlay 25 = .ok (.goto (-23), 3) := by decide +kernel
theorem dX2_overlay_28 : decode cX2_overlay 28 = .ok (.return_, 1) := by decide +kernel
theorem dX2_compose_0 : decode cX2_compose 0 = .ok (.iconst 0, 1) := by decide +kernel
theorem dX2_compose_1 : decode cX2_compose 1 = .ok (.istore_n 2, 1) := by decide +kernel
theorem dX2_compose_2 : decode cX2_compose 2 = .ok (.iload_n 2, 1) := by decide +kernel
theorem dX2_compose_3 : decode cX2_compose 3 = .ok (.bipush 16, 2) := by decide +kernel
theorem dX2_compose_5 : decode cX2_compose 5 = .ok (.if_icmp .ge 19, 3) := by decide +kernel
theorem dX2_compose_8 : decode cX2_compose 8 = .ok (.aload_n 0, 1) := by decide +kernel
theorem dX2_compose_9 : decode cX2_compose 9 = .ok (.iload_n 2, 1) := by decide +kernel
theorem dX2_compose_10 : decode cX2_compose 10 = .ok (.aload_n 1, 1) := by decide +kernel
theorem dX2_compose_11 : decode cX2_compose 11 = .ok (.aload_n 0, 1) := by decide +kernel
theorem dX2_compose_12 : decode cX2_compose 12 = .ok (.iload_n 2, 1) := by decide +kernel
theorem dX2_compose_13 : decode cX2_compose 13 = .ok (.iaload, 1) := by decide +kernel
theorem dX2_compose_14 : decode cX2_compose 14 = .ok (.invokestatic 15, 3) := by decide +kernel
theorem dX2_compose_17 : decode cX2_compose 17 = .ok (.iastore, 1) := by decide +kernel
theorem dX2_compose_18 : decode cX2_compose 18 = .ok (.iinc 2 1, 3) := by decide +kernel
theorem dX2_compose_21 : decode cX2_compose 21 = .ok (.goto (-19), 3) := by decide +kernel
theorem dX2_compose_24 : decode cX2_compose 24 = .ok (.return_, 1) := by decide +kernel
theorem dX2_restrict_0 : decode cX2_restrict 0 = .ok (.iconst 0, 1) := by decide +kernel
theorem dX2_restrict_1 : decode cX2_restrict 1 = .ok (.istore_n 2, 1) := by decide +kernel
theorem dX2_restrict_2 : decode cX2_restrict 2 = .ok (.iload_n 2, 1) := by decide +kernel
theorem dX2_restrict_3 : decode cX2_restrict 3 = .ok (.bipush 16, 2) := by decide +kernel
theorem dX2_restrict_5 : decode cX2_restrict 5 = .ok (.if_icmp .ge 22, 3) := by decide +kernel
theorem dX2_restrict_8 : decode cX2_restrict 8 = .ok (.iload_n 1, 1) := by decide +kernel
theorem dX2_restrict_9 : decode cX2_restrict 9 = .ok (.iload_n 2, 1) := by decide +kernel
theorem dX2_restrict_10 : decode cX2_restrict 10 = .ok (.ishr, 1) := by decide +kernel
theorem dX2_restrict_11 : decode cX2_restrict 11 = .ok (.iconst 1, 1) := by decide +kernel
theorem dX2_restrict_12 : decode cX2_restrict 12 = .ok (.iand, 1) := by decide +kernel
theorem dX2_restrict_13 : decode cX2_restrict 13 = .ok (.ifCond .ne 8, 3) := by decide +kernel
theorem dX2_restrict_16 : decode cX2_restrict 16 = .ok (.aload_n 0, 1) := by decide +kernel
theorem dX2_restrict_17 : decode cX2_restrict 17 = .ok (.iload_n 2, 1) := by decide +kernel
theorem dX2_restrict_18 : decode cX2_restrict 18 = .ok (.bipush 16, 2) := by decide +kernel
theorem dX2_restrict_20 : decode cX2_restrict 20 = .ok (.iastore, 1) := by decide +kernel
theorem dX2_restrict_21 : decode cX2_restrict 21 = .ok (.iinc 2 1, 3) := by decide +kernel
theorem dX2_restrict_24 : decode cX2_restrict 24 = .ok (.goto (-22), 3) := by decide +kernel
theorem dX2_restrict_27 : decode cX2_restrict 27 = .ok (.return_, 1) := by decide +kernel
theorem dX2_power_0 : decode cX2_power 0 = .ok (.iconst 0, 1) := by decide +kernel
theorem dX2_power_1 : decode cX2_power 1 = .ok (.istore_n 3, 1) := by decide +kernel
theorem dX2_power_2 : decode cX2_power 2 = .ok (.iload_n 3, 1) := by decide +kernel
theorem dX2_power_3 : decode cX2_power 3 = .ok (.bipush 16, 2) := by decide +kernel
theorem dX2_power_5 : decode cX2_power 5 = .ok (.if_icmp .ge 18, 3) := by decide +kernel
theorem dX2_power_8 : decode cX2_power 8 = .ok (.aload_n 2, 1) := by decide +kernel
theorem dX2_power_9 : decode cX2_power 9 = .ok (.iload_n 3, 1) := by decide +kernel
theorem dX2_power_10 : decode cX2_power 10 = .ok (.aload_n 0, 1) := by decide +kernel
theorem dX2_power_11 : decode cX2_power 11 = .ok (.iload_n 3, 1) := by decide +kernel
theorem dX2_power_12 : decode cX2_power 12 = .ok (.iload_n 1, 1) := by decide +kernel
theorem dX2_power_13 : decode cX2_power 13 = .ok (.invokestatic 21, 3) := by decide +kernel
theorem dX2_power_16 : decode cX2_power 16 = .ok (.iastore, 1) := by decide +kernel
theorem dX2_power_17 : decode cX2_power 17 = .ok (.iinc 3 1, 3) := by decide +kernel
theorem dX2_power_20 : decode cX2_power 20 = .ok (.goto (-18), 3) := by decide +kernel
theorem dX2_power_23 : decode cX2_power 23 = .ok (.return_, 1) := by decide +kernel
theorem dX2_inverse_0 : decode cX2_inverse 0 = .ok (.aload_n 2, 1) := by decide +kernel
theorem dX2_inverse_1 : decode cX2_inverse 1 = .ok (.bipush 16, 2) := by decide +kernel
theorem dX2_inverse_3 : decode cX2_inverse 3 = .ok (.invokestatic 47, 3) := by decide +kernel
theorem dX2_inverse_6 : decode cX2_inverse 6 = .ok (.iconst 0, 1) := by decide +kernel
theorem dX2_inverse_7 : decode cX2_inverse 7 = .ok (.istore_n 3, 1) := by decide +kernel
theorem dX2_inverse_8 : decode cX2_inverse 8 = .ok (.iconst 0, 1) := by decide +kernel
theorem dX2_inverse_9 : decode cX2_inverse 9 = .ok (.istore 4, 2) := by decide +kernel
theorem dX2_inverse_11 : decode cX2_inverse 11 = .ok (.iload 4, 2) := by decide +kernel
theorem dX2_inverse_13 : decode cX2_inverse 13 = .ok (.bipush 16, 2) := by decide +kernel
theorem dX2_inverse_15 : decode cX2_inverse 15 = .ok (.if_icmp .ge 79, 3) := by decide +kernel
theorem dX2_inverse_18 : decode cX2_inverse 18 = .ok (.aload_n 0, 1) := by decide +kernel
theorem dX2_inverse_19 : decode cX2_inverse 19 = .ok (.iload 4, 2) := by decide +kernel
theorem dX2_inverse_21 : decode cX2_inverse 21 = .ok (.iaload, 1) := by decide +kernel
theorem dX2_inverse_22 : decode cX2_inverse 22 = .ok (.istore 5, 2) := by decide +kernel
theorem dX2_inverse_24 : decode cX2_inverse 24 = .ok (.iload 5, 2) := by decide +kernel
theorem dX2_inverse_26 : decode cX2_inverse 26 = .ok (.invokestatic 53, 3) := by decide +kernel
theorem dX2_inverse_29 : decode cX2_inverse 29 = .ok (.ifCond .ne 6, 3) := by decide +kernel
theorem dX2_inverse_32 : decode cX2_inverse 32 = .ok (.goto 56, 3) := by decide +kernel
theorem dX2_inverse_35 : decode cX2_inverse 35 = .ok (.iload_n 3, 1) := by decide +kernel
theorem dX2_inverse_36 : decode cX2_inverse 36 = .ok (.iload 5, 2) := by decide +kernel
theorem dX2_inverse_38 : decode cX2_inverse 38 = .ok (.ishr, 1) := by decide +kernel
theorem dX2_inverse_39 : decode cX2_inverse 39 = .ok (.iconst 1, 1) := by decide +kernel
theorem dX2_inverse_40 : decode cX2_inverse 40 = .ok (.iand, 1) := by decide +kernel
theorem dX2_inverse_41 : decode cX2_inverse 41 = .ok (.ifCond .ne 7, 3) := by decide +kernel
theorem dX2_inverse_44 : decode cX2_inverse 44 = .ok (.iconst 1, 1) := by decide +kernel
theorem dX2_inverse_45 : decode cX2_inverse 45 = .ok (.goto 4, 3) := by decide +kernel
theorem dX2_inverse_48 : decode cX2_inverse 48 = .ok (.iconst 0, 1) := by decide +kernel
theorem dX2_inverse_49 : decode cX2_inverse 49 = .ok (.istore 6, 2) := by decide +kernel
theorem dX2_inverse_51 : decode cX2_inverse 51 = .ok (.iload 6, 2) := by decide +kernel
theorem dX2_inverse_53 : decode cX2_inverse 53 = .ok (.ifCond .ne 8, 3) := by decide +kernel
theorem dX2_inverse_56 : decode cX2_inverse 56 = .ok (.iload_n 1, 1) := by decide +kernel
theorem dX2_inverse_57 : decode cX2_inverse 57 = .ok (.iconst 2, 1) := by decide +kernel
theorem dX2_inverse_58 : decode cX2_inverse 58 = .ok (.if_icmp .ne 12, 3) := by decide +kernel
theorem dX2_inverse_61 : decode cX2_inverse 61 = .ok (.aload_n 2, 1) := by decide +kernel
theorem dX2_inverse_62 : decode cX2_inverse 62 = .ok (.iload 5, 2) := by decide +kernel
theorem dX2_inverse_64 : decode cX2_inverse 64 = .ok (.iload 4, 2) := by decide +kernel
theorem dX2_inverse_66 : decode cX2_inverse 66 = .ok (.iastore, 1) := by decide +kernel
theorem dX2_inverse_67 : decode cX2_inverse 67 = .ok (.goto 14, 3) := by decide +kernel
theorem dX2_inverse_70 : decode cX2_inverse 70 = .ok (.iload_n 1, 1) := by decide +kernel
theorem dX2_inverse_71 : decode cX2_inverse 71 = .ok (.iconst 1, 1) := by decide +kernel
theorem dX2_inverse_72 : decode cX2_inverse 72 = .ok (.if_icmp .eq 9, 3) := by decide +kernel
theorem dX2_inverse_75 : decode cX2_inverse 75 = .ok (.aload_n 2, 1) := by decide +kernel
theorem dX2_inverse_76 : decode cX2_inverse 76 = .ok (.iload 5, 2) := by decide +kernel
theorem dX2_inverse_78 : decode cX2_inverse 78 = .ok (.bipush 16, 2) := by decide +kernel
theorem dX2_inverse_80 : decode cX2_inverse 80 = .ok (.iastore, 1) := by decide +kernel
theorem dX2_inverse_81 : decode cX2_inverse 81 = .ok (.iload_n 3, 1) := by decide +kernel
theorem dX2_inverse_82 : decode cX2_inverse 82 = .ok (.iconst 1, 1) := by decide +kernel
theorem dX2_inverse_83 : decode cX2_inverse 83 = .ok (.iload 5, 2) := by decide +kernel
theorem dX2_inverse_85 : decode cX2_inverse 85 = .ok (.ishl, 1) := by decide +kernel
theorem dX2_inverse_86 : decode cX2_inverse 86 = .ok (.ior, 1) := by decide +kernel
theorem dX2_inverse_87 : decode cX2_inverse 87 = .ok (.istore_n 3, 1) := by decide +kernel
theorem dX2_inverse_88 : decode cX2_inverse 88 = .ok (.iinc 4 1, 3) := by decide +kernel
theorem dX2_inverse_91 : decode cX2_inverse 91 = .ok (.goto (-80), 3) := by decide +kernel
theorem dX2_inverse_94 : decode cX2_inverse 94 = .ok (.return_, 1) := by decide +kernel
theorem dX3_init_0 : decode cX3_init 0 = .ok (.aload_n 0, 1) := by decide +kernel
theorem dX3_init_1 : decode cX3_init 1 = .ok (.invokespecial 3, 3) := by decide +kernel
theorem dX3_init_4 : decode cX3_init 4 = .ok (.aload_n 0, 1) := by decide +kernel
theorem dX3_init_5 : decode cX3_init 5 = .ok (.bipush 6, 2) := by decide +kernel
theorem dX3_init_7 : decode cX3_init 7 = .ok (.bipush 16, 2) := by decide +kernel
theorem dX3_init_9 : decode cX3_init 9 = .ok (.multianewarray 9 2, 4) := by decide +kernel
theorem dX3_init_13 : decode cX3_init 13 = .ok (.putfield 11, 3) := by decide +kernel
theorem dX3_init_16 : decode cX3_init 16 = .ok (.aload_n 0, 1) := by decide +kernel
theorem dX3_init_17 : decode cX3_init 17 = .ok (.iconst (-1), 1) := by decide +kernel
theorem dX3_init_18 : decode cX3_init 18 = .ok (.putfield 16, 3) := by decide +kernel
theorem dX3_init_21 : decode cX3_init 21 = .ok (.aload_n 0, 1) := by decide +kernel
theorem dX3_init_22 : decode cX3_init 22 = .ok (.iconst 0, 1) := by decide +kernel
theorem dX3_init_23 : decode cX3_init 23 = .ok (.putfield 20, 3) := by decide +kernel
theorem dX3_init_26 : decode cX3_init 26 = .ok (.aload_n 0, 1) := by decide +kernel
theorem dX3_init_27 : decode cX3_init 27 = .ok (.iconst 0, 1) := by decide +kernel
theorem dX3_init_28 : decode cX3_init 28 = .ok (.putfield 23, 3) := by decide +kernel
theorem dX3_init_31 : decode cX3_init 31 = .ok (.return_, 1) := by decide +kernel
theorem dX3_copyFrom_0 : decode cX3_copyFrom 0 = .ok (.iconst 0, 1) := by decide +kernel
theorem dX3_copyFrom_1 : decode cX3_copyFrom 1 = .ok (.istore_n 2, 1) := by decide +kernel
theorem dX3_copyFrom_2 : decode cX3_copyFrom 2 = .ok (.iload_n 2, 1) := by decide +kernel
theorem dX3_copyFrom_3 : decode cX3_copyFrom 3 = .ok (.bipush 6, 2) := by decide +kernel
theorem dX3_copyFrom_5 : decode cX3_copyFrom 5 = .ok (.if_icmp .ge 24, 3) := by decide +kernel
theorem dX3_copyFrom_8 : decode cX3_copyFrom 8 = .ok (.aload_n 1, 1) := by decide +kernel
theorem dX3_copyFrom_9 : decode cX3_copyFrom 9 = .ok (.getfield 11, 3) := by decide +kernel
theorem dX3_copyFrom_12 : decode cX3_copyFrom 12 = .ok (.iload_n 2, 1) := by decide +kernel
theorem dX3_copyFrom_13 : decode cX3_copyFrom 13 = .ok (.aaload, 1) := by decide +kernel
theorem dX3_copyFrom_14 : decode cX3_copyFrom 14 = .ok (.aload_n 0, 1) := by decide +kernel
theorem dX3_copyFrom_15 : decode cX3_copyFrom 15 = .ok (.getfield 11, 3) := by decide +kernel
theorem dX3_copyFrom_18 : decode cX3_copyFrom 18 = .ok (.iload_n 2, 1) := by decide +kernel
theorem dX3_copyFrom_19 : decode cX3_copyFrom 19 = .ok (.aaload, 1) := by decide +kernel
theorem dX3_copyFrom_20 : decode cX3_copyFrom 20 = .ok (.invokestatic 26, 3) := by decide +kernel
theorem dX3_copyFrom_23 : decode cX3_copyFrom 23 = .ok (.iinc 2 1, 3) := by decide +kernel
theorem dX3_copyFrom_26 : decode cX3_copyFrom 26 = .ok (.goto (-24), 3) := by decide +kernel
theorem dX3_copyFrom_29 : decode cX3_copyFrom 29 = .ok (.aload_n 0, 1) := by decide +kernel
theorem dX3_copyFrom_30 : decode cX3_copyFrom 30 = .ok (.aload_n 1, 1) := by decide +kernel
theorem dX3_copyFrom_31 : decode cX3_copyFrom 31 = .ok (.getfield 16, 3) := by decide +kernel
theorem dX3_copyFrom_34 : decode cX3_copyFrom 34 = .ok (.putfield 16, 3) := by decide +kernel
theorem dX3_copyFrom_37 : decode cX3_copyFrom 37 = .ok (.aload_n 0, 1) := by decide +kernel
theorem dX3_copyFrom_38 : decode cX3_copyFrom 38 = .ok (.aload_n 1, 1) := by decide +kernel
theorem dX3_copyFrom_39 : decode cX3_copyFrom 39 = .ok (.getfield 20, 3) := by decide +kernel
theorem dX3_copyFrom_42 : decode cX3_copyFrom 42 = .ok (.putfield 20, 3) := by decide +kernel
theorem dX3_copyFrom_45 : decode cX3_copyFrom 45 = .ok (.aload_n 0, 1) := by decide +kernel
theorem dX3_copyFrom_46 : decode cX3_copyFrom 46 = .ok (.aload_n 1, 1) := by decide +kernel
theorem dX3_copyFrom_47 : decode cX3_copyFrom 47 = .ok (.getfield 23, 3) := by decide +kernel
theorem dX3_copyFrom_50 : decode cX3_copyFrom 50 = .ok (.putfield 23, 3) := by decide +kernel
theorem dX3_copyFrom_53 : decode cX3_copyFrom 53 = .ok (.return_, 1) := by decide +kernel
theorem dX3_start_0 : decode cX3_start 0 = .ok (.iconst 0, 1) := by decide +kernel
theorem dX3_start_1 : decode cX3_start 1 = .ok (.istore 4, 2) := by decide +kernel
theorem dX3_start_3 : decode cX3_start 3 = .ok (.iload 4, 2) := by decide +kernel
theorem dX3_start_5 : decode cX3_start 5 = .ok (.bipush 6, 2) := by decide +kernel
theorem dX3_start_7 : decode cX3_start 7 = .ok (.if_icmp .ge 33, 3) := by decide +kernel
theorem dX3_start_10 : decode cX3_start 10 = .ok (.iload 4, 2) := by decide +kernel
theorem dX3_start_12 : decode cX3_start 12 = .ok (.aload_n 3, 1) := by decide +kernel
theorem dX3_start_13 : decode cX3_start 13 = .ok (.arraylength, 1) := by decide +kernel
theorem dX3_start_14 : decode cX3_start 14 = .ok (.if_icmp .ge 26, 3) := by decide +kernel
theorem dX3_start_17 : decode cX3_start 17 = .ok (.aload_n 3, 1) := by decide +kernel
theorem dX3_start_18 : decode cX3_start 18 = .ok (.iload 4, 2) := by decide +kernel
theorem dX3_start_20 : decode cX3_start 20 = .ok (.aaload, 1) := by decide +kernel
theorem dX3_start_21 : decode cX3_start 21 = .ok (.getfield 32, 3) := by decide +kernel
theorem dX3_start_24 : decode cX3_start 24 = .ok (.aload_n 0, 1) := by decide +kernel
theorem dX3_start_25 : decode cX3_start 25 = .ok (.getfield 11, 3) := by decide +kernel
theorem dX3_start_28 : decode cX3_start 28 = .ok (.iload 4, 2) := by decide +kernel
theorem dX3_start_30 : decode cX3_start 30 = .ok (.aaload, 1) := by decide +kernel
theorem dX3_start_31 : decode cX3_start 31 = .ok (.invokestatic 26, 3) := by decide +kernel
theorem dX3_start_34 : decode cX3_start 34 = .ok (.iinc 4 1, 3) := by decide +kernel
theorem dX3_start_37 : decode cX3_start 37 = .ok (.goto (-34), 3) := by decide +kernel
theorem dX3_start_40 : decode cX3_start 40 = .ok (.aload_n 0, 1) := by decide +kernel
theorem dX3_start_41 : decode cX3_start 41 = .ok (.iload_n 1, 1) := by decide +kernel
theorem dX3_start_42 : decode cX3_start 42 = .ok (.putfield 16, 3) := by decide +kernel
theorem dX3_start_45 : decode cX3_start 45 = .ok (.aload_n 0, 1) := by decide +kernel
theorem dX3_start_46 : decode cX3_start 46 = .ok (.iload_n 2, 1) := by decide +kernel
theorem dX3_start_47 : decode cX3_start 47 = .ok (.putfield 20, 3) := by decide +kernel
theorem dX3_start_50 : decode cX3_start 50 = .ok (.aload_n 0, 1) := by decide +kernel
theorem dX3_start_51 : decode cX3_start 51 = .ok (.iconst 0, 1) := by decide +kernel
theorem dX3_start_52 : decode cX3_start 52 = .ok (.putfield 23, 3) := by decide +kernel
theorem dX3_start_55 : decode cX3_start 55 = .ok (.return_, 1) := by decide +kernel
theorem dX3_isRunning_0 : decode cX3_isRunning 0 = .ok (.aload_n 0, 1) := by decide +kernel
theorem dX3_isRunning_1 : decode cX3_isRunning 1 = .ok (.getfield 16, 3) := by decide +kernel
theorem dX3_isRunning_4 : decode cX3_isRunning 4 = .ok (.invokestatic 38, 3) := by decide +kernel
theorem dX3_isRunning_7 : decode cX3_isRunning 7 = .ok (.ireturn, 1) := by decide +kernel
theorem dX3_isSuspect_0 : decode cX3_isSuspect 0 = .ok (.aload_n 0, 1) := by decide +kernel
theorem dX3_isSuspect_1 : decode cX3_isSuspect 1 = .ok (.getfield 20, 3) := by decide +kernel
theorem dX3_isSuspect_4 : decode cX3_isSuspect 4 = .ok (.iload_n 1, 1) := by decide +kernel
theorem dX3_isSuspect_5 : decode cX3_isSuspect 5 = .ok (.ishr, 1) := by decide +kernel
theorem dX3_isSuspect_6 : decode cX3_isSuspect 6 = .ok (.iconst 1, 1) := by decide +kernel
theorem dX3_isSuspect_7 : decode cX3_isSuspect 7 = .ok (.iand, 1) := by decide +kernel
theorem dX3_isSuspect_8 : decode cX3_isSuspect 8 = .ok (.iconst 1, 1) := by decide +kernel
theorem dX3_isSuspect_9 : decode cX3_isSuspect 9 = .ok (.if_icmp .ne 7, 3) := by decide +kernel
theorem dX3_isSuspect_12 : decode cX3_isSuspect 12 = .ok (.iconst 1, 1) := by decide +kernel
theorem dX3_isSuspect_13 : decode cX3_isSuspect 13 = .ok (.goto 4, 3) := by decide +kernel
theorem dX3_isSuspect_16 : decode cX3_isSuspect 16 = .ok (.iconst 0, 1) := by decide +kernel
theorem dX3_isSuspect_17 : decode cX3_isSuspect 17 = .ok (.ireturn, 1) := by decide +kernel
theorem dX3_answer_0 : decode cX3_answer 0 = .ok (.aload_n 0, 1) := by decide +kernel
theorem dX3_answer_1 : decode cX3_answer 1 = .ok (.invokevirtual 42, 3) := by decide +kernel
theorem dX3_answer_4 : decode cX3_answer 4 = .ok (.ifCond .ne 6, 3) := by decide +kernel
theorem dX3_answer_7 : decode cX3_answer 7 = .ok (.bipush 16, 2) := by decide +kernel
theorem dX3_answer_9 : decode cX3_answer 9 = .ok (.ireturn, 1) := by decide +kernel
theorem dX3_answer_10 : decode cX3_answer 10 = .ok (.aload_n 0, 1) := by decide +kernel
theorem dX3_answer_11 : decode cX3_answer 11 = .ok (.getfield 11, 3) := by decide +kernel
theorem dX3_answer_14 : decode cX3_answer 14 = .ok (.aload_n 0, 1) := by decide +kernel
theorem dX3_answer_15 : decode cX3_answer 15 = .ok (.getfield 16, 3) := by decide +kernel
theorem dX3_answer_18 : decode cX3_answer 18 = .ok (.aaload, 1) := by decide +kernel
theorem dX3_answer_19 : decode cX3_answer 19 = .ok (.iload_n 1, 1) := by decide +kernel
theorem dX3_answer_20 : decode cX3_answer 20 = .ok (.iaload, 1) := by decide +kernel
theorem dX3_answer_21 : decode cX3_answer 21 = .ok (.istore_n 2, 1) := by decide +kernel
theorem dX3_answer_22 : decode cX3_answer 22 = .ok (.iconst 0, 1) := by decide +kernel
theorem dX3_answer_23 : decode cX3_answer 23 = .ok (.istore_n 3, 1) := by decide +kernel
theorem dX3_answer_24 : decode cX3_answer 24 = .ok (.iload_n 3, 1) := by decide +kernel
theorem dX3_answer_25 : decode cX3_answer 25 = .ok (.bipush 6, 2) := by decide +kernel
theorem dX3_answer_27 : decode cX3_answer 27 = .ok (.if_icmp .ge 35, 3) := by decide +kernel
theorem dX3_answer_30 : decode cX3_answer 30 = .ok (.aload_n 0, 1) := by decide +kernel
theorem dX3_answer_31 : decode cX3_answer 31 = .ok (.getfield 11, 3) := by decide +kernel
theorem dX3_answer_34 : decode cX3_answer 34 = .ok (.iload_n 3, 1) := by decide +kernel
theorem dX3_answer_35 : decode cX3_answer 35 = .ok (.aaload, 1) := by decide +kernel
theorem dX3_answer_36 : decode cX3_answer 36 = .ok (.iload_n 1, 1) := by decide +kernel
theorem dX3_answer_37 : decode cX3_answer 37 = .ok (.iaload, 1) := by decide +kernel
theorem dX3_answer_38 : decode cX3_answer 38 = .ok (.iload_n 2, 1) := by decide +kernel
theorem dX3_answer_39 : decode cX3_answer 39 = .ok (.if_icmp .eq 17, 3) := by decide +kernel
theorem dX3_answer_42 : decode cX3_answer 42 = .ok (.aload_n 0, 1) := by decide +kernel
theorem dX3_answer_43 : decode cX3_answer 43 = .ok (.dup, 1) := by decide +kernel
theorem dX3_answer_44 : decode cX3_answer 44 = .ok (.getfield 20, 3) := by decide +kernel
theorem dX3_answer_47 : decode cX3_answer 47 = .ok (.iconst 1, 1) := by decide +kernel
theorem dX3_answer_48 : decode cX3_answer 48 = .ok (.iload_n 3, 1) := by decide +kernel
theorem dX3_answer_49 : decode cX3_answer 49 = .ok (.ishl, 1) := by decide +kernel
theorem dX3_answer_50 : decode cX3_answer 50 = .ok (.iconst (-1), 1) := by decide +kernel
theorem dX3_answer_51 : decode cX3_answer 51 = .ok (.ixor, 1) := by decide +kernel
theorem dX3_answer_52 : decode cX3_answer 52 = .ok (.iand, 1) := by decide +kernel
theorem dX3_answer_53 : decode cX3_answer 53 = .ok (.putfield 20, 3) := by decide +kernel
theorem dX3_answer_56 : decode cX3_answer 56 = .ok (.iinc 3 1, 3) := by decide +kernel
theorem dX3_answer_59 : decode cX3_answer 59 = .ok (.goto (-35), 3) := by decide +kernel
theorem dX3_answer_62 : decode cX3_answer 62 = .ok (.aload_n 0, 1) := by decide +kernel
theorem dX3_answer_63 : decode cX3_answer 63 = .ok (.dup, 1) := by decide +kernel
theorem dX3_answer_64 : decode cX3_answer 64 = .ok (.getfield 23, 3) := by decide +kernel
theorem dX3_answer_67 : decode cX3_answer 67 = .ok (.iconst 1, 1) := by decide +kernel
theorem dX3_answer_68 : decode cX3_answer 68 = .ok (.iadd, 1) := by decide +kernel
theorem dX3_answer_69 : decode cX3_answer 69 = .ok (.putfield 23, 3) := by decide +kernel
theorem dX3_answer_72 : decode cX3_answer 72 = .ok (.iload_n 2, 1) := by decide +kernel
theorem dX3_answer_73 : decode cX3_answer 73 = .ok (.ireturn, 1) := by decide +kernel
theorem dX3_isFound_0 : decode cX3_isFound 0 = .ok (.aload_n 0, 1) := by decide +kernel
theorem dX3_isFound_1 : decode cX3_isFound 1 = .ok (.invokevirtual 42, 3) := by decide +kernel
theorem dX3_isFound_4 : decode cX3_isFound 4 = .ok (.ifCond .ne 5, 3) := by decide +kernel
theorem dX3_isFound_7 : decode cX3_isFound 7 = .ok (.iconst 0, 1) := by decide +kernel
theorem dX3_isFound_8 : decode cX3_isFound 8 = .ok (.ireturn, 1) := by decide +kernel
theorem dX3_isFound_9 : decode cX3_isFound 9 = .ok (.iconst 0, 1) := by decide +kernel
theorem dX3_isFound_10 : decode cX3_isFound 10 = .ok (.istore_n 1, 1) := by decide +kernel
theorem dX3_isFound_11 : decode cX3_isFound 11 = .ok (.iload_n 1, 1) := by decide +kernel
theorem dX3_isFound_12 : decode cX3_isFound 12 = .ok (.bipush 6, 2) := by decide +kernel
theorem dX3_isFound_14 : decode cX3_isFound 14 = .ok (.if_icmp .ge 40, 3) := by decide +kernel
theorem dX3_isFound_17 : decode cX3_isFound 17 = .ok (.aload_n 0, 1) := by decide +kernel
theorem dX3_isFound_18 : decode cX3_isFound 18 = .ok (.iload_n 1, 1) := by decide +kernel
theorem dX3_isFound_19 : decode cX3_isFound 19 = .ok (.invokevirtual 46, 3) := by decide +kernel
theorem dX3_isFound_22 : decode cX3_isFound 22 = .ok (.ifCond .eq 26, 3) := by decide +kernel
theorem dX3_isFound_25 : decode cX3_isFound 25 = .ok (.aload_n 0, 1) := by decide +kernel
theorem dX3_isFound_26 : decode cX3_isFound 26 = .ok (.getfield 11, 3) := by decide +kernel
theorem dX3_isFound_29 : decode cX3_isFound 29 = .ok (.iload_n 1, 1) := by decide +kernel
theorem dX3_isFound_30 : decode cX3_isFound 30 = .ok (.aaload, 1) := by decide +kernel
theorem dX3_isFound_31 : decode cX3_isFound 31 = .ok (.aload_n 0, 1) := by decide +kernel
theorem dX3_isFound_32 : decode cX3_isFound 32 = .ok (.getfield 11, 3) := by decide +kernel
theorem dX3_isFound_35 : decode cX3_isFound 35 = .ok (.aload_n 0, 1) := by decide +kernel
theorem dX3_isFound_36 : decode cX3_isFound 36 = .ok (.getfield 16, 3) := by decide +kernel
theorem dX3_isFound_39 : decode cX3_isFound 39 = .ok (.aaload, 1) := by decide +kernel
theorem dX3_isFound_40 : decode cX3_isFound 40 = .ok (.invokestatic 49, 3) := by decide +kernel
theorem dX3_isFound_43 : decode cX3_isFound 43 = .ok (.ifCond .eq 5, 3) := by decide +kernel
theorem dX3_isFound_46 : decode cX3_isFound 46 = .ok (.iconst 0, 1) := by decide +kernel
theorem dX3_isFound_47 : decode cX3_isFound 47 = .ok (.ireturn, 1) := by decide +kernel
theorem dX3_isFound_48 : decode cX3_isFound 48 = .ok (.iinc 1 1, 3) := by decide +kernel
theorem dX3_isFound_51 : decode cX3_isFound 51 = .ok (.goto (-40), 3) := by decide +kernel
theorem dX3_isFound_54 : decode cX3_isFound 54 = .ok (.iconst 1, 1) := by decide +kernel
theorem dX3_isFound_55 : decode cX3_isFound 55 = .ok (.ireturn, 1) := by decide +kernel
theorem dX3_alikeUpTo_0 : decode cX3_alikeUpTo 0 = .ok (.iconst 0, 1) := by decide +kernel
theorem dX3_alikeUpTo_1 : decode cX3_alikeUpTo 1 = .ok (.istore 4, 2) := by decide +kernel
theorem dX3_alikeUpTo_3 : decode cX3_alikeUpTo 3 = .ok (.iconst 0, 1) := by decide +kernel
theorem dX3_alikeUpTo_4 : decode cX3_alikeUpTo 4 = .ok (.istore 5, 2) := by decide +kernel
theorem dX3_alikeUpTo_6 : decode cX3_alikeUpTo 6 = .ok (.iload 5, 2) := by decide +kernel
theorem dX3_alikeUpTo_8 : decode cX3_alikeUpTo 8 = .ok (.iload_n 1, 1) := by decide +kernel
theorem dX3_alikeUpTo_9 : decode cX3_alikeUpTo 9 = .ok (.if_icmp .gt 48, 3) := by decide +kernel
theorem dX3_alikeUpTo_12 : decode cX3_alikeUpTo 12 = .ok (.iload 5, 2) := by decide +kernel
theorem dX3_alikeUpTo_14 : decode cX3_alikeUpTo 14 = .ok (.bipush 6, 2) := by decide +kernel
theorem dX3_alikeUpTo_16 : decode cX3_alikeUpTo 16 = .ok (.if_icmp .ge 41, 3) := by decide +kernel
theorem dX3_alikeUpTo_19 : decode cX3_alikeUpTo 19 = .ok (.aload_n 0, 1) := by decide +kernel
theorem dX3_alikeUpTo_20 : decode cX3_alikeUpTo 20 = .ok (.iload 5, 2) := by decide +kernel
theorem dX3_alikeUpTo_22 : decode cX3_alikeUpTo 22 = .ok (.invokevirtual 46, 3) := by decide +kernel
theorem dX3_alikeUpTo_25 : decode cX3_alikeUpTo 25 = .ok (.ifCond .eq 26, 3) := by decide +kernel
theorem dX3_alikeUpTo_28 : decode cX3_alikeUpTo 28 = .ok (.aload_n 0, 1) := by decide +kernel
theorem dX3_alikeUpTo_29 : decode cX3_alikeUpTo 29 = .ok (.getfield 11, 3) := by decide +kernel
theorem dX3_alikeUpTo_32 : decode cX3_alikeUpTo 32 = .ok (.iload 5, 2) := by decide +kernel
theorem dX3_alikeUpTo_34 : decode cX3_alikeUpTo 34 = .ok (.aaload, 1) := by decide +kernel
theorem dX3_alikeUpTo_35 : decode cX3_alikeUpTo 35 = .ok (.iload_n 3, 1) := by decide +kernel
theorem dX3_alikeUpTo_36 : decode cX3_alikeUpTo 36 = .ok (.iaload, 1) := by decide +kernel
theorem dX3_alikeUpTo_37 : decode cX3_alikeUpTo 37 = .ok (.aload_n 0, 1) := by decide +kernel
theorem dX3_alikeUpTo_38 : decode cX3_alikeUpTo 38 = .ok (.getfield 11, 3) := by decide +kernel
theorem dX3_alikeUpTo_41 : decode cX3_alikeUpTo 41 = .ok (.iload_n 2, 1) := by decide +kernel
theorem dX3_alikeUpTo_42 : decode cX3_alikeUpTo 42 = .ok (.aaload, 1) := by decide +kernel
theorem dX3_alikeUpTo_43 : decode cX3_alikeUpTo 43 = .ok (.iload_n 3, 1) := by decide +kernel
theorem dX3_alikeUpTo_44 : decode cX3_alikeUpTo 44 = .ok (.iaload, 1) := by decide +kernel
theorem dX3_alikeUpTo_45 : decode cX3_alikeUpTo 45 = .ok (.if_icmp .ne 6, 3) := by decide +kernel
theorem dX3_alikeUpTo_48 : decode cX3_alikeUpTo 48 = .ok (.iinc 4 1, 3) := by decide +kernel
theorem dX3_alikeUpTo_51 : decode cX3_alikeUpTo 51 = .ok (.iinc 5 1, 3) := by decide +kernel
theorem dX3_alikeUpTo_54 : decode cX3_alikeUpTo 54 = .ok (.goto (-48), 3) := by decide +kernel
theorem dX3_alikeUpTo_57 : decode cX3_alikeUpTo 57 = .ok (.iload 4, 2) := by decide +kernel
theorem dX3_alikeUpTo_59 : decode cX3_alikeUpTo 59 = .ok (.ireturn, 1) := by decide +kernel
theorem dX3_groups_0 : decode cX3_groups 0 = .ok (.iconst 0, 1) := by decide +kernel
theorem dX3_groups_1 : decode cX3_groups 1 = .ok (.istore_n 2, 1) := by decide +kernel
theorem dX3_groups_2 : decode cX3_groups 2 = .ok (.iconst 0, 1) := by decide +kernel
theorem dX3_groups_3 : decode cX3_groups 3 = .ok (.istore_n 3, 1) := by decide +kernel
theorem dX3_groups_4 : decode cX3_groups 4 = .ok (.iload_n 3, 1) := by decide +kernel
theorem dX3_groups_5 : decode cX3_groups 5 = .ok (.bipush 6, 2) := by decide +kernel
theorem dX3_groups_7 : decode cX3_groups 7 = .ok (.if_icmp .ge 31, 3) := by decide +kernel
theorem dX3_groups_10 : decode cX3_groups 10 = .ok (.aload_n 0, 1) := by decide +kernel
theorem dX3_groups_11 : decode cX3_groups 11 = .ok (.iload_n 3, 1) := by decide +kernel
theorem dX3_groups_12 : decode cX3_groups 12 = .ok (.invokevirtual 46, 3) := by decide +kernel
theorem dX3_groups_15 : decode cX3_groups 15 = .ok (.ifCond .eq 17, 3) := by decide +kernel
theorem dX3_groups_18 : decode cX3_groups 18 = .ok (.aload_n 0, 1) := by decide +kernel
theorem dX3_groups_19 : decode cX3_groups 19 = .ok (.iload_n 3, 1) := by decide +kernel
theorem dX3_groups_20 : decode cX3_groups 20 = .ok (.iload_n 3, 1) := by decide +kernel
theorem dX3_groups_21 : decode cX3_groups 21 = .ok (.iload_n 1, 1) := by decide +kernel
theorem dX3_groups_22 : decode cX3_groups 22 = .ok (.invokevirtual 53, 3) := by decide +kernel
theorem dX3_groups_25 : decode cX3_groups 25 = .ok (.iconst 1, 1) := by decide +kernel
theorem dX3_groups_26 : decode cX3_groups 26 = .ok (.if_icmp .ne 6, 3) := by decide +kernel
theorem dX3_groups_29 : decode cX3_groups 29 = .ok (.iinc 2 1, 3) := by decide +kernel
theorem dX3_groups_32 : decode cX3_groups 32 = .ok (.iinc 3 1, 3) := by decide +kernel
theorem dX3_groups_35 : decode cX3_groups 35 = .ok (.goto (-31), 3) := by decide +kernel
theorem dX3_groups_38 : decode cX3_groups 38 = .ok (.iload_n 2, 1) := by decide +kernel
theorem dX3_groups_39 : decode cX3_groups 39 = .ok (.ireturn, 1) := by decide +kernel
theorem dX3_greatestGroup_0 : decode cX3_greatestGroup 0 = .ok (.iconst 0, 1) := by decide +kernel
theorem dX3_greatestGroup_1 : decode cX3_greatestGroup 1 = .ok (.istore_n 2, 1) := by decide +kernel
theorem dX3_greatestGroup_2 : decode cX3_greatestGroup 2 = .ok (.iconst 0, 1) := by decide +kernel
theorem dX3_greatestGroup_3 : decode cX3_greatestGroup 3 = .ok (.istore_n 3, 1) := by decide +kernel
theorem dX3_greatestGroup_4 : decode cX3_greatestGroup 4 = .ok (.iload_n 3, 1) := by decide +kernel
theorem dX3_greatestGroup_5 : decode cX3_greatestGroup 5 = .ok (.bipush 6, 2) := by decide +kernel
theorem dX3_greatestGroup_7 : decode cX3_greatestGroup 7 = .ok (.if_icmp .ge 29, 3) := by decide +kernel
theorem dX3_greatestGroup_10 : decode cX3_greatestGroup 10 = .ok (.aload_n 0, 1) := by decide +kernel
theorem dX3_greatestGroup_11 : decode cX3_greatestGroup 11 = .ok (.iload_n 3, 1) := by decide +kernel
theorem dX3_greatestGroup_12 : decode cX3_greatestGroup 12 = .ok (.invokevirtual 46, 3) := by decide +kernel
theorem dX3_greatestGroup_15 : decode cX3_greatestGroup 15 = .ok (.ifCond .eq 15, 3) := by decide +kernel
theorem dX3_greatestGroup_18 : decode cX3_greatestGroup 18 = .ok (.iload_n 2, 1) := by decide +kernel
theorem dX3_greatestGroup_19 : decode cX3_greatestGroup 19 = .ok (.aload_n 0, 1) := by decide +kernel
theorem dX3_greatestGroup_20 : decode cX3_greatestGroup 20 = .ok (.iconst 5, 1) := by decide +kernel
theorem dX3_greatestGroup_21 : decode cX3_greatestGroup 21 = .ok (.iload_n 3, 1) := by decide +kernel
theorem dX3_greatestGroup_22 : decode cX3_greatestGroup 22 = .ok (.iload_n 1, 1) := by decide +kernel
theorem dX3_greatestGroup_23 : decode cX3_greatestGroup 23 = .ok (.invokevirtual 53, 3) := by decide +kernel
theorem dX3_greatestGroup_26 : decode cX3_greatestGroup 26 = .ok (.invokestatic 57, 3) := by decide +kernel
theorem dX3_greatestGroup_29 : decode cX3_greatestGroup 29 = .ok (.istore_n 2, 1) := by decide +kernel
theorem dX3_greatestGroup_30 : decode cX3_greatestGroup 30 = .ok (.iinc 3 1, 3) := by decide +kernel
theorem dX3_greatestGroup_33 : decode cX3_greatestGroup 33 = .ok (.goto (-29), 3) := by decide +kernel
theorem dX3_greatestGroup_36 : decode cX3_greatestGroup 36 = .ok (.iload_n 2, 1) := by decide +kernel
theorem dX3_greatestGroup_37 : decode cX3_greatestGroup 37 = .ok (.ireturn, 1) := by decide +kernel
theorem dX3_bestKey_0 : decode cX3_bestKey 0 = .ok (.iconst 0, 1) := by decide +kernel
theorem dX3_bestKey_1 : decode cX3_bestKey 1 = .ok (.istore_n 1, 1) := by decide +kernel
theorem dX3_bestKey_2 : decode cX3_bestKey 2 = .ok (.iconst 1, 1) := by decide +kernel
theorem dX3_bestKey_3 : decode cX3_bestKey 3 = .ok (.istore_n 2, 1) := by decide +kernel
theorem dX3_bestKey_4 : decode cX3_bestKey 4 = .ok (.iload_n 2, 1) := by decide +kernel
theorem dX3_bestKey_5 : decode cX3_bestKey 5 = .ok (.bipush 16, 2) := by decide +kernel
theorem dX3_bestKey_7 : decode cX3_bestKey 7 = .ok (.if_icmp .ge 20, 3) := by decide +kernel
theorem dX3_bestKey_10 : decode cX3_bestKey 10 = .ok (.aload_n 0, 1) := by decide +kernel
theorem dX3_bestKey_11 : decode cX3_bestKey 11 = .ok (.iload_n 2, 1) := by decide +kernel
theorem dX3_bestKey_12 : decode cX3_bestKey 12 = .ok (.iload_n 1, 1) := by decide +kernel
theorem dX3_bestKey_13 : decode cX3_bestKey 13 = .ok (.invokevirtual 63, 3) := by decide +kernel
theorem dX3_bestKey_16 : decode cX3_bestKey 16 = .ok (.ifCond .eq 5, 3) := by decide +kernel
theorem dX3_bestKey_19 : decode cX3_bestKey 19 = .ok (.iload_n 2, 1) := by decide +kernel
theorem dX3_bestKey_20 : decode cX3_bestKey 20 = .ok (.istore_n 1, 1) := by decide +kernel
theorem dX3_bestKey_21 : decode cX3_bestKey 21 = .ok (.iinc 2 1, 3) := by decide +kernel
theorem dX3_bestKey_24 : decode cX3_bestKey 24 = .ok (.goto (-20), 3) := by decide +kernel
theorem dX3_bestKey_27 : decode cX3_bestKey 27 = .ok (.iload_n 1, 1) := by decide +kernel
theorem dX3_bestKey_28 : decode cX3_bestKey 28 = .ok (.ireturn, 1) := by decide +kernel
theorem dX3_isBetter_0 : decode cX3_isBetter 0 = .ok (.aload_n 0, 1) := by decide +kernel
theorem dX3_isBetter_1 : decode cX3_isBetter 1 = .ok (.iload_n 1, 1) := by decide +kernel
theorem dX3_isBetter_2 : decode cX3_isBetter 2 = .ok (.invokevirtual 67, 3) := by decide +kernel
theorem dX3_isBetter_5 : decode cX3_isBetter 5 = .ok (.istore_n 3, 1) := by decide +kernel
theorem dX3_isBetter_6 : decode cX3_isBetter 6 = .ok (.aload_n 0, 1) := by decide +kernel
theorem dX3_isBetter_7 : decode cX3_isBetter 7 = .ok (.iload_n 2, 1) := by decide +kernel
theorem dX3_isBetter_8 : decode cX3_isBetter 8 = .ok (.invokevirtual 67, 3) := by decide +kernel
theorem dX3_isBetter_11 : decode cX3_isBetter 11 = .ok (.istore 4, 2) := by decide +kernel
theorem dX3_isBetter_13 : decode cX3_isBetter 13 = .ok (.iload_n 3, 1) := by decide +kernel
theorem dX3_isBetter_14 : decode cX3_isBetter 14 = .ok (.iload 4, 2) := by decide +kernel
theorem dX3_isBetter_16 : decode cX3_isBetter 16 = .ok (.if_icmp .eq 15, 3) := by decide +kernel
theorem dX3_isBetter_19 : decode cX3_isBetter 19 = .ok (.iload_n 3, 1) := by decide +kernel
theorem dX3_isBetter_20 : decode cX3_isBetter 20 = .ok (.iload 4, 2) := by decide +kernel
theorem dX3_isBetter_22 : decode cX3_isBetter 22 = .ok (.if_icmp .ge 7, 3) := by decide +kernel
theorem dX3_isBetter_25 : decode cX3_isBetter 25 = .ok (.iconst 1, 1) := by decide +kernel
theorem dX3_isBetter_26 : decode cX3_isBetter 26 = .ok (.goto 4, 3) := by decide +kernel
theorem dX3_isBetter_29 : decode cX3_isBetter 29 = .ok (.iconst 0, 1) := by decide +kernel
theorem dX3_isBetter_30 : decode cX3_isBetter 30 = .ok (.ireturn, 1) := by decide +kernel
