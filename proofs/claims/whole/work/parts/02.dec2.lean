theorem dX3_isBetter_31 : decode cX3_isBetter 31 = .ok (.aload_n 0, 1) := by decide +kernel
theorem dX3_isBetter_32 : decode cX3_isBetter 32 = .ok (.iload_n 1, 1) := by decide +kernel
theorem dX3_isBetter_33 : decode cX3_isBetter 33 = .ok (.invokevirtual 71, 3) := by decide +kernel
theorem dX3_isBetter_36 : decode cX3_isBetter 36 = .ok (.aload_n 0, 1) := by decide +kernel
theorem dX3_isBetter_37 : decode cX3_isBetter 37 = .ok (.iload_n 2, 1) := by decide +kernel
theorem dX3_isBetter_38 : decode cX3_isBetter 38 = .ok (.invokevirtual 71, 3) := by decide +kernel
theorem dX3_isBetter_41 : decode cX3_isBetter 41 = .ok (.if_icmp .le 7, 3) := by decide +kernel
theorem dX3_isBetter_44 : decode cX3_isBetter 44 = .ok (.iconst 1, 1) := by decide +kernel
theorem dX3_isBetter_45 : decode cX3_isBetter 45 = .ok (.goto 4, 3) := by decide +kernel
theorem dX3_isBetter_48 : decode cX3_isBetter 48 = .ok (.iconst 0, 1) := by decide +kernel
theorem dX3_isBetter_49 : decode cX3_isBetter 49 = .ok (.ireturn, 1) := by decide +kernel
theorem dX4_init_0 : decode cX4_init 0 = .ok (.aload_n 0, 1) := by decide +kernel
theorem dX4_init_1 : decode cX4_init 1 = .ok (.invokespecial 3, 3) := by decide +kernel
theorem dX4_init_4 : decode cX4_init 4 = .ok (.aload_n 0, 1) := by decide +kernel
theorem dX4_init_5 : decode cX4_init 5 = .ok (.bipush 6, 2) := by decide +kernel
theorem dX4_init_7 : decode cX4_init 7 = .ok (.anewarray 9, 3) := by decide +kernel
theorem dX4_init_10 : decode cX4_init 10 = .ok (.putfield 11, 3) := by decide +kernel
theorem dX4_init_13 : decode cX4_init 13 = .ok (.iconst 0, 1) := by decide +kernel
theorem dX4_init_14 : decode cX4_init 14 = .ok (.istore_n 1, 1) := by decide +kernel
theorem dX4_init_15 : decode cX4_init 15 = .ok (.iload_n 1, 1) := by decide +kernel
theorem dX4_init_16 : decode cX4_init 16 = .ok (.bipush 6, 2) := by decide +kernel
theorem dX4_init_18 : decode cX4_init 18 = .ok (.if_icmp .ge 22, 3) := by decide +kernel
theorem dX4_init_21 : decode cX4_init 21 = .ok (.aload_n 0, 1) := by decide +kernel
theorem dX4_init_22 : decode cX4_init 22 = .ok (.getfield 11, 3) := by decide +kernel
theorem dX4_init_25 : decode cX4_init 25 = .ok (.iload_n 1, 1) := by decide +kernel
theorem dX4_init_26 : decode cX4_init 26 = .ok (.new 9, 3) := by decide +kernel
theorem dX4_init_29 : decode cX4_init 29 = .ok (.dup, 1) := by decide +kernel
theorem dX4_init_30 : decode cX4_init 30 = .ok (.invokespecial 17, 3) := by decide +kernel
theorem dX4_init_33 : decode cX4_init 33 = .ok (.aastore, 1) := by decide +kernel
theorem dX4_init_34 : decode cX4_init 34 = .ok (.iinc 1 1, 3) := by decide +kernel
theorem dX4_init_37 : decode cX4_init 37 = .ok (.goto (-22), 3) := by decide +kernel
theorem dX4_init_40 : decode cX4_init 40 = .ok (.aload_n 0, 1) := by decide +kernel
theorem dX4_init_41 : decode cX4_init 41 = .ok (.new 18, 3) := by decide +kernel
theorem dX4_init_44 : decode cX4_init 44 = .ok (.dup, 1) := by decide +kernel
theorem dX4_init_45 : decode cX4_init 45 = .ok (.invokespecial 20, 3) := by decide +kernel
theorem dX4_init_48 : decode cX4_init 48 = .ok (.putfield 21, 3) := by decide +kernel
theorem dX4_init_51 : decode cX4_init 51 = .ok (.aload_n 0, 1) := by decide +kernel
theorem dX4_init_52 : decode cX4_init 52 = .ok (.iconst 0, 1) := by decide +kernel
theorem dX4_init_53 : decode cX4_init 53 = .ok (.putfield 25, 3) := by decide +kernel
theorem dX4_init_56 : decode cX4_init 56 = .ok (.return_, 1) := by decide +kernel
theorem dX4_copyFrom_0 : decode cX4_copyFrom 0 = .ok (.iconst 0, 1) := by decide +kernel
theorem dX4_copyFrom_1 : decode cX4_copyFrom 1 = .ok (.istore_n 2, 1) := by decide +kernel
theorem dX4_copyFrom_2 : decode cX4_copyFrom 2 = .ok (.iload_n 2, 1) := by decide +kernel
theorem dX4_copyFrom_3 : decode cX4_copyFrom 3 = .ok (.bipush 6, 2) := by decide +kernel
theorem dX4_copyFrom_5 : decode cX4_copyFrom 5 = .ok (.if_icmp .ge 24, 3) := by decide +kernel
theorem dX4_copyFrom_8 : decode cX4_copyFrom 8 = .ok (.aload_n 0, 1) := by decide +kernel
theorem dX4_copyFrom_9 : decode cX4_copyFrom 9 = .ok (.getfield 11, 3) := by decide +kernel
theorem dX4_copyFrom_12 : decode cX4_copyFrom 12 = .ok (.iload_n 2, 1) := by decide +kernel
theorem dX4_copyFrom_13 : decode cX4_copyFrom 13 = .ok (.aaload, 1) := by decide +kernel
theorem dX4_copyFrom_14 : decode cX4_copyFrom 14 = .ok (.aload_n 1, 1) := by decide +kernel
theorem dX4_copyFrom_15 : decode cX4_copyFrom 15 = .ok (.getfield 11, 3) := by decide +kernel
theorem dX4_copyFrom_18 : decode cX4_copyFrom 18 = .ok (.iload_n 2, 1) := by decide +kernel
theorem dX4_copyFrom_19 : decode cX4_copyFrom 19 = .ok (.aaload, 1) := by decide +kernel
theorem dX4_copyFrom_20 : decode cX4_copyFrom 20 = .ok (.invokevirtual 29, 3) := by decide +kernel
theorem dX4_copyFrom_23 : decode cX4_copyFrom 23 = .ok (.iinc 2 1, 3) := by decide +kernel
theorem dX4_copyFrom_26 : decode cX4_copyFrom 26 = .ok (.goto (-24), 3) := by decide +kernel
theorem dX4_copyFrom_29 : decode cX4_copyFrom 29 = .ok (.aload_n 0, 1) := by decide +kernel
theorem dX4_copyFrom_30 : decode cX4_copyFrom 30 = .ok (.getfield 21, 3) := by decide +kernel
theorem dX4_copyFrom_33 : decode cX4_copyFrom 33 = .ok (.aload_n 1, 1) := by decide +kernel
theorem dX4_copyFrom_34 : decode cX4_copyFrom 34 = .ok (.getfield 21, 3) := by decide +kernel
theorem dX4_copyFrom_37 : decode cX4_copyFrom 37 = .ok (.invokevirtual 33, 3) := by decide +kernel
theorem dX4_copyFrom_40 : decode cX4_copyFrom 40 = .ok (.aload_n 0, 1) := by decide +kernel
theorem dX4_copyFrom_41 : decode cX4_copyFrom 41 = .ok (.aload_n 1, 1) := by decide +kernel
theorem dX4_copyFrom_42 : decode cX4_copyFrom 42 = .ok (.getfield 25, 3) := by decide +kernel
theorem dX4_copyFrom_45 : decode cX4_copyFrom 45 = .ok (.putfield 25, 3) := by decide +kernel
theorem dX4_copyFrom_48 : decode cX4_copyFrom 48 = .ok (.return_, 1) := by decide +kernel
theorem dX4_layers_0 : decode cX4_layers 0 = .ok (.iconst 0, 1) := by decide +kernel
theorem dX4_layers_1 : decode cX4_layers 1 = .ok (.istore_n 1, 1) := by decide +kernel
theorem dX4_layers_2 : decode cX4_layers 2 = .ok (.iconst 0, 1) := by decide +kernel
theorem dX4_layers_3 : decode cX4_layers 3 = .ok (.istore_n 2, 1) := by decide +kernel
theorem dX4_layers_4 : decode cX4_layers 4 = .ok (.iload_n 2, 1) := by decide +kernel
theorem dX4_layers_5 : decode cX4_layers 5 = .ok (.bipush 6, 2) := by decide +kernel
theorem dX4_layers_7 : decode cX4_layers 7 = .ok (.if_icmp .ge 21, 3) := by decide +kernel
theorem dX4_layers_10 : decode cX4_layers 10 = .ok (.iload_n 1, 1) := by decide +kernel
theorem dX4_layers_11 : decode cX4_layers 11 = .ok (.aload_n 0, 1) := by decide +kernel
theorem dX4_layers_12 : decode cX4_layers 12 = .ok (.getfield 11, 3) := by decide +kernel
theorem dX4_layers_15 : decode cX4_layers 15 = .ok (.iload_n 2, 1) := by decide +kernel
theorem dX4_layers_16 : decode cX4_layers 16 = .ok (.aaload, 1) := by decide +kernel
theorem dX4_layers_17 : decode cX4_layers 17 = .ok (.getfield 36, 3) := by decide +kernel
theorem dX4_layers_20 : decode cX4_layers 20 = .ok (.iadd, 1) := by decide +kernel
theorem dX4_layers_21 : decode cX4_layers 21 = .ok (.istore_n 1, 1) := by decide +kernel
theorem dX4_layers_22 : decode cX4_layers 22 = .ok (.iinc 2 1, 3) := by decide +kernel
theorem dX4_layers_25 : decode cX4_layers 25 = .ok (.goto (-21), 3) := by decide +kernel
theorem dX4_layers_28 : decode cX4_layers 28 = .ok (.iload_n 1, 1) := by decide +kernel
theorem dX4_layers_29 : decode cX4_layers 29 = .ok (.ireturn, 1) := by decide +kernel
theorem dX4_entriesOfAll_0 : decode cX4_entriesOfAll 0 = .ok (.iconst 0, 1) := by decide +kernel
theorem dX4_entriesOfAll_1 : decode cX4_entriesOfAll 1 = .ok (.istore_n 1, 1) := by decide +kernel
theorem dX4_entriesOfAll_2 : decode cX4_entriesOfAll 2 = .ok (.iconst 0, 1) := by decide +kernel
theorem dX4_entriesOfAll_3 : decode cX4_entriesOfAll 3 = .ok (.istore_n 2, 1) := by decide +kernel
theorem dX4_entriesOfAll_4 : decode cX4_entriesOfAll 4 = .ok (.iload_n 2, 1) := by decide +kernel
theorem dX4_entriesOfAll_5 : decode cX4_entriesOfAll 5 = .ok (.bipush 6, 2) := by decide +kernel
theorem dX4_entriesOfAll_7 : decode cX4_entriesOfAll 7 = .ok (.if_icmp .ge 21, 3) := by decide +kernel
theorem dX4_entriesOfAll_10 : decode cX4_entriesOfAll 10 = .ok (.iload_n 1, 1) := by decide +kernel
theorem dX4_entriesOfAll_11 : decode cX4_entriesOfAll 11 = .ok (.aload_n 0, 1) := by decide +kernel
theorem dX4_entriesOfAll_12 : decode cX4_entriesOfAll 12 = .ok (.getfield 11, 3) := by decide +kernel
theorem dX4_entriesOfAll_15 : decode cX4_entriesOfAll 15 = .ok (.iload_n 2, 1) := by decide +kernel
theorem dX4_entriesOfAll_16 : decode cX4_entriesOfAll 16 = .ok (.aaload, 1) := by decide +kernel
theorem dX4_entriesOfAll_17 : decode cX4_entriesOfAll 17 = .ok (.invokevirtual 39, 3) := by decide +kernel
theorem dX4_entriesOfAll_20 : decode cX4_entriesOfAll 20 = .ok (.iadd, 1) := by decide +kernel
theorem dX4_entriesOfAll_21 : decode cX4_entriesOfAll 21 = .ok (.istore_n 1, 1) := by decide +kernel
theorem dX4_entriesOfAll_22 : decode cX4_entriesOfAll 22 = .ok (.iinc 2 1, 3) := by decide +kernel
theorem dX4_entriesOfAll_25 : decode cX4_entriesOfAll 25 = .ok (.goto (-21), 3) := by decide +kernel
theorem dX4_entriesOfAll_28 : decode cX4_entriesOfAll 28 = .ok (.iload_n 1, 1) := by decide +kernel
theorem dX4_entriesOfAll_29 : decode cX4_entriesOfAll 29 = .ok (.ireturn, 1) := by decide +kernel
theorem dX4_shadowedOfAll_0 : decode cX4_shadowedOfAll 0 = .ok (.iconst 0, 1) := by decide +kernel
theorem dX4_shadowedOfAll_1 : decode cX4_shadowedOfAll 1 = .ok (.istore_n 1, 1) := by decide +kernel
theorem dX4_shadowedOfAll_2 : decode cX4_shadowedOfAll 2 = .ok (.iconst 0, 1) := by decide +kernel
theorem dX4_shadowedOfAll_3 : decode cX4_shadowedOfAll 3 = .ok (.istore_n 2, 1) := by decide +kernel
theorem dX4_shadowedOfAll_4 : decode cX4_shadowedOfAll 4 = .ok (.iload_n 2, 1) := by decide +kernel
theorem dX4_shadowedOfAll_5 : decode cX4_shadowedOfAll 5 = .ok (.bipush 6, 2) := by decide +kernel
theorem dX4_shadowedOfAll_7 : decode cX4_shadowedOfAll 7 = .ok (.if_icmp .ge 21, 3) := by decide +kernel
theorem dX4_shadowedOfAll_10 : decode cX4_shadowedOfAll 10 = .ok (.iload_n 1, 1) := by decide +kernel
theorem dX4_shadowedOfAll_11 : decode cX4_shadowedOfAll 11 = .ok (.aload_n 0, 1) := by decide +kernel
theorem dX4_shadowedOfAll_12 : decode cX4_shadowedOfAll 12 = .ok (.getfield 11, 3) := by decide +kernel
theorem dX4_shadowedOfAll_15 : decode cX4_shadowedOfAll 15 = .ok (.iload_n 2, 1) := by decide +kernel
theorem dX4_shadowedOfAll_16 : decode cX4_shadowedOfAll 16 = .ok (.aaload, 1) := by decide +kernel
theorem dX4_shadowedOfAll_17 : decode cX4_shadowedOfAll 17 = .ok (.invokevirtual 43, 3) := by decide +kernel
theorem dX4_shadowedOfAll_20 : decode cX4_shadowedOfAll 20 = .ok (.iadd, 1) := by decide +kernel
theorem dX4_shadowedOfAll_21 : decode cX4_shadowedOfAll 21 = .ok (.istore_n 1, 1) := by decide +kernel
theorem dX4_shadowedOfAll_22 : decode cX4_shadowedOfAll 22 = .ok (.iinc 2 1, 3) := by decide +kernel
theorem dX4_shadowedOfAll_25 : decode cX4_shadowedOfAll 25 = .ok (.goto (-21), 3) := by decide +kernel
theorem dX4_shadowedOfAll_28 : decode cX4_shadowedOfAll 28 = .ok (.iload_n 1, 1) := by decide +kernel
theorem dX4_shadowedOfAll_29 : decode cX4_shadowedOfAll 29 = .ok (.ireturn, 1) := by decide +kernel
theorem dX4_repeatedMaps_0 : decode cX4_repeatedMaps 0 = .ok (.iconst 0, 1) := by decide +kernel
theorem dX4_repeatedMaps_1 : decode cX4_repeatedMaps 1 = .ok (.istore_n 1, 1) := by decide +kernel
theorem dX4_repeatedMaps_2 : decode cX4_repeatedMaps 2 = .ok (.iconst 0, 1) := by decide +kernel
theorem dX4_repeatedMaps_3 : decode cX4_repeatedMaps 3 = .ok (.istore_n 2, 1) := by decide +kernel
theorem dX4_repeatedMaps_4 : decode cX4_repeatedMaps 4 = .ok (.iload_n 2, 1) := by decide +kernel
theorem dX4_repeatedMaps_5 : decode cX4_repeatedMaps 5 = .ok (.bipush 6, 2) := by decide +kernel
theorem dX4_repeatedMaps_7 : decode cX4_repeatedMaps 7 = .ok (.if_icmp .ge 20, 3) := by decide +kernel
theorem dX4_repeatedMaps_10 : decode cX4_repeatedMaps 10 = .ok (.aload_n 0, 1) := by decide +kernel
theorem dX4_repeatedMaps_11 : decode cX4_repeatedMaps 11 = .ok (.iload_n 2, 1) := by decide +kernel
theorem dX4_repeatedMaps_12 : decode cX4_repeatedMaps 12 = .ok (.invokevirtual 46, 3) := by decide +kernel
theorem dX4_repeatedMaps_15 : decode cX4_repeatedMaps 15 = .ok (.ifCond .eq 6, 3) := by decide +kernel
theorem dX4_repeatedMaps_18 : decode cX4_repeatedMaps 18 = .ok (.iinc 1 1, 3) := by decide +kernel
theorem dX4_repeatedMaps_21 : decode cX4_repeatedMaps 21 = .ok (.iinc 2 1, 3) := by decide +kernel
theorem dX4_repeatedMaps_24 : decode cX4_repeatedMaps 24 = .ok (.goto (-20), 3) := by decide +kernel
theorem dX4_repeatedMaps_27 : decode cX4_repeatedMaps 27 = .ok (.iload_n 1, 1) := by decide +kernel
theorem dX4_repeatedMaps_28 : decode cX4_repeatedMaps 28 = .ok (.ireturn, 1) := by decide +kernel
theorem dX4_repeatsLowerMap_0 : decode cX4_repeatsLowerMap 0 = .ok (.iconst 0, 1) := by decide +kernel
theorem dX4_repeatsLowerMap_1 : decode cX4_repeatsLowerMap 1 = .ok (.istore_n 2, 1) := by decide +kernel
theorem dX4_repeatsLowerMap_2 : decode cX4_repeatsLowerMap 2 = .ok (.iload_n 2, 1) := by decide +kernel
theorem dX4_repeatsLowerMap_3 : decode cX4_repeatsLowerMap 3 = .ok (.iload_n 1, 1) := by decide +kernel
theorem dX4_repeatsLowerMap_4 : decode cX4_repeatsLowerMap 4 = .ok (.if_icmp .ge 35, 3) := by decide +kernel
theorem dX4_repeatsLowerMap_7 : decode cX4_repeatsLowerMap 7 = .ok (.aload_n 0, 1) := by decide +kernel
theorem dX4_repeatsLowerMap_8 : decode cX4_repeatsLowerMap 8 = .ok (.getfield 11, 3) := by decide +kernel
theorem dX4_repeatsLowerMap_11 : decode cX4_repeatsLowerMap 11 = .ok (.iload_n 2, 1) := by decide +kernel
theorem dX4_repeatsLowerMap_12 : decode cX4_repeatsLowerMap 12 = .ok (.aaload, 1) := by decide +kernel
theorem dX4_repeatsLowerMap_13 : decode cX4_repeatsLowerMap 13 = .ok (.getfield 50, 3) := by decide +kernel
theorem dX4_repeatsLowerMap_16 : decode cX4_repeatsLowerMap 16 = .ok (.aload_n 0, 1) := by decide +kernel
theorem dX4_repeatsLowerMap_17 : decode cX4_repeatsLowerMap 17 = .ok (.getfield 11, 3) := by decide +kernel
theorem dX4_repeatsLowerMap_20 : decode cX4_repeatsLowerMap 20 = .ok (.iload_n 1, 1) := by decide +kernel
theorem dX4_repeatsLowerMap_21 : decode cX4_repeatsLowerMap 21 = .ok (.aaload, 1) := by decide +kernel
theorem dX4_repeatsLowerMap_22 : decode cX4_repeatsLowerMap 22 = .ok (.getfield 50, 3) := by decide +kernel
theorem dX4_repeatsLowerMap_25 : decode cX4_repeatsLowerMap 25 = .ok (.invokestatic 54, 3) := by decide +kernel
theorem dX4_repeatsLowerMap_28 : decode cX4_repeatsLowerMap 28 = .ok (.ifCond .ne 5, 3) := by decide +kernel
theorem dX4_repeatsLowerMap_31 : decode cX4_repeatsLowerMap 31 = .ok (.iconst 1, 1) := by decide +kernel
theorem dX4_repeatsLowerMap_32 : decode cX4_repeatsLowerMap 32 = .ok (.ireturn, 1) := by decide +kernel
theorem dX4_repeatsLowerMap_33 : decode cX4_repeatsLowerMap 33 = .ok (.iinc 2 1, 3) := by decide +kernel
theorem dX4_repeatsLowerMap_36 : decode cX4_repeatsLowerMap 36 = .ok (.goto (-34), 3) := by decide +kernel
theorem dX4_repeatsLowerMap_39 : decode cX4_repeatsLowerMap 39 = .ok (.iconst 0, 1) := by decide +kernel
theorem dX4_repeatsLowerMap_40 : decode cX4_repeatsLowerMap 40 = .ok (.ireturn, 1) := by decide +kernel
theorem dX5_init_0 : decode cX5_init 0 = .ok (.aload_n 0, 1) := by decide +kernel
theorem dX5_init_1 : decode cX5_init 1 = .ok (.invokespecial 3, 3) := by decide +kernel
theorem dX5_init_4 : decode cX5_init 4 = .ok (.aload_n 0, 1) := by decide +kernel
theorem dX5_init_5 : decode cX5_init 5 = .ok (.bipush 60, 2) := by decide +kernel
theorem dX5_init_7 : decode cX5_init 7 = .ok (.newarray .char, 2) := by decide +kernel
theorem dX5_init_9 : decode cX5_init 9 = .ok (.putfield 9, 3) := by decide +kernel
theorem dX5_init_12 : decode cX5_init 12 = .ok (.aload_n 0, 1) := by decide +kernel
theorem dX5_init_13 : decode cX5_init 13 = .ok (.iconst 0, 1) := by decide +kernel
theorem dX5_init_14 : decode cX5_init 14 = .ok (.putfield 15, 3) := by decide +kernel
theorem dX5_init_17 : decode cX5_init 17 = .ok (.aload_n 0, 1) := by decide +kernel
theorem dX5_init_18 : decode cX5_init 18 = .ok (.iconst 0, 1) := by decide +kernel
theorem dX5_init_19 : decode cX5_init 19 = .ok (.putfield 19, 3) := by decide +kernel
theorem dX5_init_22 : decode cX5_init 22 = .ok (.return_, 1) := by decide +kernel
theorem dX5_add_0 : decode cX5_add 0 = .ok (.aload_n 0, 1) := by decide +kernel
theorem dX5_add_1 : decode cX5_add 1 = .ok (.getfield 15, 3) := by decide +kernel
theorem dX5_add_4 : decode cX5_add 4 = .ok (.ifCond .lt 12, 3) := by decide +kernel
theorem dX5_add_7 : decode cX5_add 7 = .ok (.aload_n 0, 1) := by decide +kernel
theorem dX5_add_8 : decode cX5_add 8 = .ok (.getfield 15, 3) := by decide +kernel
theorem dX5_add_11 : decode cX5_add 11 = .ok (.bipush 60, 2) := by decide +kernel
theorem dX5_add_13 : decode cX5_add 13 = .ok (.if_icmp .lt 5, 3) := by decide +kernel
theorem dX5_add_16 : decode cX5_add 16 = .ok (.iconst 0, 1) := by decide +kernel
theorem dX5_add_17 : decode cX5_add 17 = .ok (.ireturn, 1) := by decide +kernel
theorem dX5_add_18 : decode cX5_add 18 = .ok (.aload_n 0, 1) := by decide +kernel
theorem dX5_add_19 : decode cX5_add 19 = .ok (.getfield 9, 3) := by decide +kernel
theorem dX5_add_22 : decode cX5_add 22 = .ok (.aload_n 0, 1) := by decide +kernel
theorem dX5_add_23 : decode cX5_add 23 = .ok (.getfield 15, 3) := by decide +kernel
theorem dX5_add_26 : decode cX5_add 26 = .ok (.iload_n 1, 1) := by decide +kernel
theorem dX5_add_27 : decode cX5_add 27 = .ok (.castore, 1) := by decide +kernel
theorem dX5_add_28 : decode cX5_add 28 = .ok (.aload_n 0, 1) := by decide +kernel
theorem dX5_add_29 : decode cX5_add 29 = .ok (.dup, 1) := by decide +kernel
theorem dX5_add_30 : decode cX5_add 30 = .ok (.getfield 15, 3) := by decide +kernel
theorem dX5_add_33 : decode cX5_add 33 = .ok (.iconst 1, 1) := by decide +kernel
theorem dX5_add_34 : decode cX5_add 34 = .ok (.iadd, 1) := by decide +kernel
theorem dX5_add_35 : decode cX5_add 35 = .ok (.putfield 15, 3) := by decide +kernel
theorem dX5_add_38 : decode cX5_add 38 = .ok (.iconst 1, 1) := by decide +kernel
theorem dX5_add_39 : decode cX5_add 39 = .ok (.ireturn, 1) := by decide +kernel
theorem dX5_isAtEnd_0 : decode cX5_isAtEnd 0 = .ok (.aload_n 0, 1) := by decide +kernel
theorem dX5_isAtEnd_1 : decode cX5_isAtEnd 1 = .ok (.getfield 19, 3) := by decide +kernel
theorem dX5_isAtEnd_4 : decode cX5_isAtEnd 4 = .ok (.ifCond .lt 23, 3) := by decide +kernel
theorem dX5_isAtEnd_7 : decode cX5_isAtEnd 7 = .ok (.aload_n 0, 1) := by decide +kernel
theorem dX5_isAtEnd_8 : decode cX5_isAtEnd 8 = .ok (.getfield 19, 3) := by decide +kernel
theorem dX5_isAtEnd_11 : decode cX5_isAtEnd 11 = .ok (.aload_n 0, 1) := by decide +kernel
theorem dX5_isAtEnd_12 : decode cX5_isAtEnd 12 = .ok (.getfield 15, 3) := by decide +kernel
theorem dX5_isAtEnd_15 : decode cX5_isAtEnd 15 = .ok (.if_icmp .ge 12, 3) := by decide +kernel
theorem dX5_isAtEnd_18 : decode cX5_isAtEnd 18 = .ok (.aload_n 0, 1) := by decide +kernel
theorem dX5_isAtEnd_19 : decode cX5_isAtEnd 19 = .ok (.getfield 19, 3) := by decide +kernel
theorem dX5_isAtEnd_22 : decode cX5_isAtEnd 22 = .ok (.bipush 60, 2) := by decide +kernel
theorem dX5_isAtEnd_24 : decode cX5_isAtEnd 24 = .ok (.if_icmp .lt 7, 3) := by decide +kernel
theorem dX5_isAtEnd_27 : decode cX5_isAtEnd 27 = .ok (.iconst 1, 1) := by decide +kernel
theorem dX5_isAtEnd_28 : decode cX5_isAtEnd 28 = .ok (.goto 4, 3) := by decide +kernel
theorem dX5_isAtEnd_31 : decode cX5_isAtEnd 31 = .ok (.iconst 0, 1) := by decide +kernel
theorem dX5_isAtEnd_32 : decode cX5_isAtEnd 32 = .ok (.ireturn, 1) := by decide +kernel
theorem dX5_take_0 : decode cX5_take 0 = .ok (.aload_n 0, 1) := by decide +kernel
theorem dX5_take_1 : decode cX5_take 1 = .ok (.invokevirtual 22, 3) := by decide +kernel
theorem dX5_take_4 : decode cX5_take 4 = .ok (.ifCond .ne 16, 3) := by decide +kernel
theorem dX5_take_7 : decode cX5_take 7 = .ok (.aload_n 0, 1) := by decide +kernel
theorem dX5_take_8 : decode cX5_take 8 = .ok (.getfield 9, 3) := by decide +kernel
theorem dX5_take_11 : decode cX5_take 11 = .ok (.aload_n 0, 1) := by decide +kernel
theorem dX5_take_12 : decode cX5_take 12 = .ok (.getfield 19, 3) := by decide +kernel
theorem dX5_take_15 : decode cX5_take 15 = .ok (.caload, 1) := by decide +kernel
theorem dX5_take_16 : decode cX5_take 16 = .ok (.iload_n 1, 1) := by decide +kernel
theorem dX5_take_17 : decode cX5_take 17 = .ok (.if_icmp .eq 5, 3) := by decide +kernel
theorem dX5_take_20 : decode cX5_take 20 = .ok (.iconst 0, 1) := by decide +kernel
theorem dX5_take_21 : decode cX5_take 21 = .ok (.ireturn, 1) := by decide +kernel
theorem dX5_take_22 : decode cX5_take 22 = .ok (.aload_n 0, 1) := by decide +kernel
theorem dX5_take_23 : decode cX5_take 23 = .ok (.dup, 1) := by decide +kernel
theorem dX5_take_24 : decode cX5_take 24 = .ok (.getfield 19, 3) := by decide +kernel
theorem dX5_take_27 : decode cX5_take 27 = .ok (.iconst 1, 1) := by decide +kernel
theorem dX5_take_28 : decode cX5_take 28 = .ok (.iadd, 1) := by decide +kernel
theorem dX5_take_29 : decode cX5_take 29 = .ok (.putfield 19, 3) := by decide +kernel
theorem dX5_take_32 : decode cX5_take 32 = .ok (.iconst 1, 1) := by decide +kernel
theorem dX5_take_33 : decode cX5_take 33 = .ok (.ireturn, 1) := by decide +kernel
theorem dX5_takeBetween_0 : decode cX5_takeBetween 0 = .ok (.aload_n 0, 1) := by decide +kernel
theorem dX5_takeBetween_1 : decode cX5_takeBetween 1 = .ok (.getfield 19, 3) := by decide +kernel
theorem dX5_takeBetween_4 : decode cX5_takeBetween 4 = .ok (.ifCond .lt 49, 3) := by decide +kernel
theorem dX5_takeBetween_7 : decode cX5_takeBetween 7 = .ok (.aload_n 0, 1) := by decide +kernel
theorem dX5_takeBetween_8 : decode cX5_takeBetween 8 = .ok (.getfield 19, 3) := by decide +kernel
theorem dX5_takeBetween_11 : decode cX5_takeBetween 11 = .ok (.aload_n 0, 1) := by decide +kernel
theorem dX5_takeBetween_12 : decode cX5_takeBetween 12 = .ok (.getfield 15, 3) := by decide +kernel
theorem dX5_takeBetween_15 : decode cX5_takeBetween 15 = .ok (.if_icmp .ge 38, 3) := by decide +kernel
theorem dX5_takeBetween_18 : decode cX5_takeBetween 18 = .ok (.aload_n 0, 1) := by decide +kernel
theorem dX5_takeBetween_19 : decode cX5_takeBetween 19 = .ok (.getfield 19, 3) := by decide +kernel
theorem dX5_takeBetween_22 : decode cX5_takeBetween 22 = .ok (.bipush 60, 2) := by decide +kernel
theorem dX5_takeBetween_24 : decode cX5_takeBetween 24 = .ok (.if_icmp .ge 29, 3) := by decide +kernel
theorem dX5_takeBetween_27 : decode cX5_takeBetween 27 = .ok (.aload_n 0, 1) := by decide +kernel
theorem dX5_takeBetween_28 : decode cX5_takeBetween 28 = .ok (.getfield 9, 3) := by decide +kernel
theorem dX5_takeBetween_31 : decode cX5_takeBetween 31 = .ok (.aload_n 0, 1) := by decide +kernel
theorem dX5_takeBetween_32 : decode cX5_takeBetween 32 = .ok (.getfield 19, 3) := by decide +kernel
theorem dX5_takeBetween_35 : decode cX5_takeBetween 35 = .ok (.caload, 1) := by decide +kernel
theorem dX5_takeBetween_36 : decode cX5_takeBetween 36 = .ok (.iload_n 1, 1) := by decide +kernel
theorem dX5_takeBetween_37 : decode cX5_takeBetween 37 = .ok (.if_icmp .lt 16, 3) := by decide +kernel
theorem dX5_takeBetween_40 : decode cX5_takeBetween 40 = .ok (.aload_n 0, 1) := by decide +kernel
theorem dX5_takeBetween_41 : decode cX5_takeBetween 41 = .ok (.getfield 9, 3) := by decide +kernel
theorem dX5_takeBetween_44 : decode cX5_takeBetween 44 = .ok (.aload_n 0, 1) := by decide +kernel
theorem dX5_takeBetween_45 : decode cX5_takeBetween 45 = .ok (.getfield 19, 3) := by decide +kernel
theorem dX5_takeBetween_48 : decode cX5_takeBetween 48 = .ok (.caload, 1) := by decide +kernel
theorem dX5_takeBetween_49 : decode cX5_takeBetween 49 = .ok (.iload_n 2, 1) := by decide +kernel
theorem dX5_takeBetween_50 : decode cX5_takeBetween 50 = .ok (.if_icmp .le 5, 3) := by decide +kernel
theorem dX5_takeBetween_53 : decode cX5_takeBetween 53 = .ok (.iconst (-1), 1) := by decide +kernel
theorem dX5_takeBetween_54 : decode cX5_takeBetween 54 = .ok (.ireturn, 1) := by decide +kernel
theorem dX5_takeBetween_55 : decode cX5_takeBetween 55 = .ok (.aload_n 0, 1) := by decide +kernel
theorem dX5_takeBetween_56 : decode cX5_takeBetween 56 = .ok (.getfield 9, 3) := by decide +kernel
theorem dX5_takeBetween_59 : decode cX5_takeBetween 59 = .ok (.aload_n 0, 1) := by decide +kernel
theorem dX5_takeBetween_60 : decode cX5_takeBetween 60 = .ok (.getfield 19, 3) := by decide +kernel
theorem dX5_takeBetween_63 : decode cX5_takeBetween 63 = .ok (.caload, 1) := by decide +kernel
theorem dX5_takeBetween_64 : decode cX5_takeBetween 64 = .ok (.iload_n 1, 1) := by decide +kernel
theorem dX5_takeBetween_65 : decode cX5_takeBetween 65 = .ok (.isub, 1) := by decide +kernel
theorem dX5_takeBetween_66 : decode cX5_takeBetween 66 = .ok (.istore_n 3, 1) := by decide +kernel
theorem dX5_takeBetween_67 : decode cX5_takeBetween 67 = .ok (.aload_n 0, 1) := by decide +kernel
theorem dX5_takeBetween_68 : decode cX5_takeBetween 68 = .ok (.dup, 1) := by decide +kernel
theorem dX5_takeBetween_69 : decode cX5_takeBetween 69 = .ok (.getfield 19, 3) := by decide +kernel
theorem dX5_takeBetween_72 : decode cX5_takeBetween 72 = .ok (.iconst 1, 1) := by decide +kernel
theorem dX5_takeBetween_73 : decode cX5_takeBetween 73 = .ok (.iadd, 1) := by decide +kernel
theorem dX5_takeBetween_74 : decode cX5_takeBetween 74 = .ok (.putfield 19, 3) := by decide +kernel
theorem dX5_takeBetween_77 : decode cX5_takeBetween 77 = .ok (.iload_n 3, 1) := by decide +kernel
theorem dX5_takeBetween_78 : decode cX5_takeBetween 78 = .ok (.ireturn, 1) := by decide +kernel
theorem dX5_takeMap_0 : decode cX5_takeMap 0 = .ok (.aload_n 0, 1) := by decide +kernel
theorem dX5_takeMap_1 : decode cX5_takeMap 1 = .ok (.bipush 65, 2) := by decide +kernel
theorem dX5_takeMap_3 : decode cX5_takeMap 3 = .ok (.bipush 70, 2) := by decide +kernel
theorem dX5_takeMap_5 : decode cX5_takeMap 5 = .ok (.invokevirtual 26, 3) := by decide +kernel
theorem dX5_takeMap_8 : decode cX5_takeMap 8 = .ok (.ireturn, 1) := by decide +kernel
theorem dX5_takeDigit_0 : decode cX5_takeDigit 0 = .ok (.aload_n 0, 1) := by decide +kernel
theorem dX5_takeDigit_1 : decode cX5_takeDigit 1 = .ok (.bipush 48, 2) := by decide +kernel
theorem dX5_takeDigit_3 : decode cX5_takeDigit 3 = .ok (.bipush 57, 2) := by decide +kernel
theorem dX5_takeDigit_5 : decode cX5_takeDigit 5 = .ok (.invokevirtual 26, 3) := by decide +kernel
theorem dX5_takeDigit_8 : decode cX5_takeDigit 8 = .ok (.ireturn, 1) := by decide +kernel
theorem dX5_takeKey_0 : decode cX5_takeKey 0 = .ok (.aload_n 0, 1) := by decide +kernel
theorem dX5_takeKey_1 : decode cX5_takeKey 1 = .ok (.bipush 48, 2) := by decide +kernel
theorem dX5_takeKey_3 : decode cX5_takeKey 3 = .ok (.bipush 57, 2) := by decide +kernel
theorem dX5_takeKey_5 : decode cX5_takeKey 5 = .ok (.invokevirtual 26, 3) := by decide +kernel
theorem dX5_takeKey_8 : decode cX5_takeKey 8 = .ok (.istore_n 1, 1) := by decide +kernel
theorem dX5_takeKey_9 : decode cX5_takeKey 9 = .ok (.iload_n 1, 1) := by decide +kernel
theorem dX5_takeKey_10 : decode cX5_takeKey 10 = .ok (.iconst 1, 1) := by decide +kernel
theorem dX5_takeKey_11 : decode cX5_takeKey 11 = .ok (.if_icmp .eq 5, 3) := by decide +kernel
theorem dX5_takeKey_14 : decode cX5_takeKey 14 = .ok (.iload_n 1, 1) := by decide +kernel
theorem dX5_takeKey_15 : decode cX5_takeKey 15 = .ok (.ireturn, 1) := by decide +kernel
theorem dX5_takeKey_16 : decode cX5_takeKey 16 = .ok (.aload_n 0, 1) := by decide +kernel
theorem dX5_takeKey_17 : decode cX5_takeKey 17 = .ok (.bipush 48, 2) := by decide +kernel
theorem dX5_takeKey_19 : decode cX5_takeKey 19 = .ok (.bipush 53, 2) := by decide +kernel
theorem dX5_takeKey_21 : decode cX5_takeKey 21 = .ok (.invokevirtual 26, 3) := by decide +kernel
theorem dX5_takeKey_24 : decode cX5_takeKey 24 = .ok (.istore_n 2, 1) := by decide +kernel
theorem dX5_takeKey_25 : decode cX5_takeKey 25 = .ok (.iload_n 2, 1) := by decide +kernel
theorem dX5_takeKey_26 : decode cX5_takeKey 26 = .ok (.iconst (-1), 1) := by decide +kernel
theorem dX5_takeKey_27 : decode cX5_takeKey 27 = .ok (.if_icmp .ne 7, 3) := by decide +kernel
theorem dX5_takeKey_30 : decode cX5_takeKey 30 = .ok (.iconst 1, 1) := by decide +kernel
theorem dX5_takeKey_31 : decode cX5_takeKey 31 = .ok (.goto 7, 3) := by decide +kernel
theorem dX5_takeKey_34 : decode cX5_takeKey 34 = .ok (.bipush 10, 2) := by decide +kernel
theorem dX5_takeKey_36 : decode cX5_takeKey 36 = .ok (.iload_n 2, 1) := by decide +kernel
theorem dX5_takeKey_37 : decode cX5_takeKey 37 = .ok (.iadd, 1) := by decide +kernel
theorem dX5_takeKey_38 : decode cX5_takeKey 38 = .ok (.ireturn, 1) := by decide +kernel
theorem dX5_takeKeySet_0 : decode cX5_takeKeySet 0 = .ok (.iconst 0, 1) := by decide +kernel
theorem dX5_takeKeySet_1 : decode cX5_takeKeySet 1 = .ok (.istore_n 1, 1) := by decide +kernel
theorem dX5_takeKeySet_2 : decode cX5_takeKeySet 2 = .ok (.iconst 0, 1) := by decide +kernel
theorem dX5_takeKeySet_3 : decode cX5_takeKeySet 3 = .ok (.istore_n 2, 1) := by decide +kernel
theorem dX5_takeKeySet_4 : decode cX5_takeKeySet 4 = .ok (.iload_n 2, 1) := by decide +kernel
theorem dX5_takeKeySet_5 : decode cX5_takeKeySet 5 = .ok (.bipush 60, 2) := by decide +kernel
theorem dX5_takeKeySet_7 : decode cX5_takeKeySet 7 = .ok (.if_icmp .ge 49, 3) := by decide +kernel
theorem dX5_takeKeySet_10 : decode cX5_takeKeySet 10 = .ok (.aload_n 0, 1) := by decide +kernel
theorem dX5_takeKeySet_11 : decode cX5_takeKeySet 11 = .ok (.invokevirtual 30, 3) := by decide +kernel
theorem dX5_takeKeySet_14 : decode cX5_takeKeySet 14 = .ok (.istore_n 3, 1) := by decide +kernel
theorem dX5_takeKeySet_15 : decode cX5_takeKeySet 15 = .ok (.iload_n 3, 1) := by decide +kernel
theorem dX5_takeKeySet_16 : decode cX5_takeKeySet 16 = .ok (.iconst (-1), 1) := by decide +kernel
theorem dX5_takeKeySet_17 : decode cX5_takeKeySet 17 = .ok (.if_icmp .ne 5, 3) := by decide +kernel
theorem dX5_takeKeySet_20 : decode cX5_takeKeySet 20 = .ok (.iconst (-1), 1) := by decide +kernel
theorem dX5_takeKeySet_21 : decode cX5_takeKeySet 21 = .ok (.ireturn, 1) := by decide +kernel
theorem dX5_takeKeySet_22 : decode cX5_takeKeySet 22 = .ok (.iload_n 1, 1) := by decide +kernel
theorem dX5_takeKeySet_23 : decode cX5_takeKeySet 23 = .ok (.iconst 1, 1) := by decide +kernel
theorem dX5_takeKeySet_24 : decode cX5_takeKeySet 24 = .ok (.iload_n 3, 1) := by decide +kernel
theorem dX5_takeKeySet_25 : decode cX5_takeKeySet 25 = .ok (.ishl, 1) := by decide +kernel
theorem dX5_takeKeySet_26 : decode cX5_takeKeySet 26 = .ok (.ior, 1) := by decide +kernel
theorem dX5_takeKeySet_27 : decode cX5_takeKeySet 27 = .ok (.istore_n 1, 1) := by decide +kernel
theorem dX5_takeKeySet_28 : decode cX5_takeKeySet 28 = .ok (.aload_n 0, 1) := by decide +kernel
theorem dX5_takeKeySet_29 : decode cX5_takeKeySet 29 = .ok (.bipush 125, 2) := by decide +kernel
theorem dX5_takeKeySet_31 : decode cX5_takeKeySet 31 = .ok (.invokevirtual 34, 3) := by decide +kernel
theorem dX5_takeKeySet_34 : decode cX5_takeKeySet 34 = .ok (.ifCond .eq 5, 3) := by decide +kernel
theorem dX5_takeKeySet_37 : decode cX5_takeKeySet 37 = .ok (.iload_n 1, 1) := by decide +kernel
theorem dX5_takeKeySet_38 : decode cX5_takeKeySet 38 = .ok (.ireturn, 1) := by decide +kernel
theorem dX5_takeKeySet_39 : decode cX5_takeKeySet 39 = .ok (.aload_n 0, 1) := by decide +kernel
theorem dX5_takeKeySet_40 : decode cX5_takeKeySet 40 = .ok (.bipush 44, 2) := by decide +kernel
theorem dX5_takeKeySet_42 : decode cX5_takeKeySet 42 = .ok (.invokevirtual 34, 3) := by decide +kernel
theorem dX5_takeKeySet_45 : decode cX5_takeKeySet 45 = .ok (.ifCond .ne 5, 3) := by decide +kernel
theorem dX5_takeKeySet_48 : decode cX5_takeKeySet 48 = .ok (.iconst (-1), 1) := by decide +kernel
theorem dX5_takeKeySet_49 : decode cX5_takeKeySet 49 = .ok (.ireturn, 1) := by decide +kernel
theorem dX5_takeKeySet_50 : decode cX5_takeKeySet 50 = .ok (.iinc 2 1, 3) := by decide +kernel
theorem dX5_takeKeySet_53 : decode cX5_takeKeySet 53 = .ok (.goto (-49), 3) := by decide +kernel
theorem dX5_takeKeySet_56 : decode cX5_takeKeySet 56 = .ok (.iconst (-1), 1) := by decide +kernel
theorem dX5_takeKeySet_57 : decode cX5_takeKeySet 57 = .ok (.ireturn, 1) := by decide +kernel
theorem dX6_init_0 : decode cX6_init 0 = .ok (.aload_n 0, 1) := by decide +kernel
theorem dX6_init_1 : decode cX6_init 1 = .ok (.invokespecial 1, 3) := by decide +kernel
theorem dX6_init_4 : decode cX6_init 4 = .ok (.aload_n 0, 1) := by decide +kernel
theorem dX6_init_5 : decode cX6_init 5 = .ok (.new 7, 3) := by decide +kernel
theorem dX6_init_8 : decode cX6_init 8 = .ok (.dup, 1) := by decide +kernel
theorem dX6_init_9 : decode cX6_init 9 = .ok (.invokespecial 9, 3) := by decide +kernel
theorem dX6_init_12 : decode cX6_init 12 = .ok (.putfield 10, 3) := by decide +kernel
theorem dX6_init_15 : decode cX6_init 15 = .ok (.aload_n 0, 1) := by decide +kernel
theorem dX6_init_16 : decode cX6_init 16 = .ok (.iconst 4, 1) := by decide +kernel
theorem dX6_init_17 : decode cX6_init 17 = .ok (.anewarray 7, 3) := by decide +kernel
theorem dX6_init_20 : decode cX6_init 20 = .ok (.putfield 16, 3) := by decide +kernel
theorem dX6_init_23 : decode cX6_init 23 = .ok (.iconst 0, 1) := by decide +kernel
theorem dX6_init_24 : decode cX6_init 24 = .ok (.istore_n 1, 1) := by decide +kernel
theorem dX6_init_25 : decode cX6_init 25 = .ok (.iload_n 1, 1) := by decide +kernel
theorem dX6_init_26 : decode cX6_init 26 = .ok (.iconst 4, 1) := by decide +kernel
theorem dX6_init_27 : decode cX6_init 27 = .ok (.if_icmp .ge 22, 3) := by decide +kernel
theorem dX6_init_30 : decode cX6_init 30 = .ok (.aload_n 0, 1) := by decide +kernel
theorem dX6_init_31 : decode cX6_init 31 = .ok (.getfield 16, 3) := by decide +kernel
theorem dX6_init_34 : decode cX6_init 34 = .ok (.iload_n 1, 1) := by decide +kernel
theorem dX6_init_35 : decode cX6_init 35 = .ok (.new 7, 3) := by decide +kernel
theorem dX6_init_38 : decode cX6_init 38 = .ok (.dup, 1) := by decide +kernel
theorem dX6_init_39 : decode cX6_init 39 = .ok (.invokespecial 9, 3) := by decide +kernel
theorem dX6_init_42 : decode cX6_init 42 = .ok (.aastore, 1) := by decide +kernel
theorem dX6_init_43 : decode cX6_init 43 = .ok (.iinc 1 1, 3) := by decide +kernel
theorem dX6_init_46 : decode cX6_init 46 = .ok (.goto (-21), 3) := by decide +kernel
theorem dX6_init_49 : decode cX6_init 49 = .ok (.aload_n 0, 1) := by decide +kernel
theorem dX6_init_50 : decode cX6_init 50 = .ok (.new 7, 3) := by decide +kernel
theorem dX6_init_53 : decode cX6_init 53 = .ok (.dup, 1) := by decide +kernel
theorem dX6_init_54 : decode cX6_init 54 = .ok (.invokespecial 9, 3) := by decide +kernel
theorem dX6_init_57 : decode cX6_init 57 = .ok (.putfield 20, 3) := by decide +kernel
theorem dX6_init_60 : decode cX6_init 60 = .ok (.aload_n 0, 1) := by decide +kernel
theorem dX6_init_61 : decode cX6_init 61 = .ok (.new 23, 3) := by decide +kernel
theorem dX6_init_64 : decode cX6_init 64 = .ok (.dup, 1) := by decide +kernel
theorem dX6_init_65 : decode cX6_init 65 = .ok (.invokespecial 25, 3) := by decide +kernel
theorem dX6_init_68 : decode cX6_init 68 = .ok (.putfield 26, 3) := by decide +kernel
theorem dX6_init_71 : decode cX6_init 71 = .ok (.aload_n 0, 1) := by decide +kernel
theorem dX6_init_72 : decode cX6_init 72 = .ok (.bipush 15, 2) := by decide +kernel
theorem dX6_init_74 : decode cX6_init 74 = .ok (.newarray .int, 2) := by decide +kernel
theorem dX6_init_76 : decode cX6_init 76 = .ok (.putfield 30, 3) := by decide +kernel
theorem dX6_init_79 : decode cX6_init 79 = .ok (.aload_n 0, 1) := by decide +kernel
theorem dX6_init_80 : decode cX6_init 80 = .ok (.iconst 0, 1) := by decide +kernel
theorem dX6_init_81 : decode cX6_init 81 = .ok (.putfield 34, 3) := by decide +kernel
theorem dX6_init_84 : decode cX6_init 84 = .ok (.aload_n 0, 1) := by decide +kernel
theorem dX6_init_85 : decode cX6_init 85 = .ok (.iconst 0, 1) := by decide +kernel
theorem dX6_init_86 : decode cX6_init 86 = .ok (.putfield 38, 3) := by decide +kernel
theorem dX6_init_89 : decode cX6_init 89 = .ok (.return_, 1) := by decide +kernel
theorem dX6_push_0 : decode cX6_push 0 = .ok (.iload_n 1, 1) := by decide +kernel
theorem dX6_push_1 : decode cX6_push 1 = .ok (.invokestatic 42, 3) := by decide +kernel
theorem dX6_push_4 : decode cX6_push 4 = .ok (.ifCond .ne 5, 3) := by decide +kernel
theorem dX6_push_7 : decode cX6_push 7 = .ok (.iconst (-1), 1) := by decide +kernel
theorem dX6_push_8 : decode cX6_push 8 = .ok (.ireturn, 1) := by decide +kernel
theorem dX6_push_9 : decode cX6_push 9 = .ok (.aload_n 0, 1) := by decide +kernel
theorem dX6_push_10 : decode cX6_push 10 = .ok (.getfield 26, 3) := by decide +kernel
theorem dX6_push_13 : decode cX6_push 13 = .ok (.invokevirtual 46, 3) := by decide +kernel
theorem dX6_push_16 : decode cX6_push 16 = .ok (.istore_n 2, 1) := by decide +kernel
theorem dX6_push_17 : decode cX6_push 17 = .ok (.iload_n 2, 1) := by decide +kernel
theorem dX6_push_18 : decode cX6_push 18 = .ok (.iconst (-1), 1) := by decide +kernel
theorem dX6_push_19 : decode cX6_push 19 = .ok (.if_icmp .eq 8, 3) := by decide +kernel
theorem dX6_push_22 : decode cX6_push 22 = .ok (.bipush (-100), 2) := by decide +kernel
theorem dX6_push_24 : decode cX6_push 24 = .ok (.iload_n 2, 1) := by decide +kernel
theorem dX6_push_25 : decode cX6_push 25 = .ok (.isub, 1) := by decide +kernel
theorem dX6_push_26 : decode cX6_push 26 = .ok (.ireturn, 1) := by decide +kernel
theorem dX6_push_27 : decode cX6_push 27 = .ok (.aload_n 0, 1) := by decide +kernel
theorem dX6_push_28 : decode cX6_push 28 = .ok (.getfield 10, 3) := by decide +kernel
theorem dX6_push_31 : decode cX6_push 31 = .ok (.getfield 50, 3) := by decide +kernel
theorem dX6_push_34 : decode cX6_push 34 = .ok (.iload_n 1, 1) := by decide +kernel
theorem dX6_push_35 : decode cX6_push 35 = .ok (.aaload, 1) := by decide +kernel
theorem dX6_push_36 : decode cX6_push 36 = .ok (.astore_n 3, 1) := by decide +kernel
theorem dX6_push_37 : decode cX6_push 37 = .ok (.aload_n 3, 1) := by decide +kernel
theorem dX6_push_38 : decode cX6_push 38 = .ok (.getfield 54, 3) := by decide +kernel
theorem dX6_push_41 : decode cX6_push 41 = .ok (.iconst 4, 1) := by decide +kernel
theorem dX6_push_42 : decode cX6_push 42 = .ok (.if_icmp .lt 6, 3) := by decide +kernel
theorem dX6_push_45 : decode cX6_push 45 = .ok (.bipush (-3), 2) := by decide +kernel
theorem dX6_push_47 : decode cX6_push 47 = .ok (.ireturn, 1) := by decide +kernel
theorem dX6_push_48 : decode cX6_push 48 = .ok (.aload_n 0, 1) := by decide +kernel
theorem dX6_push_49 : decode cX6_push 49 = .ok (.invokevirtual 59, 3) := by decide +kernel
theorem dX6_push_52 : decode cX6_push 52 = .ok (.aload_n 3, 1) := by decide +kernel
theorem dX6_push_53 : decode cX6_push 53 = .ok (.aload_n 0, 1) := by decide +kernel
theorem dX6_push_54 : decode cX6_push 54 = .ok (.getfield 26, 3) := by decide +kernel
theorem dX6_push_57 : decode cX6_push 57 = .ok (.getfield 62, 3) := by decide +kernel
theorem dX6_push_60 : decode cX6_push 60 = .ok (.invokevirtual 65, 3) := by decide +kernel
theorem dX6_push_63 : decode cX6_push 63 = .ok (.aload_n 3, 1) := by decide +kernel
theorem dX6_push_64 : decode cX6_push 64 = .ok (.getfield 54, 3) := by decide +kernel
theorem dX6_push_67 : decode cX6_push 67 = .ok (.ireturn, 1) := by decide +kernel
theorem dX6_pop_0 : decode cX6_pop 0 = .ok (.iload_n 1, 1) := by decide +kernel
theorem dX6_pop_1 : decode cX6_pop 1 = .ok (.invokestatic 42, 3) := by decide +kernel
theorem dX6_pop_4 : decode cX6_pop 4 = .ok (.ifCond .ne 5, 3) := by decide +kernel
theorem dX6_pop_7 : decode cX6_pop 7 = .ok (.iconst (-1), 1) := by decide +kernel
theorem dX6_pop_8 : decode cX6_pop 8 = .ok (.ireturn, 1) := by decide +kernel
theorem dX6_pop_9 : decode cX6_pop 9 = .ok (.aload_n 0, 1) := by decide +kernel
theorem dX6_pop_10 : decode cX6_pop 10 = .ok (.getfield 10, 3) := by decide +kernel
theorem dX6_pop_13 : decode cX6_pop 13 = .ok (.getfield 50, 3) := by decide +kernel
theorem dX6_pop_16 : decode cX6_pop 16 = .ok (.iload_n 1, 1) := by decide +kernel
theorem dX6_pop_17 : decode cX6_pop 17 = .ok (.aaload, 1) := by decide +kernel
theorem dX6_pop_18 : decode cX6_pop 18 = .ok (.astore_n 2, 1) := by decide +kernel
theorem dX6_pop_19 : decode cX6_pop 19 = .ok (.aload_n 2, 1) := by decide +kernel
theorem dX6_pop_20 : decode cX6_pop 20 = .ok (.getfield 54, 3) := by decide +kernel
theorem dX6_pop_23 : decode cX6_pop 23 = .ok (.ifCond .gt 6, 3) := by decide +kernel
theorem dX6_pop_26 : decode cX6_pop 26 = .ok (.bipush (-5), 2) := by decide +kernel
theorem dX6_pop_28 : decode cX6_pop 28 = .ok (.ireturn, 1) := by decide +kernel
theorem dX6_pop_29 : decode cX6_pop 29 = .ok (.aload_n 0, 1) := by decide +kernel
theorem dX6_pop_30 : decode cX6_pop 30 = .ok (.invokevirtual 59, 3) := by decide +kernel
theorem dX6_pop_33 : decode cX6_pop 33 = .ok (.aload_n 2, 1) := by decide +kernel
theorem dX6_pop_34 : decode cX6_pop 34 = .ok (.invokevirtual 69, 3) := by decide +kernel
theorem dX6_pop_37 : decode cX6_pop 37 = .ok (.ireturn, 1) := by decide +kernel
theorem dX6_turn_0 : decode cX6_turn 0 = .ok (.aload_n 0, 1) := by decide +kernel
theorem dX6_turn_1 : decode cX6_turn 1 = .ok (.iload_n 1, 1) := by decide +kernel
theorem dX6_turn_2 : decode cX6_turn 2 = .ok (.iload_n 2, 1) := by decide +kernel
theorem dX6_turn_3 : decode cX6_turn 3 = .ok (.invokevirtual 72, 3) := by decide +kernel
theorem dX6_turn_6 : decode cX6_turn 6 = .ok (.ifCond .ne 5, 3) := by decide +kernel
theorem dX6_turn_9 : decode cX6_turn 9 = .ok (.iconst (-1), 1) := by decide +kernel
theorem dX6_turn_10 : decode cX6_turn 10 = .ok (.ireturn, 1) := by decide +kernel
theorem dX6_turn_11 : decode cX6_turn 11 = .ok (.aload_n 0, 1) := by decide +kernel
theorem dX6_turn_12 : decode cX6_turn 12 = .ok (.getfield 10, 3) := by decide +kernel
theorem dX6_turn_15 : decode cX6_turn 15 = .ok (.getfield 50, 3) := by decide +kernel
theorem dX6_turn_18 : decode cX6_turn 18 = .ok (.iload_n 1, 1) := by decide +kernel
theorem dX6_turn_19 : decode cX6_turn 19 = .ok (.aaload, 1) := by decide +kernel
theorem dX6_turn_20 : decode cX6_turn 20 = .ok (.astore 4, 2) := by decide +kernel
theorem dX6_turn_22 : decode cX6_turn 22 = .ok (.aload 4, 2) := by decide +kernel
theorem dX6_turn_24 : decode cX6_turn 24 = .ok (.getfield 76, 3) := by decide +kernel
theorem dX6_turn_27 : decode cX6_turn 27 = .ok (.iload_n 2, 1) := by decide +kernel
theorem dX6_turn_28 : decode cX6_turn 28 = .ok (.baload, 1) := by decide +kernel
theorem dX6_turn_29 : decode cX6_turn 29 = .ok (.iload_n 3, 1) := by decide +kernel
theorem dX6_turn_30 : decode cX6_turn 30 = .ok (.if_icmp .ne 6, 3) := by decide +kernel
theorem dX6_turn_33 : decode cX6_turn 33 = .ok (.bipush (-5), 2) := by decide +kernel
theorem dX6_turn_35 : decode cX6_turn 35 = .ok (.ireturn, 1) := by decide +kernel
theorem dX6_turn_36 : decode cX6_turn 36 = .ok (.aload_n 0, 1) := by decide +kernel
theorem dX6_turn_37 : decode cX6_turn 37 = .ok (.invokevirtual 59, 3) := by decide +kernel
theorem dX6_turn_40 : decode cX6_turn 40 = .ok (.aload 4, 2) := by decide +kernel
theorem dX6_turn_42 : decode cX6_turn 42 = .ok (.getfield 76, 3) := by decide +kernel
theorem dX6_turn_45 : decode cX6_turn 45 = .ok (.iload_n 2, 1) := by decide +kernel
theorem dX6_turn_46 : decode cX6_turn 46 = .ok (.iload_n 3, 1) := by decide +kernel
theorem dX6_turn_47 : decode cX6_turn 47 = .ok (.bastore, 1) := by decide +kernel
theorem dX6_turn_48 : decode cX6_turn 48 = .ok (.aload 4, 2) := by decide +kernel
theorem dX6_turn_50 : decode cX6_turn 50 = .ok (.invokevirtual 80, 3) := by decide +kernel
theorem dX6_turn_53 : decode cX6_turn 53 = .ok (.ireturn, 1) := by decide +kernel
theorem dX6_lift_0 : decode cX6_lift 0 = .ok (.aload_n 0, 1) := by decide +kernel
theorem dX6_lift_1 : decode cX6_lift 1 = .ok (.iload_n 1, 1) := by decide +kernel
theorem dX6_lift_2 : decode cX6_lift 2 = .ok (.iload_n 2, 1) := by decide +kernel
theorem dX6_lift_3 : decode cX6_lift 3 = .ok (.invokevirtual 72, 3) := by decide +kernel
theorem dX6_lift_6 : decode cX6_lift 6 = .ok (.ifCond .ne 5, 3) := by decide +kernel
theorem dX6_lift_9 : decode cX6_lift 9 = .ok (.iconst (-1), 1) := by decide +kernel
theorem dX6_lift_10 : decode cX6_lift 10 = .ok (.ireturn, 1) := by decide +kernel
theorem dX6_lift_11 : decode cX6_lift 11 = .ok (.aload_n 0, 1) := by decide +kernel
theorem dX6_lift_12 : decode cX6_lift 12 = .ok (.iload_n 1, 1) := by decide +kernel
theorem dX6_lift_13 : decode cX6_lift 13 = .ok (.iload_n 3, 1) := by decide +kernel
theorem dX6_lift_14 : decode cX6_lift 14 = .ok (.invokevirtual 72, 3) := by decide +kernel
theorem dX6_lift_17 : decode cX6_lift 17 = .ok (.ifCond .ne 6, 3) := by decide +kernel
theorem dX6_lift_20 : decode cX6_lift 20 = .ok (.bipush (-2), 2) := by decide +kernel
theorem dX6_lift_22 : decode cX6_lift 22 = .ok (.ireturn, 1) := by decide +kernel
theorem dX6_lift_23 : decode cX6_lift 23 = .ok (.iload_n 2, 1) := by decide +kernel
theorem dX6_lift_24 : decode cX6_lift 24 = .ok (.iload_n 3, 1) := by decide +kernel
theorem dX6_lift_25 : decode cX6_lift 25 = .ok (.if_icmp .ne 6, 3) := by decide +kernel
theorem dX6_lift_28 : decode cX6_lift 28 = .ok (.bipush (-5), 2) := by decide +kernel
theorem dX6_lift_30 : decode cX6_lift 30 = .ok (.ireturn, 1) := by decide +kernel
theorem dX6_lift_31 : decode cX6_lift 31 = .ok (.aload_n 0, 1) := by decide +kernel
theorem dX6_lift_32 : decode cX6_lift 32 = .ok (.invokevirtual 59, 3) := by decide +kernel
theorem dX6_lift_35 : decode cX6_lift 35 = .ok (.aload_n 0, 1) := by decide +kernel
theorem dX6_lift_36 : decode cX6_lift 36 = .ok (.getfield 10, 3) := by decide +kernel
theorem dX6_lift_39 : decode cX6_lift 39 = .ok (.getfield 50, 3) := by decide +kernel
theorem dX6_lift_42 : decode cX6_lift 42 = .ok (.iload_n 1, 1) := by decide +kernel
theorem dX6_lift_43 : decode cX6_lift 43 = .ok (.aaload, 1) := by decide +kernel
theorem dX6_lift_44 : decode cX6_lift 44 = .ok (.astore 4, 2) := by decide +kernel
theorem dX6_lift_46 : decode cX6_lift 46 = .ok (.aload 4, 2) := by decide +kernel
theorem dX6_lift_48 : decode cX6_lift 48 = .ok (.iload_n 2, 1) := by decide +kernel
theorem dX6_lift_49 : decode cX6_lift 49 = .ok (.iload_n 3, 1) := by decide +kernel
theorem dX6_lift_50 : decode cX6_lift 50 = .ok (.invokevirtual 83, 3) := by decide +kernel
theorem dX6_lift_53 : decode cX6_lift 53 = .ok (.aload 4, 2) := by decide +kernel
theorem dX6_lift_55 : decode cX6_lift 55 = .ok (.invokevirtual 80, 3) := by decide +kernel
theorem dX6_lift_58 : decode cX6_lift 58 = .ok (.ireturn, 1) := by decide +kernel
theorem dX6_setEntry_0 : decode cX6_setEntry 0 = .ok (.aload_n 0, 1) := by decide +kernel
theorem dX6_setEntry_1 : decode cX6_setEntry 1 = .ok (.iload_n 1, 1) := by decide +kernel
theorem dX6_setEntry_2 : decode cX6_setEntry 2 = .ok (.iload_n 2, 1) := by decide +kernel
theorem dX6_setEntry_3 : decode cX6_setEntry 3 = .ok (.invokevirtual 72, 3) := by decide +kernel
theorem dX6_setEntry_6 : decode cX6_setEntry 6 = .ok (.ifCond .eq 10, 3) := by decide +kernel
theorem dX6_setEntry_9 : decode cX6_setEntry 9 = .ok (.iload_n 3, 1) := by decide +kernel
theorem dX6_setEntry_10 : decode cX6_setEntry 10 = .ok (.invokestatic 87, 3) := by decide +kernel
theorem dX6_setEntry_13 : decode cX6_setEntry 13 = .ok (.ifCond .ne 5, 3) := by decide +kernel
theorem dX6_setEntry_16 : decode cX6_setEntry 16 = .ok (.iconst (-1), 1) := by decide +kernel
theorem dX6_setEntry_17 : decode cX6_setEntry 17 = .ok (.ireturn, 1) := by decide +kernel
theorem dX6_setEntry_18 : decode cX6_setEntry 18 = .ok (.iload 4, 2) := by decide +kernel
theorem dX6_setEntry_20 : decode cX6_setEntry 20 = .ok (.ifCond .lt 10, 3) := by decide +kernel
theorem dX6_setEntry_23 : decode cX6_setEntry 23 = .ok (.iload 4, 2) := by decide +kernel
theorem dX6_setEntry_25 : decode cX6_setEntry 25 = .ok (.bipush 17, 2) := by decide +kernel
theorem dX6_setEntry_27 : decode cX6_setEntry 27 = .ok (.if_icmp .le 6, 3) := by decide +kernel
theorem dX6_setEntry_30 : decode cX6_setEntry 30 = .ok (.bipush (-2), 2) := by decide +kernel
theorem dX6_setEntry_32 : decode cX6_setEntry 32 = .ok (.ireturn, 1) := by decide +kernel
theorem dX6_setEntry_33 : decode cX6_setEntry 33 = .ok (.aload_n 0, 1) := by decide +kernel
theorem dX6_setEntry_34 : decode cX6_setEntry 34 = .ok (.getfield 10, 3) := by decide +kernel
theorem dX6_setEntry_37 : decode cX6_setEntry 37 = .ok (.getfield 50, 3) := by decide +kernel
theorem dX6_setEntry_40 : decode cX6_setEntry 40 = .ok (.iload_n 1, 1) := by decide +kernel
theorem dX6_setEntry_41 : decode cX6_setEntry 41 = .ok (.aaload, 1) := by decide +kernel
theorem dX6_setEntry_42 : decode cX6_setEntry 42 = .ok (.astore 5, 2) := by decide +kernel
theorem dX6_setEntry_44 : decode cX6_setEntry 44 = .ok (.aload 5, 2) := by decide +kernel
theorem dX6_setEntry_46 : decode cX6_setEntry 46 = .ok (.getfield 90, 3) := by decide +kernel
theorem dX6_setEntry_49 : decode cX6_setEntry 49 = .ok (.iload_n 2, 1) := by decide +kernel
theorem dX6_setEntry_50 : decode cX6_setEntry 50 = .ok (.aaload, 1) := by decide +kernel
theorem dX6_setEntry_51 : decode cX6_setEntry 51 = .ok (.iload_n 3, 1) := by decide +kernel
theorem dX6_setEntry_52 : decode cX6_setEntry 52 = .ok (.iaload, 1) := by decide +kernel
theorem dX6_setEntry_53 : decode cX6_setEntry 53 = .ok (.istore 6, 2) := by decide +kernel
theorem dX6_setEntry_55 : decode cX6_setEntry 55 = .ok (.iload 6, 2) := by decide +kernel
theorem dX6_setEntry_57 : decode cX6_setEntry 57 = .ok (.iload 4, 2) := by decide +kernel
theorem dX6_setEntry_59 : decode cX6_setEntry 59 = .ok (.if_icmp .ne 6, 3) := by decide +kernel
theorem dX6_setEntry_62 : decode cX6_setEntry 62 = .ok (.bipush (-5), 2) := by decide +kernel
theorem dX6_setEntry_64 : decode cX6_setEntry 64 = .ok (.ireturn, 1) := by decide +kernel
theorem dX6_setEntry_65 : decode cX6_setEntry 65 = .ok (.aload_n 0, 1) := by decide +kernel
theorem dX6_setEntry_66 : decode cX6_setEntry 66 = .ok (.invokevirtual 59, 3) := by decide +kernel
theorem dX6_setEntry_69 : decode cX6_setEntry 69 = .ok (.aload 5, 2) := by decide +kernel
theorem dX6_setEntry_71 : decode cX6_setEntry 71 = .ok (.getfield 90, 3) := by decide +kernel
theorem dX6_setEntry_74 : decode cX6_setEntry 74 = .ok (.iload_n 2, 1) := by decide +kernel
theorem dX6_setEntry_75 : decode cX6_setEntry 75 = .ok (.aaload, 1) := by decide +kernel
theorem dX6_setEntry_76 : decode cX6_setEntry 76 = .ok (.iload_n 3, 1) := by decide +kernel
theorem dX6_setEntry_77 : decode cX6_setEntry 77 = .ok (.iload 4, 2) := by decide +kernel
theorem dX6_setEntry_79 : decode cX6_setEntry 79 = .ok (.iastore, 1) := by decide +kernel
theorem dX6_setEntry_80 : decode cX6_setEntry 80 = .ok (.aload 5, 2) := by decide +kernel
theorem dX6_setEntry_82 : decode cX6_setEntry 82 = .ok (.invokevirtual 80, 3) := by decide +kernel
theorem dX6_setEntry_85 : decode cX6_setEntry 85 = .ok (.pop, 1) := by decide +kernel
theorem dX6_setEntry_86 : decode cX6_setEntry 86 = .ok (.iload 6, 2) := by decide +kernel
theorem dX6_setEntry_88 : decode cX6_setEntry 88 = .ok (.ireturn, 1) := by decide +kernel
theorem dX6_flatten_0 : decode cX6_flatten 0 = .ok (.iload_n 1, 1) := by decide +kernel
theorem dX6_flatten_1 : decode cX6_flatten 1 = .ok (.invokestatic 42, 3) := by decide +kernel
theorem dX6_flatten_4 : decode cX6_flatten 4 = .ok (.ifCond .ne 5, 3) := by decide +kernel
theorem dX6_flatten_7 : decode cX6_flatten 7 = .ok (.iconst (-1), 1) := by decide +kernel
theorem dX6_flatten_8 : decode cX6_flatten 8 = .ok (.ireturn, 1) := by decide +kernel
theorem dX6_flatten_9 : decode cX6_flatten 9 = .ok (.aload_n 0, 1) := by decide +kernel
theorem dX6_flatten_10 : decode cX6_flatten 10 = .ok (.getfield 10, 3) := by decide +kernel
theorem dX6_flatten_13 : decode cX6_flatten 13 = .ok (.getfield 50, 3) := by decide +kernel
theorem dX6_flatten_16 : decode cX6_flatten 16 = .ok (.iload_n 1, 1) := by decide +kernel
theorem dX6_flatten_17 : decode cX6_flatten 17 = .ok (.aaload, 1) := by decide +kernel
theorem dX6_flatten_18 : decode cX6_flatten 18 = .ok (.astore_n 2, 1) := by decide +kernel
theorem dX6_flatten_19 : decode cX6_flatten 19 = .ok (.aload_n 2, 1) := by decide +kernel
theorem dX6_flatten_20 : decode cX6_flatten 20 = .ok (.invokevirtual 94, 3) := by decide +kernel
theorem dX6_flatten_23 : decode cX6_flatten 23 = .ok (.ifCond .eq 6, 3) := by decide +kernel
theorem dX6_flatten_26 : decode cX6_flatten 26 = .ok (.bipush (-5), 2) := by decide +kernel
theorem dX6_flatten_28 : decode cX6_flatten 28 = .ok (.ireturn, 1) := by decide +kernel
theorem dX6_flatten_29 : decode cX6_flatten 29 = .ok (.aload_n 0, 1) := by decide +kernel
theorem dX6_flatten_30 : decode cX6_flatten 30 = .ok (.invokevirtual 59, 3) := by decide +kernel
theorem dX6_flatten_33 : decode cX6_flatten 33 = .ok (.aload_n 2, 1) := by decide +kernel
theorem dX6_flatten_34 : decode cX6_flatten 34 = .ok (.aload_n 2, 1) := by decide +kernel
theorem dX6_flatten_35 : decode cX6_flatten 35 = .ok (.getfield 98, 3) := by decide +kernel
theorem dX6_flatten_38 : decode cX6_flatten 38 = .ok (.invokevirtual 101, 3) := by decide +kernel
theorem dX6_flatten_41 : decode cX6_flatten 41 = .ok (.ireturn, 1) := by decide +kernel
theorem dX6_assign_0 : decode cX6_assign 0 = .ok (.aload_n 0, 1) := by decide +kernel
theorem dX6_assign_1 : decode cX6_assign 1 = .ok (.getfield 26, 3) := by decide +kernel
theorem dX6_assign_4 : decode cX6_assign 4 = .ok (.aload_n 0, 1) := by decide +kernel
theorem dX6_assign_5 : decode cX6_assign 5 = .ok (.getfield 10, 3) := by decide +kernel
theorem dX6_assign_8 : decode cX6_assign 8 = .ok (.invokevirtual 105, 3) := by decide +kernel
theorem dX6_assign_11 : decode cX6_assign 11 = .ok (.istore_n 1, 1) := by decide +kernel
theorem dX6_assign_12 : decode cX6_assign 12 = .ok (.iload_n 1, 1) := by decide +kernel
theorem dX6_assign_13 : decode cX6_assign 13 = .ok (.iconst (-1), 1) := by decide +kernel
theorem dX6_assign_14 : decode cX6_assign 14 = .ok (.if_icmp .eq 8, 3) := by decide +kernel
theorem dX6_assign_17 : decode cX6_assign 17 = .ok (.bipush (-100), 2) := by decide +kernel
theorem dX6_assign_19 : decode cX6_assign 19 = .ok (.iload_n 1, 1) := by decide +kernel
theorem dX6_assign_20 : decode cX6_assign 20 = .ok (.isub, 1) := by decide +kernel
theorem dX6_assign_21 : decode cX6_assign 21 = .ok (.ireturn, 1) := by decide +kernel
theorem dX6_assign_22 : decode cX6_assign 22 = .ok (.aload_n 0, 1) := by decide +kernel
theorem dX6_assign_23 : decode cX6_assign 23 = .ok (.getfield 26, 3) := by decide +kernel
theorem dX6_assign_26 : decode cX6_assign 26 = .ok (.getfield 109, 3) := by decide +kernel
theorem dX6_assign_29 : decode cX6_assign 29 = .ok (.istore_n 2, 1) := by decide +kernel
theorem dX6_assign_30 : decode cX6_assign 30 = .ok (.iload_n 2, 1) := by decide +kernel
theorem dX6_assign_31 : decode cX6_assign 31 = .ok (.invokestatic 42, 3) := by decide +kernel
theorem dX6_assign_34 : decode cX6_assign 34 = .ok (.ifCond .ne 5, 3) := by decide +kernel
theorem dX6_assign_37 : decode cX6_assign 37 = .ok (.iconst (-1), 1) := by decide +kernel
theorem dX6_assign_38 : decode cX6_assign 38 = .ok (.ireturn, 1) := by decide +kernel
theorem dX6_assign_39 : decode cX6_assign 39 = .ok (.aload_n 0, 1) := by decide +kernel
theorem dX6_assign_40 : decode cX6_assign 40 = .ok (.invokevirtual 59, 3) := by decide +kernel
theorem dX6_assign_43 : decode cX6_assign 43 = .ok (.aload_n 0, 1) := by decide +kernel
theorem dX6_assign_44 : decode cX6_assign 44 = .ok (.getfield 10, 3) := by decide +kernel
theorem dX6_assign_47 : decode cX6_assign 47 = .ok (.getfield 50, 3) := by decide +kernel
theorem dX6_assign_50 : decode cX6_assign 50 = .ok (.iload_n 2, 1) := by decide +kernel
theorem dX6_assign_51 : decode cX6_assign 51 = .ok (.aaload, 1) := by decide +kernel
theorem dX6_assign_52 : decode cX6_assign 52 = .ok (.aload_n 0, 1) := by decide +kernel
theorem dX6_assign_53 : decode cX6_assign 53 = .ok (.getfield 26, 3) := by decide +kernel
theorem dX6_assign_56 : decode cX6_assign 56 = .ok (.getfield 62, 3) := by decide +kernel
theorem dX6_assign_59 : decode cX6_assign 59 = .ok (.invokevirtual 101, 3) := by decide +kernel
theorem dX6_assign_62 : decode cX6_assign 62 = .ok (.ireturn, 1) := by decide +kernel
theorem dX6_setRule_0 : decode cX6_setRule 0 = .ok (.iload_n 1, 1) := by decide +kernel
theorem dX6_setRule_1 : decode cX6_setRule 1 = .ok (.ifCond .lt 8, 3) := by decide +kernel
theorem dX6_setRule_4 : decode cX6_setRule 4 = .ok (.iload_n 1, 1) := by decide +kernel
theorem dX6_setRule_5 : decode cX6_setRule 5 = .ok (.iconst 3, 1) := by decide +kernel
theorem dX6_setRule_6 : decode cX6_setRule 6 = .ok (.if_icmp .lt 6, 3) := by decide +kernel
theorem dX6_setRule_9 : decode cX6_setRule 9 = .ok (.bipush (-2), 2) := by decide +kernel
theorem dX6_setRule_11 : decode cX6_setRule 11 = .ok (.ireturn, 1) := by decide +kernel
theorem dX6_setRule_12 : decode cX6_setRule 12 = .ok (.aload_n 0, 1) := by decide +kernel
theorem dX6_setRule_13 : decode cX6_setRule 13 = .ok (.getfield 10, 3) := by decide +kernel
theorem dX6_setRule_16 : decode cX6_setRule 16 = .ok (.getfield 112, 3) := by decide +kernel
theorem dX6_setRule_19 : decode cX6_setRule 19 = .ok (.istore_n 2, 1) := by decide +kernel
theorem dX6_setRule_20 : decode cX6_setRule 20 = .ok (.iload_n 2, 1) := by decide +kernel
theorem dX6_setRule_21 : decode cX6_setRule 21 = .ok (.iload_n 1, 1) := by decide +kernel
theorem dX6_setRule_22 : decode cX6_setRule 22 = .ok (.if_icmp .ne 6, 3) := by decide +kernel
theorem dX6_setRule_25 : decode cX6_setRule 25 = .ok (.bipush (-5), 2) := by decide +kernel
theorem dX6_setRule_27 : decode cX6_setRule 27 = .ok (.ireturn, 1) := by decide +kernel
theorem dX6_setRule_28 : decode cX6_setRule 28 = .ok (.aload_n 0, 1) := by decide +kernel
theorem dX6_setRule_29 : decode cX6_setRule 29 = .ok (.invokevirtual 59, 3) := by decide +kernel
theorem dX6_setRule_32 : decode cX6_setRule 32 = .ok (.aload_n 0, 1) := by decide +kernel
theorem dX6_setRule_33 : decode cX6_setRule 33 = .ok (.getfield 10, 3) := by decide +kernel
theorem dX6_setRule_36 : decode cX6_setRule 36 = .ok (.iload_n 1, 1) := by decide +kernel
theorem dX6_setRule_37 : decode cX6_setRule 37 = .ok (.putfield 112, 3) := by decide +kernel
theorem dX6_setRule_40 : decode cX6_setRule 40 = .ok (.iload_n 2, 1) := by decide +kernel
theorem dX6_setRule_41 : decode cX6_setRule 41 = .ok (.ireturn, 1) := by decide +kernel
theorem dX6_hide_0 : decode cX6_hide 0 = .ok (.iload_n 1, 1) := by decide +kernel
theorem dX6_hide_1 : decode cX6_hide 1 = .ok (.invokestatic 42, 3) := by decide +kernel
theorem dX6_hide_4 : decode cX6_hide 4 = .ok (.ifCond .ne 5, 3) := by decide +kernel
theorem dX6_hide_7 : decode cX6_hide 7 = .ok (.iconst (-1), 1) := by decide +kernel
theorem dX6_hide_8 : decode cX6_hide 8 = .ok (.ireturn, 1) := by decide +kernel
theorem dX6_hide_9 : decode cX6_hide 9 = .ok (.iload_n 2, 1) := by decide +kernel
theorem dX6_hide_10 : decode cX6_hide 10 = .ok (.iconst 1, 1) := by decide +kernel
theorem dX6_hide_11 : decode cX6_hide 11 = .ok (.if_icmp .lt 17, 3) := by decide +kernel
theorem dX6_hide_14 : decode cX6_hide 14 = .ok (.iload_n 2, 1) := by decide +kernel
theorem dX6_hide_15 : decode cX6_hide 15 = .ok (.bipush 63, 2) := by decide +kernel
theorem dX6_hide_17 : decode cX6_hide 17 = .ok (.if_icmp .gt 11, 3) := by decide +kernel
theorem dX6_hide_20 : decode cX6_hide 20 = .ok (.iload_n 2, 1) := by decide +kernel
theorem dX6_hide_21 : decode cX6_hide 21 = .ok (.iload_n 1, 1) := by decide +kernel
theorem dX6_hide_22 : decode cX6_hide 22 = .ok (.ishr, 1) := by decide +kernel
theorem dX6_hide_23 : decode cX6_hide 23 = .ok (.iconst 1, 1) := by decide +kernel
theorem dX6_hide_24 : decode cX6_hide 24 = .ok (.iand, 1) := by decide +kernel
theorem dX6_hide_25 : decode cX6_hide 25 = .ok (.ifCond .ne 6, 3) := by decide +kernel
theorem dX6_hide_28 : decode cX6_hide 28 = .ok (.bipush (-2), 2) := by decide +kernel
theorem dX6_hide_30 : decode cX6_hide 30 = .ok (.ireturn, 1) := by decide +kernel
theorem dX6_hide_31 : decode cX6_hide 31 = .ok (.aload_n 0, 1) := by decide +kernel
theorem dX6_hide_32 : decode cX6_hide 32 = .ok (.invokevirtual 59, 3) := by decide +kernel
theorem dX6_hide_35 : decode cX6_hide 35 = .ok (.aload_n 0, 1) := by decide +kernel
theorem dX6_hide_36 : decode cX6_hide 36 = .ok (.getfield 10, 3) := by decide +kernel
theorem dX6_hide_39 : decode cX6_hide 39 = .ok (.getfield 115, 3) := by decide +kernel
theorem dX6_hide_42 : decode cX6_hide 42 = .ok (.iload_n 1, 1) := by decide +kernel
theorem dX6_hide_43 : decode cX6_hide 43 = .ok (.iload_n 2, 1) := by decide +kernel
theorem dX6_hide_44 : decode cX6_hide 44 = .ok (.aload_n 0, 1) := by decide +kernel
theorem dX6_hide_45 : decode cX6_hide 45 = .ok (.getfield 10, 3) := by decide +kernel
theorem dX6_hide_48 : decode cX6_hide 48 = .ok (.getfield 50, 3) := by decide +kernel
theorem dX6_hide_51 : decode cX6_hide 51 = .ok (.invokevirtual 119, 3) := by decide +kernel
theorem dX6_hide_54 : decode cX6_hide 54 = .ok (.iload_n 2, 1) := by decide +kernel
theorem dX6_hide_55 : decode cX6_hide 55 = .ok (.invokestatic 125, 3) := by decide +kernel
theorem dX6_hide_58 : decode cX6_hide 58 = .ok (.ireturn, 1) := by decide +kernel
theorem dX6_ask_0 : decode cX6_ask 0 = .ok (.iload_n 1, 1) := by decide +kernel
theorem dX6_ask_1 : decode cX6_ask 1 = .ok (.invokestatic 87, 3) := by decide +kernel
theorem dX6_ask_4 : decode cX6_ask 4 = .ok (.ifCond .ne 5, 3) := by decide +kernel
theorem dX6_ask_7 : decode cX6_ask 7 = .ok (.iconst (-1), 1) := by decide +kernel
theorem dX6_ask_8 : decode cX6_ask 8 = .ok (.ireturn, 1) := by decide +kernel
theorem dX6_ask_9 : decode cX6_ask 9 = .ok (.aload_n 0, 1) := by decide +kernel
theorem dX6_ask_10 : decode cX6_ask 10 = .ok (.getfield 10, 3) := by decide +kernel
theorem dX6_ask_13 : decode cX6_ask 13 = .ok (.getfield 115, 3) := by decide +kernel
theorem dX6_ask_16 : decode cX6_ask 16 = .ok (.invokevirtual 131, 3) := by decide +kernel
theorem dX6_ask_19 : decode cX6_ask 19 = .ok (.ifCond .ne 6, 3) := by decide +kernel
theorem dX6_ask_22 : decode cX6_ask 22 = .ok (.bipush (-4), 2) := by decide +kernel
theorem dX6_ask_24 : decode cX6_ask 24 = .ok (.ireturn, 1) := by decide +kernel
theorem dX6_ask_25 : decode cX6_ask 25 = .ok (.aload_n 0, 1) := by decide +kernel
theorem dX6_ask_26 : decode cX6_ask 26 = .ok (.invokevirtual 59, 3) := by decide +kernel
theorem dX6_ask_29 : decode cX6_ask 29 = .ok (.aload_n 0, 1) := by decide +kernel
theorem dX6_ask_30 : decode cX6_ask 30 = .ok (.getfield 10, 3) := by decide +kernel
theorem dX6_ask_33 : decode cX6_ask 33 = .ok (.getfield 115, 3) := by decide +kernel
theorem dX6_ask_36 : decode cX6_ask 36 = .ok (.iload_n 1, 1) := by decide +kernel
theorem dX6_ask_37 : decode cX6_ask 37 = .ok (.invokevirtual 134, 3) := by decide +kernel
theorem dX6_ask_40 : decode cX6_ask 40 = .ok (.ireturn, 1) := by decide +kernel
theorem dX6_type_0 : decode cX6_type 0 = .ok (.aload_n 0, 1) := by decide +kernel
theorem dX6_type_1 : decode cX6_type 1 = .ok (.getfield 26, 3) := by decide +kernel
theorem dX6_type_4 : decode cX6_type 4 = .ok (.getfield 137, 3) := by decide +kernel
theorem dX6_type_7 : decode cX6_type 7 = .ok (.iload_n 1, 1) := by decide +kernel
theorem dX6_type_8 : decode cX6_type 8 = .ok (.invokevirtual 141, 3) := by decide +kernel
theorem dX6_type_11 : decode cX6_type 11 = .ok (.ifCond .eq 16, 3) := by decide +kernel
theorem dX6_type_14 : decode cX6_type 14 = .ok (.aload_n 0, 1) := by decide +kernel
theorem dX6_type_15 : decode cX6_type 15 = .ok (.getfield 26, 3) := by decide +kernel
theorem dX6_type_18 : decode cX6_type 18 = .ok (.getfield 137, 3) := by decide +kernel
theorem dX6_type_21 : decode cX6_type 21 = .ok (.getfield 147, 3) := by decide +kernel
theorem dX6_type_24 : decode cX6_type 24 = .ok (.goto 5, 3) := by decide +kernel
theorem dX6_type_27 : decode cX6_type 27 = .ok (.bipush (-3), 2) := by decide +kernel
theorem dX6_type_29 : decode cX6_type 29 = .ok (.ireturn, 1) := by decide +kernel
theorem dX6_clearText_0 : decode cX6_clearText 0 = .ok (.aload_n 0, 1) := by decide +kernel
theorem dX6_clearText_1 : decode cX6_clearText 1 = .ok (.getfield 26, 3) := by decide +kernel
theorem dX6_clearText_4 : decode cX6_clearText 4 = .ok (.getfield 137, 3) := by decide +kernel
theorem dX6_clearText_7 : decode cX6_clearText 7 = .ok (.getfield 147, 3) := by decide +kernel
theorem dX6_clearText_10 : decode cX6_clearText 10 = .ok (.istore_n 1, 1) := by decide +kernel
theorem dX6_clearText_11 : decode cX6_clearText 11 = .ok (.aload_n 0, 1) := by decide +kernel
theorem dX6_clearText_12 : decode cX6_clearText 12 = .ok (.getfield 26, 3) := by decide +kernel
theorem dX6_clearText_15 : decode cX6_clearText 15 = .ok (.getfield 137, 3) := by decide +kernel
theorem dX6_clearText_18 : decode cX6_clearText 18 = .ok (.iconst 0, 1) := by decide +kernel
theorem dX6_clearText_19 : decode cX6_clearText 19 = .ok (.putfield 147, 3) := by decide +kernel
theorem dX6_clearText_22 : decode cX6_clearText 22 = .ok (.iload_n 1, 1) := by decide +kernel
theorem dX6_clearText_23 : decode cX6_clearText 23 = .ok (.ireturn, 1) := by decide +kernel
theorem dX6_undo_0 : decode cX6_undo 0 = .ok (.aload_n 0, 1) := by decide +kernel
theorem dX6_undo_1 : decode cX6_undo 1 = .ok (.getfield 34, 3) := by decide +kernel
theorem dX6_undo_4 : decode cX6_undo 4 = .ok (.ifCond .le 11, 3) := by decide +kernel
theorem dX6_undo_7 : decode cX6_undo 7 = .ok (.aload_n 0, 1) := by decide +kernel
theorem dX6_undo_8 : decode cX6_undo 8 = .ok (.getfield 34, 3) := by decide +kernel
theorem dX6_undo_11 : decode cX6_undo 11 = .ok (.iconst 4, 1) := by decide +kernel
theorem dX6_undo_12 : decode cX6_undo 12 = .ok (.if_icmp .le 6, 3) := by decide +kernel
theorem dX6_undo_15 : decode cX6_undo 15 = .ok (.bipush (-5), 2) := by decide +kernel
theorem dX6_undo_17 : decode cX6_undo 17 = .ok (.ireturn, 1) := by decide +kernel
theorem dX6_undo_18 : decode cX6_undo 18 = .ok (.aload_n 0, 1) := by decide +kernel
theorem dX6_undo_19 : decode cX6_undo 19 = .ok (.dup, 1) := by decide +kernel
theorem dX6_undo_20 : decode cX6_undo 20 = .ok (.getfield 34, 3) := by decide +kernel
theorem dX6_undo_23 : decode cX6_undo 23 = .ok (.iconst 1, 1) := by decide +kernel
theorem dX6_undo_24 : decode cX6_undo 24 = .ok (.isub, 1) := by decide +kernel
theorem dX6_undo_25 : decode cX6_undo 25 = .ok (.putfield 34, 3) := by decide +kernel
theorem dX6_undo_28 : decode cX6_undo 28 = .ok (.aload_n 0, 1) := by decide +kernel
theorem dX6_undo_29 : decode cX6_undo 29 = .ok (.getfield 10, 3) := by decide +kernel
theorem dX6_undo_32 : decode cX6_undo 32 = .ok (.aload_n 0, 1) := by decide +kernel
theorem dX6_undo_33 : decode cX6_undo 33 = .ok (.getfield 16, 3) := by decide +kernel
theorem dX6_undo_36 : decode cX6_undo 36 = .ok (.aload_n 0, 1) := by decide +kernel
theorem dX6_undo_37 : decode cX6_undo 37 = .ok (.getfield 34, 3) := by decide +kernel
theorem dX6_undo_40 : decode cX6_undo 40 = .ok (.aaload, 1) := by decide +kernel
theorem dX6_undo_41 : decode cX6_undo 41 = .ok (.invokevirtual 150, 3) := by decide +kernel
theorem dX6_undo_44 : decode cX6_undo 44 = .ok (.aload_n 0, 1) := by decide +kernel
theorem dX6_undo_45 : decode cX6_undo 45 = .ok (.getfield 34, 3) := by decide +kernel
theorem dX6_undo_48 : decode cX6_undo 48 = .ok (.ireturn, 1) := by decide +kernel
theorem dX6_keep_0 : decode cX6_keep 0 = .ok (.aload_n 0, 1) := by decide +kernel
theorem dX6_keep_1 : decode cX6_keep 1 = .ok (.getfield 20, 3) := by decide +kernel
theorem dX6_keep_4 : decode cX6_keep 4 = .ok (.aload_n 0, 1) := by decide +kernel
theorem dX6_keep_5 : decode cX6_keep 5 = .ok (.getfield 10, 3) := by decide +kernel
theorem dX6_keep_8 : decode cX6_keep 8 = .ok (.invokevirtual 150, 3) := by decide +kernel
theorem dX6_keep_11 : decode cX6_keep 11 = .ok (.aload_n 0, 1) := by decide +kernel
theorem dX6_keep_12 : decode cX6_keep 12 = .ok (.iconst 1, 1) := by decide +kernel
theorem dX6_keep_13 : decode cX6_keep 13 = .ok (.putfield 38, 3) := by decide +kernel
theorem dX6_keep_16 : decode cX6_keep 16 = .ok (.aload_n 0, 1) := by decide +kernel
theorem dX6_keep_17 : decode cX6_keep 17 = .ok (.getfield 10, 3) := by decide +kernel
theorem dX6_keep_20 : decode cX6_keep 20 = .ok (.invokevirtual 154, 3) := by decide +kernel
theorem dX6_keep_23 : decode cX6_keep 23 = .ok (.ireturn, 1) := by decide +kernel
theorem dX6_restore_0 : decode cX6_restore 0 = .ok (.aload_n 0, 1) := by decide +kernel
theorem dX6_restore_1 : decode cX6_restore 1 = .ok (.getfield 38, 3) := by decide +kernel
theorem dX6_restore_4 : decode cX6_restore 4 = .ok (.ifCond .ne 6, 3) := by decide +kernel
theorem dX6_restore_7 : decode cX6_restore 7 = .ok (.bipush (-5), 2) := by decide +kernel
theorem dX6_restore_9 : decode cX6_restore 9 = .ok (.ireturn, 1) := by decide +kernel
theorem dX6_restore_10 : decode cX6_restore 10 = .ok (.aload_n 0, 1) := by decide +kernel
theorem dX6_restore_11 : decode cX6_restore 11 = .ok (.invokevirtual 59, 3) := by decide +kernel
theorem dX6_restore_14 : decode cX6_restore 14 = .ok (.aload_n 0, 1) := by decide +kernel
theorem dX6_restore_15 : decode cX6_restore 15 = .ok (.getfield 10, 3) := by decide +kernel
theorem dX6_restore_18 : decode cX6_restore 18 = .ok (.aload_n 0, 1) := by decide +kernel
theorem dX6_restore_19 : decode cX6_restore 19 = .ok (.getfield 20, 3) := by decide +kernel
theorem dX6_restore_22 : decode cX6_restore 22 = .ok (.invokevirtual 150, 3) := by decide +kernel
theorem dX6_restore_25 : decode cX6_restore 25 = .ok (.aload_n 0, 1) := by decide +kernel
theorem dX6_restore_26 : decode cX6_restore 26 = .ok (.getfield 10, 3) := by decide +kernel
theorem dX6_restore_29 : decode cX6_restore 29 = .ok (.invokevirtual 154, 3) := by decide +kernel
theorem dX6_restore_32 : decode cX6_restore 32 = .ok (.ireturn, 1) := by decide +kernel
theorem dX6_get_0 : decode cX6_get 0 = .ok (.iload_n 1, 1) := by decide +kernel
theorem dX6_get_1 : decode cX6_get 1 = .ok (.invokestatic 42, 3) := by decide +kernel
theorem dX6_get_4 : decode cX6_get 4 = .ok (.ifCond .eq 10, 3) := by decide +kernel
theorem dX6_get_7 : decode cX6_get 7 = .ok (.iload_n 2, 1) := by decide +kernel
theorem dX6_get_8 : decode cX6_get 8 = .ok (.invokestatic 87, 3) := by decide +kernel
theorem dX6_get_11 : decode cX6_get 11 = .ok (.ifCond .ne 5, 3) := by decide +kernel
theorem dX6_get_14 : decode cX6_get 14 = .ok (.iconst (-1), 1) := by decide +kernel
theorem dX6_get_15 : decode cX6_get 15 = .ok (.ireturn, 1) := by decide +kernel
theorem dX6_get_16 : decode cX6_get 16 = .ok (.aload_n 0, 1) := by decide +kernel
theorem dX6_get_17 : decode cX6_get 17 = .ok (.getfield 10, 3) := by decide +kernel
theorem dX6_get_20 : decode cX6_get 20 = .ok (.getfield 50, 3) := by decide +kernel
theorem dX6_get_23 : decode cX6_get 23 = .ok (.iload_n 1, 1) := by decide +kernel
theorem dX6_get_24 : decode cX6_get 24 = .ok (.aaload, 1) := by decide +kernel
theorem dX6_get_25 : decode cX6_get 25 = .ok (.getfield 98, 3) := by decide +kernel
theorem dX6_get_28 : decode cX6_get 28 = .ok (.iload_n 2, 1) := by decide +kernel
theorem dX6_get_29 : decode cX6_get 29 = .ok (.iaload, 1) := by decide +kernel
theorem dX6_get_30 : decode cX6_get 30 = .ok (.invokestatic 157, 3) := by decide +kernel
theorem dX6_get_33 : decode cX6_get 33 = .ok (.ireturn, 1) := by decide +kernel
theorem dX6_tells_0 : decode cX6_tells 0 = .ok (.iload_n 1, 1) := by decide +kernel
theorem dX6_tells_1 : decode cX6_tells 1 = .ok (.invokestatic 42, 3) := by decide +kernel
theorem dX6_tells_4 : decode cX6_tells 4 = .ok (.ifCond .eq 10, 3) := by decide +kernel
theorem dX6_tells_7 : decode cX6_tells 7 = .ok (.iload_n 2, 1) := by decide +kernel
theorem dX6_tells_8 : decode cX6_tells 8 = .ok (.invokestatic 87, 3) := by decide +kernel
theorem dX6_tells_11 : decode cX6_tells 11 = .ok (.ifCond .ne 5, 3) := by decide +kernel
theorem dX6_tells_14 : decode cX6_tells 14 = .ok (.iconst (-1), 1) := by decide +kernel
theorem dX6_tells_15 : decode cX6_tells 15 = .ok (.ireturn, 1) := by decide +kernel
theorem dX6_tells_16 : decode cX6_tells 16 = .ok (.aload_n 0, 1) := by decide +kernel
theorem dX6_tells_17 : decode cX6_tells 17 = .ok (.getfield 10, 3) := by decide +kernel
theorem dX6_tells_20 : decode cX6_tells 20 = .ok (.getfield 50, 3) := by decide +kernel
theorem dX6_tells_23 : decode cX6_tells 23 = .ok (.iload_n 1, 1) := by decide +kernel
theorem dX6_tells_24 : decode cX6_tells 24 = .ok (.aaload, 1) := by decide +kernel
theorem dX6_tells_25 : decode cX6_tells 25 = .ok (.iload_n 2, 1) := by decide +kernel
theorem dX6_tells_26 : decode cX6_tells 26 = .ok (.invokevirtual 160, 3) := by decide +kernel
theorem dX6_tells_29 : decode cX6_tells 29 = .ok (.istore_n 3, 1) := by decide +kernel
theorem dX6_tells_30 : decode cX6_tells 30 = .ok (.iload_n 3, 1) := by decide +kernel
theorem dX6_tells_31 : decode cX6_tells 31 = .ok (.iconst (-1), 1) := by decide +kernel
theorem dX6_tells_32 : decode cX6_tells 32 = .ok (.if_icmp .ne 8, 3) := by decide +kernel
theorem dX6_tells_35 : decode cX6_tells 35 = .ok (.bipush (-5), 2) := by decide +kernel
theorem dX6_tells_37 : decode cX6_tells 37 = .ok (.goto 4, 3) := by decide +kernel
theorem dX6_tells_40 : decode cX6_tells 40 = .ok (.iload_n 3, 1) := by decide +kernel
theorem dX6_tells_41 : decode cX6_tells 41 = .ok (.ireturn, 1) := by decide +kernel
theorem dX6_map_0 : decode cX6_map 0 = .ok (.iload_n 1, 1) := by decide +kernel
theorem dX6_map_1 : decode cX6_map 1 = .ok (.invokestatic 42, 3) := by decide +kernel
theorem dX6_map_4 : decode cX6_map 4 = .ok (.ifCond .ne 5, 3) := by decide +kernel
theorem dX6_map_7 : decode cX6_map 7 = .ok (.iconst (-1), 1) := by decide +kernel
theorem dX6_map_8 : decode cX6_map 8 = .ok (.ireturn, 1) := by decide +kernel
theorem dX6_map_9 : decode cX6_map 9 = .ok (.aload_n 0, 1) := by decide +kernel
theorem dX6_map_10 : decode cX6_map 10 = .ok (.getfield 10, 3) := by decide +kernel
theorem dX6_map_13 : decode cX6_map 13 = .ok (.getfield 50, 3) := by decide +kernel
theorem dX6_map_16 : decode cX6_map 16 = .ok (.iload_n 1, 1) := by decide +kernel
theorem dX6_map_17 : decode cX6_map 17 = .ok (.aaload, 1) := by decide +kernel
theorem dX6_map_18 : decode cX6_map 18 = .ok (.astore_n 3, 1) := by decide +kernel
theorem dX6_map_19 : decode cX6_map 19 = .ok (.iload_n 2, 1) := by decide +kernel
theorem dX6_map_20 : decode cX6_map 20 = .ok (.tableswitch 123 0 8 #[52, 57, 62, 70, 78, 94, 102, 107, 115], 52) := by decide +kernel
theorem dX6_map_72 : decode cX6_map 72 = .ok (.aload_n 3, 1) := by decide +kernel
theorem dX6_map_73 : decode cX6_map 73 = .ok (.getfield 54, 3) := by decide +kernel
theorem dX6_map_76 : decode cX6_map 76 = .ok (.ireturn, 1) := by decide +kernel
theorem dX6_map_77 : decode cX6_map 77 = .ok (.aload_n 3, 1) := by decide +kernel
theorem dX6_map_78 : decode cX6_map 78 = .ok (.invokevirtual 163, 3) := by decide +kernel
theorem dX6_map_81 : decode cX6_map 81 = .ok (.ireturn, 1) := by decide +kernel
theorem dX6_map_82 : decode cX6_map 82 = .ok (.aload_n 3, 1) := by decide +kernel
theorem dX6_map_83 : decode cX6_map 83 = .ok (.getfield 98, 3) := by decide +kernel
theorem dX6_map_86 : decode cX6_map 86 = .ok (.invokestatic 166, 3) := by decide +kernel
theorem dX6_map_89 : decode cX6_map 89 = .ok (.ireturn, 1) := by decide +kernel
theorem dX6_map_90 : decode cX6_map 90 = .ok (.aload_n 3, 1) := by decide +kernel
theorem dX6_map_91 : decode cX6_map 91 = .ok (.getfield 98, 3) := by decide +kernel
theorem dX6_map_94 : decode cX6_map 94 = .ok (.invokestatic 171, 3) := by decide +kernel
theorem dX6_map_97 : decode cX6_map 97 = .ok (.ireturn, 1) := by decide +kernel
theorem dX6_map_98 : decode cX6_map 98 = .ok (.aload_n 3, 1) := by decide +kernel
theorem dX6_map_99 : decode cX6_map 99 = .ok (.getfield 98, 3) := by decide +kernel
theorem dX6_map_102 : decode cX6_map 102 = .ok (.invokestatic 174, 3) := by decide +kernel
theorem dX6_map_105 : decode cX6_map 105 = .ok (.ifCond .eq 7, 3) := by decide +kernel
theorem dX6_map_108 : decode cX6_map 108 = .ok (.iconst 1, 1) := by decide +kernel
theorem dX6_map_109 : decode cX6_map 109 = .ok (.goto 4, 3) := by decide +kernel
theorem dX6_map_112 : decode cX6_map 112 = .ok (.iconst 0, 1) := by decide +kernel
theorem dX6_map_113 : decode cX6_map 113 = .ok (.ireturn, 1) := by decide +kernel
theorem dX6_map_114 : decode cX6_map 114 = .ok (.aload_n 3, 1) := by decide +kernel
theorem dX6_map_115 : decode cX6_map 115 = .ok (.getfield 98, 3) := by decide +kernel
theorem dX6_map_118 : decode cX6_map 118 = .ok (.invokestatic 178, 3) := by decide +kernel
theorem dX6_map_121 : decode cX6_map 121 = .ok (.ireturn, 1) := by decide +kernel
theorem dX6_map_122 : decode cX6_map 122 = .ok (.aload_n 3, 1) := by decide +kernel
theorem dX6_map_123 : decode cX6_map 123 = .ok (.invokevirtual 181, 3) := by decide +kernel
theorem dX6_map_126 : decode cX6_map 126 = .ok (.ireturn, 1) := by decide +kernel
theorem dX6_map_127 : decode cX6_map 127 = .ok (.aload_n 3, 1) := by decide +kernel
theorem dX6_map_128 : decode cX6_map 128 = .ok (.getfield 98, 3) := by decide +kernel
theorem dX6_map_131 : decode cX6_map 131 = .ok (.invokestatic 184, 3) := by decide +kernel
theorem dX6_map_134 : decode cX6_map 134 = .ok (.ireturn, 1) := by decide +kernel
theorem dX6_map_135 : decode cX6_map 135 = .ok (.aload_n 3, 1) := by decide +kernel
theorem dX6_map_136 : decode cX6_map 136 = .ok (.getfield 98, 3) := by decide +kernel
theorem dX6_map_139 : decode cX6_map 139 = .ok (.invokestatic 187, 3) := by decide +kernel
theorem dX6_map_142 : decode cX6_map 142 = .ok (.ireturn, 1) := by decide +kernel
theorem dX6_map_143 : decode cX6_map 143 = .ok (.bipush (-2), 2) := by decide +kernel
theorem dX6_map_145 : decode cX6_map 145 = .ok (.ireturn, 1) := by decide +kernel
theorem dX6_layer_0 : decode cX6_layer 0 = .ok (.aload_n 0, 1) := by decide +kernel
theorem dX6_layer_1 : decode cX6_layer 1 = .ok (.iload_n 1, 1) := by decide +kernel
theorem dX6_layer_2 : decode cX6_layer 2 = .ok (.iload_n 2, 1) := by decide +kernel
theorem dX6_layer_3 : decode cX6_layer 3 = .ok (.invokevirtual 72, 3) := by decide +kernel
theorem dX6_layer_6 : decode cX6_layer 6 = .ok (.ifCond .ne 5, 3) := by decide +kernel
theorem dX6_layer_9 : decode cX6_layer 9 = .ok (.iconst (-1), 1) := by decide +kernel
theorem dX6_layer_10 : decode cX6_layer 10 = .ok (.ireturn, 1) := by decide +kernel
theorem dX6_layer_11 : decode cX6_layer 11 = .ok (.aload_n 0, 1) := by decide +kernel
theorem dX6_layer_12 : decode cX6_layer 12 = .ok (.getfield 10, 3) := by decide +kernel
theorem dX6_layer_15 : decode cX6_layer 15 = .ok (.getfield 50, 3) := by decide +kernel
theorem dX6_layer_18 : decode cX6_layer 18 = .ok (.iload_n 1, 1) := by decide +kernel
theorem dX6_layer_19 : decode cX6_layer 19 = .ok (.aaload, 1) := by decide +kernel
theorem dX6_layer_20 : decode cX6_layer 20 = .ok (.astore 4, 2) := by decide +kernel
theorem dX6_layer_22 : decode cX6_layer 22 = .ok (.iload_n 3, 1) := by decide +kernel
theorem dX6_layer_23 : decode cX6_layer 23 = .ok (.tableswitch 66 0 3 #[29, 36, 52, 59], 29) := by decide +kernel
theorem dX6_layer_52 : decode cX6_layer 52 = .ok (.aload 4, 2) := by decide +kernel
theorem dX6_layer_54 : decode cX6_layer 54 = .ok (.iload_n 2, 1) := by decide +kernel
theorem dX6_layer_55 : decode cX6_layer 55 = .ok (.invokevirtual 190, 3) := by decide +kernel
theorem dX6_layer_58 : decode cX6_layer 58 = .ok (.ireturn, 1) := by decide +kernel
theorem dX6_layer_59 : decode cX6_layer 59 = .ok (.aload 4, 2) := by decide +kernel
theorem dX6_layer_61 : decode cX6_layer 61 = .ok (.getfield 76, 3) := by decide +kernel
theorem dX6_layer_64 : decode cX6_layer 64 = .ok (.iload_n 2, 1) := by decide +kernel
theorem dX6_layer_65 : decode cX6_layer 65 = .ok (.baload, 1) := by decide +kernel
theorem dX6_layer_66 : decode cX6_layer 66 = .ok (.ifCond .eq 7, 3) := by decide +kernel
theorem dX6_layer_69 : decode cX6_layer 69 = .ok (.iconst 1, 1) := by decide +kernel
theorem dX6_layer_70 : decode cX6_layer 70 = .ok (.goto 4, 3) := by decide +kernel
theorem dX6_layer_73 : decode cX6_layer 73 = .ok (.iconst 0, 1) := by decide +kernel
theorem dX6_layer_74 : decode cX6_layer 74 = .ok (.ireturn, 1) := by decide +kernel
theorem dX6_layer_75 : decode cX6_layer 75 = .ok (.aload 4, 2) := by decide +kernel
theorem dX6_layer_77 : decode cX6_layer 77 = .ok (.iload_n 2, 1) := by decide +kernel
theorem dX6_layer_78 : decode cX6_layer 78 = .ok (.invokevirtual 193, 3) := by decide +kernel
theorem dX6_layer_81 : decode cX6_layer 81 = .ok (.ireturn, 1) := by decide +kernel
theorem dX6_layer_82 : decode cX6_layer 82 = .ok (.aload 4, 2) := by decide +kernel
theorem dX6_layer_84 : decode cX6_layer 84 = .ok (.iload_n 2, 1) := by decide +kernel
theorem dX6_layer_85 : decode cX6_layer 85 = .ok (.invokevirtual 196, 3) := by decide +kernel
theorem dX6_layer_88 : decode cX6_layer 88 = .ok (.ireturn, 1) := by decide +kernel
theorem dX6_layer_89 : decode cX6_layer 89 = .ok (.bipush (-2), 2) := by decide +kernel
theorem dX6_layer_91 : decode cX6_layer 91 = .ok (.ireturn, 1) := by decide +kernel
theorem dX6_entry_0 : decode cX6_entry 0 = .ok (.aload_n 0, 1) := by decide +kernel
theorem dX6_entry_1 : decode cX6_entry 1 = .ok (.iload_n 1, 1) := by decide +kernel
theorem dX6_entry_2 : decode cX6_entry 2 = .ok (.iload_n 2, 1) := by decide +kernel
theorem dX6_entry_3 : decode cX6_entry 3 = .ok (.invokevirtual 72, 3) := by decide +kernel
theorem dX6_entry_6 : decode cX6_entry 6 = .ok (.ifCond .eq 10, 3) := by decide +kernel
theorem dX6_entry_9 : decode cX6_entry 9 = .ok (.iload_n 3, 1) := by decide +kernel
theorem dX6_entry_10 : decode cX6_entry 10 = .ok (.invokestatic 87, 3) := by decide +kernel
theorem dX6_entry_13 : decode cX6_entry 13 = .ok (.ifCond .ne 5, 3) := by decide +kernel
theorem dX6_entry_16 : decode cX6_entry 16 = .ok (.iconst (-1), 1) := by decide +kernel
theorem dX6_entry_17 : decode cX6_entry 17 = .ok (.ireturn, 1) := by decide +kernel
theorem dX6_entry_18 : decode cX6_entry 18 = .ok (.aload_n 0, 1) := by decide +kernel
theorem dX6_entry_19 : decode cX6_entry 19 = .ok (.getfield 10, 3) := by decide +kernel
theorem dX6_entry_22 : decode cX6_entry 22 = .ok (.getfield 50, 3) := by decide +kernel
theorem dX6_entry_25 : decode cX6_entry 25 = .ok (.iload_n 1, 1) := by decide +kernel
theorem dX6_entry_26 : decode cX6_entry 26 = .ok (.aaload, 1) := by decide +kernel
theorem dX6_entry_27 : decode cX6_entry 27 = .ok (.getfield 90, 3) := by decide +kernel
theorem dX6_entry_30 : decode cX6_entry 30 = .ok (.iload_n 2, 1) := by decide +kernel
theorem dX6_entry_31 : decode cX6_entry 31 = .ok (.aaload, 1) := by decide +kernel
theorem dX6_entry_32 : decode cX6_entry 32 = .ok (.iload_n 3, 1) := by decide +kernel
theorem dX6_entry_33 : decode cX6_entry 33 = .ok (.iaload, 1) := by decide +kernel
theorem dX6_entry_34 : decode cX6_entry 34 = .ok (.ireturn, 1) := by decide +kernel
theorem dX6_follow_0 : decode cX6_follow 0 = .ok (.iload_n 1, 1) := by decide +kernel
theorem dX6_follow_1 : decode cX6_follow 1 = .ok (.invokestatic 42, 3) := by decide +kernel
theorem dX6_follow_4 : decode cX6_follow 4 = .ok (.ifCond .eq 10, 3) := by decide +kernel
theorem dX6_follow_7 : decode cX6_follow 7 = .ok (.iload_n 2, 1) := by decide +kernel
theorem dX6_follow_8 : decode cX6_follow 8 = .ok (.invokestatic 87, 3) := by decide +kernel
theorem dX6_follow_11 : decode cX6_follow 11 = .ok (.ifCond .ne 5, 3) := by decide +kernel
theorem dX6_follow_14 : decode cX6_follow 14 = .ok (.iconst (-1), 1) := by decide +kernel
theorem dX6_follow_15 : decode cX6_follow 15 = .ok (.ireturn, 1) := by decide +kernel
theorem dX6_follow_16 : decode cX6_follow 16 = .ok (.aload_n 0, 1) := by decide +kernel
theorem dX6_follow_17 : decode cX6_follow 17 = .ok (.getfield 10, 3) := by decide +kernel
theorem dX6_follow_20 : decode cX6_follow 20 = .ok (.getfield 50, 3) := by decide +kernel
theorem dX6_follow_23 : decode cX6_follow 23 = .ok (.iload_n 1, 1) := by decide +kernel
theorem dX6_follow_24 : decode cX6_follow 24 = .ok (.aaload, 1) := by decide +kernel
theorem dX6_follow_25 : decode cX6_follow 25 = .ok (.getfield 98, 3) := by decide +kernel
theorem dX6_follow_28 : decode cX6_follow 28 = .ok (.astore 4, 2) := by decide +kernel
theorem dX6_follow_30 : decode cX6_follow 30 = .ok (.iload_n 3, 1) := by decide +kernel
theorem dX6_follow_31 : decode cX6_follow 31 = .ok (.tableswitch 46 0 2 #[25, 32, 39], 25) := by decide +kernel
theorem dX6_follow_56 : decode cX6_follow 56 = .ok (.aload 4, 2) := by decide +kernel
theorem dX6_follow_58 : decode cX6_follow 58 = .ok (.iload_n 2, 1) := by decide +kernel
theorem dX6_follow_59 : decode cX6_follow 59 = .ok (.invokestatic 199, 3) := by decide +kernel
theorem dX6_follow_62 : decode cX6_follow 62 = .ok (.ireturn, 1) := by decide +kernel
theorem dX6_follow_63 : decode cX6_follow 63 = .ok (.aload 4, 2) := by decide +kernel
theorem dX6_follow_65 : decode cX6_follow 65 = .ok (.iload_n 2, 1) := by decide +kernel
theorem dX6_follow_66 : decode cX6_follow 66 = .ok (.invokestatic 203, 3) := by decide +kernel
theorem dX6_follow_69 : decode cX6_follow 69 = .ok (.ireturn, 1) := by decide +kernel
theorem dX6_follow_70 : decode cX6_follow 70 = .ok (.aload 4, 2) := by decide +kernel
theorem dX6_follow_72 : decode cX6_follow 72 = .ok (.iload_n 2, 1) := by decide +kernel
theorem dX6_follow_73 : decode cX6_follow 73 = .ok (.invokestatic 206, 3) := by decide +kernel
theorem dX6_follow_76 : decode cX6_follow 76 = .ok (.ireturn, 1) := by decide +kernel
theorem dX6_follow_77 : decode cX6_follow 77 = .ok (.bipush (-2), 2) := by decide +kernel
theorem dX6_follow_79 : decode cX6_follow 79 = .ok (.ireturn, 1) := by decide +kernel
theorem dX6_after_0 : decode cX6_after 0 = .ok (.iload_n 1, 1) := by decide +kernel
theorem dX6_after_1 : decode cX6_after 1 = .ok (.invokestatic 42, 3) := by decide +kernel
theorem dX6_after_4 : decode cX6_after 4 = .ok (.ifCond .eq 10, 3) := by decide +kernel
theorem dX6_after_7 : decode cX6_after 7 = .ok (.iload_n 2, 1) := by decide +kernel
theorem dX6_after_8 : decode cX6_after 8 = .ok (.invokestatic 87, 3) := by decide +kernel
theorem dX6_after_11 : decode cX6_after 11 = .ok (.ifCond .ne 5, 3) := by decide +kernel
theorem dX6_after_14 : decode cX6_after 14 = .ok (.iconst (-1), 1) := by decide +kernel
theorem dX6_after_15 : decode cX6_after 15 = .ok (.ireturn, 1) := by decide +kernel
theorem dX6_after_16 : decode cX6_after 16 = .ok (.iload_n 3, 1) := by decide +kernel
theorem dX6_after_17 : decode cX6_after 17 = .ok (.ifCond .lt 9, 3) := by decide +kernel
theorem dX6_after_20 : decode cX6_after 20 = .ok (.iload_n 3, 1) := by decide +kernel
theorem dX6_after_21 : decode cX6_after 21 = .ok (.ldc 209, 2) := by decide +kernel
theorem dX6_after_23 : decode cX6_after 23 = .ok (.if_icmp .le 6, 3) := by decide +kernel
theorem dX6_after_26 : decode cX6_after 26 = .ok (.bipush (-2), 2) := by decide +kernel
theorem dX6_after_28 : decode cX6_after 28 = .ok (.ireturn, 1) := by decide +kernel
theorem dX6_after_29 : decode cX6_after 29 = .ok (.aload_n 0, 1) := by decide +kernel
theorem dX6_after_30 : decode cX6_after 30 = .ok (.getfield 10, 3) := by decide +kernel
theorem dX6_after_33 : decode cX6_after 33 = .ok (.getfield 50, 3) := by decide +kernel
theorem dX6_after_36 : decode cX6_after 36 = .ok (.iload_n 1, 1) := by decide +kernel
theorem dX6_after_37 : decode cX6_after 37 = .ok (.aaload, 1) := by decide +kernel
theorem dX6_after_38 : decode cX6_after 38 = .ok (.getfield 98, 3) := by decide +kernel
theorem dX6_after_41 : decode cX6_after 41 = .ok (.iload_n 2, 1) := by decide +kernel
theorem dX6_after_42 : decode cX6_after 42 = .ok (.iload_n 3, 1) := by decide +kernel
theorem dX6_after_43 : decode cX6_after 43 = .ok (.invokestatic 210, 3) := by decide +kernel
theorem dX6_after_46 : decode cX6_after 46 = .ok (.invokestatic 157, 3) := by decide +kernel
theorem dX6_after_49 : decode cX6_after 49 = .ok (.ireturn, 1) := by decide +kernel
theorem dX6_gives_0 : decode cX6_gives 0 = .ok (.iload_n 1, 1) := by decide +kernel
theorem dX6_gives_1 : decode cX6_gives 1 = .ok (.invokestatic 87, 3) := by decide +kernel
theorem dX6_gives_4 : decode cX6_gives 4 = .ok (.ifCond .ne 5, 3) := by decide +kernel
theorem dX6_gives_7 : decode cX6_gives 7 = .ok (.iconst (-1), 1) := by decide +kernel
theorem dX6_gives_8 : decode cX6_gives 8 = .ok (.ireturn, 1) := by decide +kernel
theorem dX6_gives_9 : decode cX6_gives 9 = .ok (.aload_n 0, 1) := by decide +kernel
theorem dX6_gives_10 : decode cX6_gives 10 = .ok (.getfield 26, 3) := by decide +kernel
theorem dX6_gives_13 : decode cX6_gives 13 = .ok (.aload_n 0, 1) := by decide +kernel
theorem dX6_gives_14 : decode cX6_gives 14 = .ok (.getfield 10, 3) := by decide +kernel
theorem dX6_gives_17 : decode cX6_gives 17 = .ok (.invokevirtual 105, 3) := by decide +kernel
theorem dX6_gives_20 : decode cX6_gives 20 = .ok (.istore_n 2, 1) := by decide +kernel
theorem dX6_gives_21 : decode cX6_gives 21 = .ok (.iload_n 2, 1) := by decide +kernel
theorem dX6_gives_22 : decode cX6_gives 22 = .ok (.iconst (-1), 1) := by decide +kernel
theorem dX6_gives_23 : decode cX6_gives 23 = .ok (.if_icmp .eq 8, 3) := by decide +kernel
theorem dX6_gives_26 : decode cX6_gives 26 = .ok (.bipush (-100), 2) := by decide +kernel
theorem dX6_gives_28 : decode cX6_gives 28 = .ok (.iload_n 2, 1) := by decide +kernel
theorem dX6_gives_29 : decode cX6_gives 29 = .ok (.isub, 1) := by decide +kernel
theorem dX6_gives_30 : decode cX6_gives 30 = .ok (.ireturn, 1) := by decide +kernel
theorem dX6_gives_31 : decode cX6_gives 31 = .ok (.aload_n 0, 1) := by decide +kernel
theorem dX6_gives_32 : decode cX6_gives 32 = .ok (.getfield 26, 3) := by decide +kernel
theorem dX6_gives_35 : decode cX6_gives 35 = .ok (.getfield 62, 3) := by decide +kernel
theorem dX6_gives_38 : decode cX6_gives 38 = .ok (.iload_n 1, 1) := by decide +kernel
theorem dX6_gives_39 : decode cX6_gives 39 = .ok (.iaload, 1) := by decide +kernel
theorem dX6_gives_40 : decode cX6_gives 40 = .ok (.invokestatic 157, 3) := by decide +kernel
theorem dX6_gives_43 : decode cX6_gives 43 = .ok (.ireturn, 1) := by decide +kernel
theorem dX6_differ_0 : decode cX6_differ 0 = .ok (.iload_n 1, 1) := by decide +kernel
theorem dX6_differ_1 : decode cX6_differ 1 = .ok (.invokestatic 42, 3) := by decide +kernel
theorem dX6_differ_4 : decode cX6_differ 4 = .ok (.ifCond .eq 10, 3) := by decide +kernel
theorem dX6_differ_7 : decode cX6_differ 7 = .ok (.iload_n 2, 1) := by decide +kernel
theorem dX6_differ_8 : decode cX6_differ 8 = .ok (.invokestatic 42, 3) := by decide +kernel
theorem dX6_differ_11 : decode cX6_differ 11 = .ok (.ifCond .ne 5, 3) := by decide +kernel
theorem dX6_differ_14 : decode cX6_differ 14 = .ok (.iconst (-1), 1) := by decide +kernel
theorem dX6_differ_15 : decode cX6_differ 15 = .ok (.ireturn, 1) := by decide +kernel
theorem dX6_differ_16 : decode cX6_differ 16 = .ok (.aload_n 0, 1) := by decide +kernel
theorem dX6_differ_17 : decode cX6_differ 17 = .ok (.getfield 10, 3) := by decide +kernel
theorem dX6_differ_20 : decode cX6_differ 20 = .ok (.getfield 50, 3) := by decide +kernel
theorem dX6_differ_23 : decode cX6_differ 23 = .ok (.iload_n 1, 1) := by decide +kernel
theorem dX6_differ_24 : decode cX6_differ 24 = .ok (.aaload, 1) := by decide +kernel
theorem dX6_differ_25 : decode cX6_differ 25 = .ok (.getfield 98, 3) := by decide +kernel
theorem dX6_differ_28 : decode cX6_differ 28 = .ok (.aload_n 0, 1) := by decide +kernel
theorem dX6_differ_29 : decode cX6_differ 29 = .ok (.getfield 10, 3) := by decide +kernel
theorem dX6_differ_32 : decode cX6_differ 32 = .ok (.getfield 50, 3) := by decide +kernel
theorem dX6_differ_35 : decode cX6_differ 35 = .ok (.iload_n 2, 1) := by decide +kernel
theorem dX6_differ_36 : decode cX6_differ 36 = .ok (.aaload, 1) := by decide +kernel
theorem dX6_differ_37 : decode cX6_differ 37 = .ok (.getfield 98, 3) := by decide +kernel
theorem dX6_differ_40 : decode cX6_differ 40 = .ok (.invokestatic 214, 3) := by decide +kernel
theorem dX6_differ_43 : decode cX6_differ 43 = .ok (.ireturn, 1) := by decide +kernel
theorem dX6_probes_0 : decode cX6_probes 0 = .ok (.iload_n 1, 1) := by decide +kernel
theorem dX6_probes_1 : decode cX6_probes 1 = .ok (.iconst 1, 1) := by decide +kernel
theorem dX6_probes_2 : decode cX6_probes 2 = .ok (.if_icmp .lt 9, 3) := by decide +kernel
theorem dX6_probes_5 : decode cX6_probes 5 = .ok (.iload_n 1, 1) := by decide +kernel
theorem dX6_probes_6 : decode cX6_probes 6 = .ok (.bipush 63, 2) := by decide +kernel
theorem dX6_probes_8 : decode cX6_probes 8 = .ok (.if_icmp .le 6, 3) := by decide +kernel
theorem dX6_probes_11 : decode cX6_probes 11 = .ok (.bipush (-2), 2) := by decide +kernel
theorem dX6_probes_13 : decode cX6_probes 13 = .ok (.ireturn, 1) := by decide +kernel
theorem dX6_probes_14 : decode cX6_probes 14 = .ok (.aload_n 0, 1) := by decide +kernel
theorem dX6_probes_15 : decode cX6_probes 15 = .ok (.iload_n 1, 1) := by decide +kernel
theorem dX6_probes_16 : decode cX6_probes 16 = .ok (.invokevirtual 218, 3) := by decide +kernel
theorem dX6_probes_19 : decode cX6_probes 19 = .ok (.istore_n 2, 1) := by decide +kernel
theorem dX6_probes_20 : decode cX6_probes 20 = .ok (.iconst 0, 1) := by decide +kernel
theorem dX6_probes_21 : decode cX6_probes 21 = .ok (.istore_n 3, 1) := by decide +kernel
theorem dX6_probes_22 : decode cX6_probes 22 = .ok (.iload_n 3, 1) := by decide +kernel
theorem dX6_probes_23 : decode cX6_probes 23 = .ok (.bipush 16, 2) := by decide +kernel
theorem dX6_probes_25 : decode cX6_probes 25 = .ok (.if_icmp .ge 27, 3) := by decide +kernel
theorem dX6_probes_28 : decode cX6_probes 28 = .ok (.aload_n 0, 1) := by decide +kernel
theorem dX6_probes_29 : decode cX6_probes 29 = .ok (.iload_n 3, 1) := by decide +kernel
theorem dX6_probes_30 : decode cX6_probes 30 = .ok (.iload_n 2, 1) := by decide +kernel
theorem dX6_probes_31 : decode cX6_probes 31 = .ok (.invokevirtual 221, 3) := by decide +kernel
theorem dX6_probes_34 : decode cX6_probes 34 = .ok (.istore 4, 2) := by decide +kernel
theorem dX6_probes_36 : decode cX6_probes 36 = .ok (.iload 4, 2) := by decide +kernel
theorem dX6_probes_38 : decode cX6_probes 38 = .ok (.ldc 225, 2) := by decide +kernel
theorem dX6_probes_40 : decode cX6_probes 40 = .ok (.if_icmp .gt 6, 3) := by decide +kernel
theorem dX6_probes_43 : decode cX6_probes 43 = .ok (.iload 4, 2) := by decide +kernel
theorem dX6_probes_45 : decode cX6_probes 45 = .ok (.ireturn, 1) := by decide +kernel
theorem dX6_probes_46 : decode cX6_probes 46 = .ok (.iinc 3 1, 3) := by decide +kernel
theorem dX6_probes_49 : decode cX6_probes 49 = .ok (.goto (-27), 3) := by decide +kernel
theorem dX6_probes_52 : decode cX6_probes 52 = .ok (.ldc 225, 2) := by decide +kernel
theorem dX6_probes_54 : decode cX6_probes 54 = .ok (.ireturn, 1) := by decide +kernel
theorem dX6_hidden_0 : decode cX6_hidden 0 = .ok (.iload_n 1, 1) := by decide +kernel
theorem dX6_hidden_1 : decode cX6_hidden 1 = .ok (.ifCond .lt 8, 3) := by decide +kernel
theorem dX6_hidden_4 : decode cX6_hidden 4 = .ok (.iload_n 1, 1) := by decide +kernel
theorem dX6_hidden_5 : decode cX6_hidden 5 = .ok (.iconst 5, 1) := by decide +kernel
theorem dX6_hidden_6 : decode cX6_hidden 6 = .ok (.if_icmp .le 6, 3) := by decide +kernel
theorem dX6_hidden_9 : decode cX6_hidden 9 = .ok (.bipush (-2), 2) := by decide +kernel
theorem dX6_hidden_11 : decode cX6_hidden 11 = .ok (.ireturn, 1) := by decide +kernel
theorem dX6_hidden_12 : decode cX6_hidden 12 = .ok (.aload_n 0, 1) := by decide +kernel
theorem dX6_hidden_13 : decode cX6_hidden 13 = .ok (.getfield 10, 3) := by decide +kernel
theorem dX6_hidden_16 : decode cX6_hidden 16 = .ok (.getfield 115, 3) := by decide +kernel
theorem dX6_hidden_19 : decode cX6_hidden 19 = .ok (.astore_n 2, 1) := by decide +kernel
theorem dX6_hidden_20 : decode cX6_hidden 20 = .ok (.aload_n 2, 1) := by decide +kernel
theorem dX6_hidden_21 : decode cX6_hidden 21 = .ok (.invokevirtual 131, 3) := by decide +kernel
theorem dX6_hidden_24 : decode cX6_hidden 24 = .ok (.ifCond .ne 6, 3) := by decide +kernel
theorem dX6_hidden_27 : decode cX6_hidden 27 = .ok (.bipush (-4), 2) := by decide +kernel
theorem dX6_hidden_29 : decode cX6_hidden 29 = .ok (.ireturn, 1) := by decide +kernel
theorem dX6_hidden_30 : decode cX6_hidden 30 = .ok (.iload_n 1, 1) := by decide +kernel
theorem dX6_hidden_31 : decode cX6_hidden 31 = .ok (.tableswitch 48 0 2 #[25, 30, 35], 25) := by decide +kernel
theorem dX6_hidden_56 : decode cX6_hidden 56 = .ok (.aload_n 2, 1) := by decide +kernel
theorem dX6_hidden_57 : decode cX6_hidden 57 = .ok (.getfield 226, 3) := by decide +kernel
theorem dX6_hidden_60 : decode cX6_hidden 60 = .ok (.ireturn, 1) := by decide +kernel
theorem dX6_hidden_61 : decode cX6_hidden 61 = .ok (.aload_n 2, 1) := by decide +kernel
theorem dX6_hidden_62 : decode cX6_hidden 62 = .ok (.getfield 229, 3) := by decide +kernel
theorem dX6_hidden_65 : decode cX6_hidden 65 = .ok (.ireturn, 1) := by decide +kernel
theorem dX6_hidden_66 : decode cX6_hidden 66 = .ok (.aload_n 2, 1) := by decide +kernel
theorem dX6_hidden_67 : decode cX6_hidden 67 = .ok (.invokevirtual 232, 3) := by decide +kernel
theorem dX6_hidden_70 : decode cX6_hidden 70 = .ok (.ifCond .eq 7, 3) := by decide +kernel
theorem dX6_hidden_73 : decode cX6_hidden 73 = .ok (.iconst 1, 1) := by decide +kernel
theorem dX6_hidden_74 : decode cX6_hidden 74 = .ok (.goto 4, 3) := by decide +kernel
theorem dX6_hidden_77 : decode cX6_hidden 77 = .ok (.iconst 0, 1) := by decide +kernel
theorem dX6_hidden_78 : decode cX6_hidden 78 = .ok (.ireturn, 1) := by decide +kernel
theorem dX6_hidden_79 : decode cX6_hidden 79 = .ok (.aload_n 2, 1) := by decide +kernel
theorem dX6_hidden_80 : decode cX6_hidden 80 = .ok (.invokevirtual 232, 3) := by decide +kernel
theorem dX6_hidden_83 : decode cX6_hidden 83 = .ok (.ifCond .eq 8, 3) := by decide +kernel
theorem dX6_hidden_86 : decode cX6_hidden 86 = .ok (.bipush (-5), 2) := by decide +kernel
theorem dX6_hidden_88 : decode cX6_hidden 88 = .ok (.goto 8, 3) := by decide +kernel
theorem dX6_hidden_91 : decode cX6_hidden 91 = .ok (.aload_n 2, 1) := by decide +kernel
theorem dX6_hidden_92 : decode cX6_hidden 92 = .ok (.iload_n 1, 1) := by decide +kernel
theorem dX6_hidden_93 : decode cX6_hidden 93 = .ok (.invokestatic 235, 3) := by decide +kernel
theorem dX6_hidden_96 : decode cX6_hidden 96 = .ok (.ireturn, 1) := by decide +kernel
theorem dX6_split_0 : decode cX6_split 0 = .ok (.iload_n 1, 1) := by decide +kernel
theorem dX6_split_1 : decode cX6_split 1 = .ok (.invokestatic 87, 3) := by decide +kernel
theorem dX6_split_4 : decode cX6_split 4 = .ok (.ifCond .ne 5, 3) := by decide +kernel
theorem dX6_split_7 : decode cX6_split 7 = .ok (.iconst (-1), 1) := by decide +kernel
theorem dX6_split_8 : decode cX6_split 8 = .ok (.ireturn, 1) := by decide +kernel
theorem dX6_split_9 : decode cX6_split 9 = .ok (.iload_n 2, 1) := by decide +kernel
theorem dX6_split_10 : decode cX6_split 10 = .ok (.ifCond .lt 8, 3) := by decide +kernel
theorem dX6_split_13 : decode cX6_split 13 = .ok (.iload_n 2, 1) := by decide +kernel
theorem dX6_split_14 : decode cX6_split 14 = .ok (.iconst 1, 1) := by decide +kernel
theorem dX6_split_15 : decode cX6_split 15 = .ok (.if_icmp .le 6, 3) := by decide +kernel
theorem dX6_split_18 : decode cX6_split 18 = .ok (.bipush (-2), 2) := by decide +kernel
theorem dX6_split_20 : decode cX6_split 20 = .ok (.ireturn, 1) := by decide +kernel
theorem dX6_split_21 : decode cX6_split 21 = .ok (.aload_n 0, 1) := by decide +kernel
theorem dX6_split_22 : decode cX6_split 22 = .ok (.getfield 10, 3) := by decide +kernel
theorem dX6_split_25 : decode cX6_split 25 = .ok (.getfield 115, 3) := by decide +kernel
theorem dX6_split_28 : decode cX6_split 28 = .ok (.invokevirtual 131, 3) := by decide +kernel
theorem dX6_split_31 : decode cX6_split 31 = .ok (.ifCond .ne 6, 3) := by decide +kernel
theorem dX6_split_34 : decode cX6_split 34 = .ok (.bipush (-4), 2) := by decide +kernel
theorem dX6_split_36 : decode cX6_split 36 = .ok (.ireturn, 1) := by decide +kernel
theorem dX6_split_37 : decode cX6_split 37 = .ok (.iload_n 2, 1) := by decide +kernel
theorem dX6_split_38 : decode cX6_split 38 = .ok (.ifCond .ne 17, 3) := by decide +kernel
theorem dX6_split_41 : decode cX6_split 41 = .ok (.aload_n 0, 1) := by decide +kernel
theorem dX6_split_42 : decode cX6_split 42 = .ok (.getfield 10, 3) := by decide +kernel
theorem dX6_split_45 : decode cX6_split 45 = .ok (.getfield 115, 3) := by decide +kernel
theorem dX6_split_48 : decode cX6_split 48 = .ok (.iload_n 1, 1) := by decide +kernel
theorem dX6_split_49 : decode cX6_split 49 = .ok (.invokevirtual 239, 3) := by decide +kernel
theorem dX6_split_52 : decode cX6_split 52 = .ok (.goto 14, 3) := by decide +kernel
theorem dX6_split_55 : decode cX6_split 55 = .ok (.aload_n 0, 1) := by decide +kernel
theorem dX6_split_56 : decode cX6_split 56 = .ok (.getfield 10, 3) := by decide +kernel
theorem dX6_split_59 : decode cX6_split 59 = .ok (.getfield 115, 3) := by decide +kernel
theorem dX6_split_62 : decode cX6_split 62 = .ok (.iload_n 1, 1) := by decide +kernel
theorem dX6_split_63 : decode cX6_split 63 = .ok (.invokevirtual 242, 3) := by decide +kernel
theorem dX6_split_66 : decode cX6_split 66 = .ok (.ireturn, 1) := by decide +kernel
theorem dX6_count_0 : decode cX6_count 0 = .ok (.iload_n 1, 1) := by decide +kernel
theorem dX6_count_1 : decode cX6_count 1 = .ok (.tableswitch 99 0 6 #[43, 51, 59, 67, 75, 83, 88], 43) := by decide +kernel
theorem dX6_count_44 : decode cX6_count 44 = .ok (.aload_n 0, 1) := by decide +kernel
theorem dX6_count_45 : decode cX6_count 45 = .ok (.getfield 10, 3) := by decide +kernel
theorem dX6_count_48 : decode cX6_count 48 = .ok (.getfield 112, 3) := by decide +kernel
theorem dX6_count_51 : decode cX6_count 51 = .ok (.ireturn, 1) := by decide +kernel
theorem dX6_count_52 : decode cX6_count 52 = .ok (.aload_n 0, 1) := by decide +kernel
theorem dX6_count_53 : decode cX6_count 53 = .ok (.getfield 10, 3) := by decide +kernel
theorem dX6_count_56 : decode cX6_count 56 = .ok (.invokevirtual 154, 3) := by decide +kernel
theorem dX6_count_59 : decode cX6_count 59 = .ok (.ireturn, 1) := by decide +kernel
theorem dX6_count_60 : decode cX6_count 60 = .ok (.aload_n 0, 1) := by decide +kernel
theorem dX6_count_61 : decode cX6_count 61 = .ok (.getfield 10, 3) := by decide +kernel
theorem dX6_count_64 : decode cX6_count 64 = .ok (.invokevirtual 245, 3) := by decide +kernel
theorem dX6_count_67 : decode cX6_count 67 = .ok (.ireturn, 1) := by decide +kernel
theorem dX6_count_68 : decode cX6_count 68 = .ok (.aload_n 0, 1) := by decide +kernel
theorem dX6_count_69 : decode cX6_count 69 = .ok (.getfield 10, 3) := by decide +kernel
theorem dX6_count_72 : decode cX6_count 72 = .ok (.invokevirtual 248, 3) := by decide +kernel
theorem dX6_count_75 : decode cX6_count 75 = .ok (.ireturn, 1) := by decide +kernel
theorem dX6_count_76 : decode cX6_count 76 = .ok (.aload_n 0, 1) := by decide +kernel
theorem dX6_count_77 : decode cX6_count 77 = .ok (.getfield 10, 3) := by decide +kernel
theorem dX6_count_80 : decode cX6_count 80 = .ok (.invokevirtual 251, 3) := by decide +kernel
theorem dX6_count_83 : decode cX6_count 83 = .ok (.ireturn, 1) := by decide +kernel
theorem dX6_count_84 : decode cX6_count 84 = .ok (.aload_n 0, 1) := by decide +kernel
theorem dX6_count_85 : decode cX6_count 85 = .ok (.getfield 34, 3) := by decide +kernel
theorem dX6_count_88 : decode cX6_count 88 = .ok (.ireturn, 1) := by decide +kernel
theorem dX6_count_89 : decode cX6_count 89 = .ok (.aload_n 0, 1) := by decide +kernel
theorem dX6_count_90 : decode cX6_count 90 = .ok (.getfield 26, 3) := by decide +kernel
theorem dX6_count_93 : decode cX6_count 93 = .ok (.getfield 137, 3) := by decide +kernel
theorem dX6_count_96 : decode cX6_count 96 = .ok (.getfield 147, 3) := by decide +kernel
theorem dX6_count_99 : decode cX6_count 99 = .ok (.ireturn, 1) := by decide +kernel
theorem dX6_count_100 : decode cX6_count 100 = .ok (.bipush (-2), 2) := by decide +kernel
theorem dX6_count_102 : decode cX6_count 102 = .ok (.ireturn, 1) := by decide +kernel
theorem dX6_isKey_0 : decode cX6_isKey 0 = .ok (.iload_n 0, 1) := by decide +kernel
theorem dX6_isKey_1 : decode cX6_isKey 1 = .ok (.ifCond .lt 13, 3) := by decide +kernel
theorem dX6_isKey_4 : decode cX6_isKey 4 = .ok (.iload_n 0, 1) := by decide +kernel
theorem dX6_isKey_5 : decode cX6_isKey 5 = .ok (.bipush 16, 2) := by decide +kernel
theorem dX6_isKey_7 : decode cX6_isKey 7 = .ok (.if_icmp .ge 7, 3) := by decide +kernel
theorem dX6_isKey_10 : decode cX6_isKey 10 = .ok (.iconst 1, 1) := by decide +kernel
theorem dX6_isKey_11 : decode cX6_isKey 11 = .ok (.goto 4, 3) := by decide +kernel
theorem dX6_isKey_14 : decode cX6_isKey 14 = .ok (.iconst 0, 1) := by decide +kernel
theorem dX6_isKey_15 : decode cX6_isKey 15 = .ok (.ireturn, 1) := by decide +kernel
theorem dX6_isMap_0 : decode cX6_isMap 0 = .ok (.iload_n 0, 1) := by decide +kernel
theorem dX6_isMap_1 : decode cX6_isMap 1 = .ok (.ifCond .lt 13, 3) := by decide +kernel
theorem dX6_isMap_4 : decode cX6_isMap 4 = .ok (.iload_n 0, 1) := by decide +kernel
theorem dX6_isMap_5 : decode cX6_isMap 5 = .ok (.bipush 6, 2) := by decide +kernel
theorem dX6_isMap_7 : decode cX6_isMap 7 = .ok (.if_icmp .ge 7, 3) := by decide +kernel
theorem dX6_isMap_10 : decode cX6_isMap 10 = .ok (.iconst 1, 1) := by decide +kernel
theorem dX6_isMap_11 : decode cX6_isMap 11 = .ok (.goto 4, 3) := by decide +kernel
theorem dX6_isMap_14 : decode cX6_isMap 14 = .ok (.iconst 0, 1) := by decide +kernel
theorem dX6_isMap_15 : decode cX6_isMap 15 = .ok (.ireturn, 1) := by decide +kernel
theorem dX6_isLayer_0 : decode cX6_isLayer 0 = .ok (.iload_n 1, 1) := by decide +kernel
theorem dX6_isLayer_1 : decode cX6_isLayer 1 = .ok (.invokestatic 42, 3) := by decide +kernel
theorem dX6_isLayer_4 : decode cX6_isLayer 4 = .ok (.ifCond .eq 32, 3) := by decide +kernel
theorem dX6_isLayer_7 : decode cX6_isLayer 7 = .ok (.iload_n 2, 1) := by decide +kernel
theorem dX6_isLayer_8 : decode cX6_isLayer 8 = .ok (.ifCond .lt 28, 3) := by decide +kernel
theorem dX6_isLayer_11 : decode cX6_isLayer 11 = .ok (.iload_n 2, 1) := by decide +kernel
theorem dX6_isLayer_12 : decode cX6_isLayer 12 = .ok (.iconst 4, 1) := by decide +kernel
theorem dX6_isLayer_13 : decode cX6_isLayer 13 = .ok (.if_icmp .ge 23, 3) := by decide +kernel
theorem dX6_isLayer_16 : decode cX6_isLayer 16 = .ok (.iload_n 2, 1) := by decide +kernel
theorem dX6_isLayer_17 : decode cX6_isLayer 17 = .ok (.aload_n 0, 1) := by decide +kernel
theorem dX6_isLayer_18 : decode cX6_isLayer 18 = .ok (.getfield 10, 3) := by decide +kernel
theorem dX6_isLayer_21 : decode cX6_isLayer 21 = .ok (.getfield 50, 3) := by decide +kernel
theorem dX6_isLayer_24 : decode cX6_isLayer 24 = .ok (.iload_n 1, 1) := by decide +kernel
theorem dX6_isLayer_25 : decode cX6_isLayer 25 = .ok (.aaload, 1) := by decide +kernel
theorem dX6_isLayer_26 : decode cX6_isLayer 26 = .ok (.getfield 54, 3) := by decide +kernel
theorem dX6_isLayer_29 : decode cX6_isLayer 29 = .ok (.if_icmp .ge 7, 3) := by decide +kernel
theorem dX6_isLayer_32 : decode cX6_isLayer 32 = .ok (.iconst 1, 1) := by decide +kernel
theorem dX6_isLayer_33 : decode cX6_isLayer 33 = .ok (.goto 4, 3) := by decide +kernel
theorem dX6_isLayer_36 : decode cX6_isLayer 36 = .ok (.iconst 0, 1) := by decide +kernel
theorem dX6_isLayer_37 : decode cX6_isLayer 37 = .ok (.ireturn, 1) := by decide +kernel
theorem dX6_orNone_0 : decode cX6_orNone 0 = .ok (.iload_n 0, 1) := by decide +kernel
theorem dX6_orNone_1 : decode cX6_orNone 1 = .ok (.bipush 16, 2) := by decide +kernel
theorem dX6_orNone_3 : decode cX6_orNone 3 = .ok (.if_icmp .ne 8, 3) := by decide +kernel
theorem dX6_orNone_6 : decode cX6_orNone 6 = .ok (.bipush (-5), 2) := by decide +kernel
theorem dX6_orNone_8 : decode cX6_orNone 8 = .ok (.goto 4, 3) := by decide +kernel
theorem dX6_orNone_11 : decode cX6_orNone 11 = .ok (.iload_n 0, 1) := by decide +kernel
theorem dX6_orNone_12 : decode cX6_orNone 12 = .ok (.ireturn, 1) := by decide +kernel
theorem dX6_aboutBestKey_0 : decode cX6_aboutBestKey 0 = .ok (.aload_n 0, 1) := by decide +kernel
theorem dX6_aboutBestKey_1 : decode cX6_aboutBestKey 1 = .ok (.invokevirtual 254, 3) := by decide +kernel
theorem dX6_aboutBestKey_4 : decode cX6_aboutBestKey 4 = .ok (.istore_n 2, 1) := by decide +kernel
theorem dX6_aboutBestKey_5 : decode cX6_aboutBestKey 5 = .ok (.iload_n 1, 1) := by decide +kernel
theorem dX6_aboutBestKey_6 : decode cX6_aboutBestKey 6 = .ok (.iconst 3, 1) := by decide +kernel
theorem dX6_aboutBestKey_7 : decode cX6_aboutBestKey 7 = .ok (.if_icmp .ne 5, 3) := by decide +kernel
theorem dX6_aboutBestKey_10 : decode cX6_aboutBestKey 10 = .ok (.iload_n 2, 1) := by decide +kernel
theorem dX6_aboutBestKey_11 : decode cX6_aboutBestKey 11 = .ok (.ireturn, 1) := by decide +kernel
theorem dX6_aboutBestKey_12 : decode cX6_aboutBestKey 12 = .ok (.iload_n 1, 1) := by decide +kernel
theorem dX6_aboutBestKey_13 : decode cX6_aboutBestKey 13 = .ok (.iconst 4, 1) := by decide +kernel
theorem dX6_aboutBestKey_14 : decode cX6_aboutBestKey 14 = .ok (.if_icmp .ne 11, 3) := by decide +kernel
theorem dX6_aboutBestKey_17 : decode cX6_aboutBestKey 17 = .ok (.aload_n 0, 1) := by decide +kernel
theorem dX6_aboutBestKey_18 : decode cX6_aboutBestKey 18 = .ok (.iload_n 2, 1) := by decide +kernel
theorem dX6_aboutBestKey_19 : decode cX6_aboutBestKey 19 = .ok (.invokevirtual 242, 3) := by decide +kernel
theorem dX6_aboutBestKey_22 : decode cX6_aboutBestKey 22 = .ok (.goto 8, 3) := by decide +kernel
theorem dX6_aboutBestKey_25 : decode cX6_aboutBestKey 25 = .ok (.aload_n 0, 1) := by decide +kernel
theorem dX6_aboutBestKey_26 : decode cX6_aboutBestKey 26 = .ok (.iload_n 2, 1) := by decide +kernel
theorem dX6_aboutBestKey_27 : decode cX6_aboutBestKey 27 = .ok (.invokevirtual 239, 3) := by decide +kernel
theorem dX6_aboutBestKey_30 : decode cX6_aboutBestKey 30 = .ok (.ireturn, 1) := by decide +kernel
theorem dX6_record_0 : decode cX6_record 0 = .ok (.aload_n 0, 1) := by decide +kernel
theorem dX6_record_1 : decode cX6_record 1 = .ok (.getfield 34, 3) := by decide +kernel
theorem dX6_record_4 : decode cX6_record 4 = .ok (.iconst 4, 1) := by decide +kernel
theorem dX6_record_5 : decode cX6_record 5 = .ok (.if_icmp .lt 7, 3) := by decide +kernel
theorem dX6_record_8 : decode cX6_record 8 = .ok (.aload_n 0, 1) := by decide +kernel
theorem dX6_record_9 : decode cX6_record 9 = .ok (.invokevirtual 257, 3) := by decide +kernel
theorem dX6_record_12 : decode cX6_record 12 = .ok (.aload_n 0, 1) := by decide +kernel
theorem dX6_record_13 : decode cX6_record 13 = .ok (.getfield 16, 3) := by decide +kernel
theorem dX6_record_16 : decode cX6_record 16 = .ok (.aload_n 0, 1) := by decide +kernel
theorem dX6_record_17 : decode cX6_record 17 = .ok (.getfield 34, 3) := by decide +kernel
theorem dX6_record_20 : decode cX6_record 20 = .ok (.aaload, 1) := by decide +kernel
theorem dX6_record_21 : decode cX6_record 21 = .ok (.aload_n 0, 1) := by decide +kernel
theorem dX6_record_22 : decode cX6_record 22 = .ok (.getfield 10, 3) := by decide +kernel
theorem dX6_record_25 : decode cX6_record 25 = .ok (.invokevirtual 150, 3) := by decide +kernel
theorem dX6_record_28 : decode cX6_record 28 = .ok (.aload_n 0, 1) := by decide +kernel
theorem dX6_record_29 : decode cX6_record 29 = .ok (.dup, 1) := by decide +kernel
theorem dX6_record_30 : decode cX6_record 30 = .ok (.getfield 34, 3) := by decide +kernel
theorem dX6_record_33 : decode cX6_record 33 = .ok (.iconst 1, 1) := by decide +kernel
theorem dX6_record_34 : decode cX6_record 34 = .ok (.iadd, 1) := by decide +kernel
theorem dX6_record_35 : decode cX6_record 35 = .ok (.putfield 34, 3) := by decide +kernel
theorem dX6_record_38 : decode cX6_record 38 = .ok (.return_, 1) := by decide +kernel
theorem dX6_dropOldest_0 : decode cX6_dropOldest 0 = .ok (.aload_n 0, 1) := by decide +kernel
theorem dX6_dropOldest_1 : decode cX6_dropOldest 1 = .ok (.getfield 16, 3) := by decide +kernel
theorem dX6_dropOldest_4 : decode cX6_dropOldest 4 = .ok (.iconst 0, 1) := by decide +kernel
theorem dX6_dropOldest_5 : decode cX6_dropOldest 5 = .ok (.aaload, 1) := by decide +kernel
theorem dX6_dropOldest_6 : decode cX6_dropOldest 6 = .ok (.astore_n 1, 1) := by decide +kernel
theorem dX6_dropOldest_7 : decode cX6_dropOldest 7 = .ok (.iconst 1, 1) := by decide +kernel
theorem dX6_dropOldest_8 : decode cX6_dropOldest 8 = .ok (.istore_n 2, 1) := by decide +kernel
theorem dX6_dropOldest_9 : decode cX6_dropOldest 9 = .ok (.iload_n 2, 1) := by decide +kernel
theorem dX6_dropOldest_10 : decode cX6_dropOldest 10 = .ok (.iconst 4, 1) := by decide +kernel
theorem dX6_dropOldest_11 : decode cX6_dropOldest 11 = .ok (.if_icmp .ge 23, 3) := by decide +kernel
theorem dX6_dropOldest_14 : decode cX6_dropOldest 14 = .ok (.aload_n 0, 1) := by decide +kernel
theorem dX6_dropOldest_15 : decode cX6_dropOldest 15 = .ok (.getfield 16, 3) := by decide +kernel
theorem dX6_dropOldest_18 : decode cX6_dropOldest 18 = .ok (.iload_n 2, 1) := by decide +kernel
theorem dX6_dropOldest_19 : decode cX6_dropOldest 19 = .ok (.iconst 1, 1) := by decide +kernel
theorem dX6_dropOldest_20 : decode cX6_dropOldest 20 = .ok (.isub, 1) := by decide +kernel
theorem dX6_dropOldest_21 : decode cX6_dropOldest 21 = .ok (.aload_n 0, 1) := by decide +kernel
theorem dX6_dropOldest_22 : decode cX6_dropOldest 22 = .ok (.getfield 16, 3) := by decide +kernel
theorem dX6_dropOldest_25 : decode cX6_dropOldest 25 = .ok (.iload_n 2, 1) := by decide +kernel
theorem dX6_dropOldest_26 : decode cX6_dropOldest 26 = .ok (.aaload, 1) := by decide +kernel
theorem dX6_dropOldest_27 : decode cX6_dropOldest 27 = .ok (.aastore, 1) := by decide +kernel
theorem dX6_dropOldest_28 : decode cX6_dropOldest 28 = .ok (.iinc 2 1, 3) := by decide +kernel
theorem dX6_dropOldest_31 : decode cX6_dropOldest 31 = .ok (.goto (-22), 3) := by decide +kernel
theorem dX6_dropOldest_34 : decode cX6_dropOldest 34 = .ok (.aload_n 0, 1) := by decide +kernel
theorem dX6_dropOldest_35 : decode cX6_dropOldest 35 = .ok (.getfield 16, 3) := by decide +kernel
theorem dX6_dropOldest_38 : decode cX6_dropOldest 38 = .ok (.iconst 3, 1) := by decide +kernel
theorem dX6_dropOldest_39 : decode cX6_dropOldest 39 = .ok (.aload_n 1, 1) := by decide +kernel
theorem dX6_dropOldest_40 : decode cX6_dropOldest 40 = .ok (.aastore, 1) := by decide +kernel
theorem dX6_dropOldest_41 : decode cX6_dropOldest 41 = .ok (.aload_n 0, 1) := by decide +kernel
theorem dX6_dropOldest_42 : decode cX6_dropOldest 42 = .ok (.iconst 3, 1) := by decide +kernel
theorem dX6_dropOldest_43 : decode cX6_dropOldest 43 = .ok (.putfield 34, 3) := by decide +kernel
theorem dX6_dropOldest_46 : decode cX6_dropOldest 46 = .ok (.return_, 1) := by decide +kernel
theorem dX6_collectDifferences_0 : decode cX6_collectDifferences 0 = .ok (.iconst 0, 1) := by decide +kernel
theorem dX6_collectDifferences_1 : decode cX6_collectDifferences 1 = .ok (.istore_n 2, 1) := by decide +kernel
theorem dX6_collectDifferences_2 : decode cX6_collectDifferences 2 = .ok (.iconst 0, 1) := by decide +kernel
theorem dX6_collectDifferences_3 : decode cX6_collectDifferences 3 = .ok (.istore_n 3, 1) := by decide +kernel
theorem dX6_collectDifferences_4 : decode cX6_collectDifferences 4 = .ok (.iload_n 3, 1) := by decide +kernel
theorem dX6_collectDifferences_5 : decode cX6_collectDifferences 5 = .ok (.bipush 6, 2) := by decide +kernel
theorem dX6_collectDifferences_7 : decode cX6_collectDifferences 7 = .ok (.if_icmp .ge 111, 3) := by decide +kernel
theorem dX6_collectDifferences_10 : decode cX6_collectDifferences 10 = .ok (.iconst 0, 1) := by decide +kernel
theorem dX6_collectDifferences_11 : decode cX6_collectDifferences 11 = .ok (.istore 4, 2) := by decide +kernel
theorem dX6_collectDifferences_13 : decode cX6_collectDifferences 13 = .ok (.iload 4, 2) := by decide +kernel
theorem dX6_collectDifferences_15 : decode cX6_collectDifferences 15 = .ok (.iload_n 3, 1) := by decide +kernel
theorem dX6_collectDifferences_16 : decode cX6_collectDifferences 16 = .ok (.if_icmp .ge 96, 3) := by decide +kernel
theorem dX6_collectDifferences_19 : decode cX6_collectDifferences 19 = .ok (.iload_n 1, 1) := by decide +kernel
theorem dX6_collectDifferences_20 : decode cX6_collectDifferences 20 = .ok (.iload_n 3, 1) := by decide +kernel
theorem dX6_collectDifferences_21 : decode cX6_collectDifferences 21 = .ok (.ishr, 1) := by decide +kernel
theorem dX6_collectDifferences_22 : decode cX6_collectDifferences 22 = .ok (.iconst 1, 1) := by decide +kernel
theorem dX6_collectDifferences_23 : decode cX6_collectDifferences 23 = .ok (.iand, 1) := by decide +kernel
theorem dX6_collectDifferences_24 : decode cX6_collectDifferences 24 = .ok (.iconst 1, 1) := by decide +kernel
theorem dX6_collectDifferences_25 : decode cX6_collectDifferences 25 = .ok (.if_icmp .ne 17, 3) := by decide +kernel
theorem dX6_collectDifferences_28 : decode cX6_collectDifferences 28 = .ok (.iload_n 1, 1) := by decide +kernel
theorem dX6_collectDifferences_29 : decode cX6_collectDifferences 29 = .ok (.iload 4, 2) := by decide +kernel
theorem dX6_collectDifferences_31 : decode cX6_collectDifferences 31 = .ok (.ishr, 1) := by decide +kernel
theorem dX6_collectDifferences_32 : decode cX6_collectDifferences 32 = .ok (.iconst 1, 1) := by decide +kernel
theorem dX6_collectDifferences_33 : decode cX6_collectDifferences 33 = .ok (.iand, 1) := by decide +kernel
theorem dX6_collectDifferences_34 : decode cX6_collectDifferences 34 = .ok (.iconst 1, 1) := by decide +kernel
theorem dX6_collectDifferences_35 : decode cX6_collectDifferences 35 = .ok (.if_icmp .ne 7, 3) := by decide +kernel
theorem dX6_collectDifferences_38 : decode cX6_collectDifferences 38 = .ok (.iconst 1, 1) := by decide +kernel
theorem dX6_collectDifferences_39 : decode cX6_collectDifferences 39 = .ok (.goto 4, 3) := by decide +kernel
theorem dX6_collectDifferences_42 : decode cX6_collectDifferences 42 = .ok (.iconst 0, 1) := by decide +kernel
theorem dX6_collectDifferences_43 : decode cX6_collectDifferences 43 = .ok (.istore 5, 2) := by decide +kernel
theorem dX6_collectDifferences_45 : decode cX6_collectDifferences 45 = .ok (.iload 5, 2) := by decide +kernel
theorem dX6_collectDifferences_47 : decode cX6_collectDifferences 47 = .ok (.ifCond .eq 34, 3) := by decide +kernel
theorem dX6_collectDifferences_50 : decode cX6_collectDifferences 50 = .ok (.aload_n 0, 1) := by decide +kernel
theorem dX6_collectDifferences_51 : decode cX6_collectDifferences 51 = .ok (.getfield 10, 3) := by decide +kernel
theorem dX6_collectDifferences_54 : decode cX6_collectDifferences 54 = .ok (.getfield 50, 3) := by decide +kernel
theorem dX6_collectDifferences_57 : decode cX6_collectDifferences 57 = .ok (.iload_n 3, 1) := by decide +kernel
theorem dX6_collectDifferences_58 : decode cX6_collectDifferences 58 = .ok (.aaload, 1) := by decide +kernel
theorem dX6_collectDifferences_59 : decode cX6_collectDifferences 59 = .ok (.getfield 98, 3) := by decide +kernel
theorem dX6_collectDifferences_62 : decode cX6_collectDifferences 62 = .ok (.aload_n 0, 1) := by decide +kernel
theorem dX6_collectDifferences_63 : decode cX6_collectDifferences 63 = .ok (.getfield 10, 3) := by decide +kernel
theorem dX6_collectDifferences_66 : decode cX6_collectDifferences 66 = .ok (.getfield 50, 3) := by decide +kernel
theorem dX6_collectDifferences_69 : decode cX6_collectDifferences 69 = .ok (.iload 4, 2) := by decide +kernel
theorem dX6_collectDifferences_71 : decode cX6_collectDifferences 71 = .ok (.aaload, 1) := by decide +kernel
theorem dX6_collectDifferences_72 : decode cX6_collectDifferences 72 = .ok (.getfield 98, 3) := by decide +kernel
theorem dX6_collectDifferences_75 : decode cX6_collectDifferences 75 = .ok (.invokestatic 214, 3) := by decide +kernel
theorem dX6_collectDifferences_78 : decode cX6_collectDifferences 78 = .ok (.goto 4, 3) := by decide +kernel
theorem dX6_collectDifferences_81 : decode cX6_collectDifferences 81 = .ok (.iconst 0, 1) := by decide +kernel
theorem dX6_collectDifferences_82 : decode cX6_collectDifferences 82 = .ok (.istore 6, 2) := by decide +kernel
theorem dX6_collectDifferences_84 : decode cX6_collectDifferences 84 = .ok (.iload 6, 2) := by decide +kernel
theorem dX6_collectDifferences_86 : decode cX6_collectDifferences 86 = .ok (.ifCond .le 20, 3) := by decide +kernel
theorem dX6_collectDifferences_89 : decode cX6_collectDifferences 89 = .ok (.iload_n 2, 1) := by decide +kernel
theorem dX6_collectDifferences_90 : decode cX6_collectDifferences 90 = .ok (.bipush 15, 2) := by decide +kernel
theorem dX6_collectDifferences_92 : decode cX6_collectDifferences 92 = .ok (.if_icmp .ge 14, 3) := by decide +kernel
theorem dX6_collectDifferences_95 : decode cX6_collectDifferences 95 = .ok (.aload_n 0, 1) := by decide +kernel
theorem dX6_collectDifferences_96 : decode cX6_collectDifferences 96 = .ok (.getfield 30, 3) := by decide +kernel
theorem dX6_collectDifferences_99 : decode cX6_collectDifferences 99 = .ok (.iload_n 2, 1) := by decide +kernel
theorem dX6_collectDifferences_100 : decode cX6_collectDifferences 100 = .ok (.iload 6, 2) := by decide +kernel
theorem dX6_collectDifferences_102 : decode cX6_collectDifferences 102 = .ok (.iastore, 1) := by decide +kernel
theorem dX6_collectDifferences_103 : decode cX6_collectDifferences 103 = .ok (.iinc 2 1, 3) := by decide +kernel
theorem dX6_collectDifferences_106 : decode cX6_collectDifferences 106 = .ok (.iinc 4 1, 3) := by decide +kernel
theorem dX6_collectDifferences_109 : decode cX6_collectDifferences 109 = .ok (.goto (-96), 3) := by decide +kernel
theorem dX6_collectDifferences_112 : decode cX6_collectDifferences 112 = .ok (.iinc 3 1, 3) := by decide +kernel
theorem dX6_collectDifferences_115 : decode cX6_collectDifferences 115 = .ok (.goto (-111), 3) := by decide +kernel
theorem dX6_collectDifferences_118 : decode cX6_collectDifferences 118 = .ok (.iload_n 2, 1) := by decide +kernel
theorem dX6_collectDifferences_119 : decode cX6_collectDifferences 119 = .ok (.ireturn, 1) := by decide +kernel
theorem dX6_leastSetOfSize_0 : decode cX6_leastSetOfSize 0 = .ok (.iconst 1, 1) := by decide +kernel
theorem dX6_leastSetOfSize_1 : decode cX6_leastSetOfSize 1 = .ok (.iload_n 1, 1) := by decide +kernel
theorem dX6_leastSetOfSize_2 : decode cX6_leastSetOfSize 2 = .ok (.ishl, 1) := by decide +kernel
theorem dX6_leastSetOfSize_3 : decode cX6_leastSetOfSize 3 = .ok (.iconst 1, 1) := by decide +kernel
theorem dX6_leastSetOfSize_4 : decode cX6_leastSetOfSize 4 = .ok (.isub, 1) := by decide +kernel
theorem dX6_leastSetOfSize_5 : decode cX6_leastSetOfSize 5 = .ok (.istore_n 3, 1) := by decide +kernel
theorem dX6_leastSetOfSize_6 : decode cX6_leastSetOfSize 6 = .ok (.iconst 0, 1) := by decide +kernel
theorem dX6_leastSetOfSize_7 : decode cX6_leastSetOfSize 7 = .ok (.istore 4, 2) := by decide +kernel
theorem dX6_leastSetOfSize_9 : decode cX6_leastSetOfSize 9 = .ok (.iload 4, 2) := by decide +kernel
theorem dX6_leastSetOfSize_11 : decode cX6_leastSetOfSize 11 = .ok (.ldc 225, 2) := by decide +kernel
theorem dX6_leastSetOfSize_13 : decode cX6_leastSetOfSize 13 = .ok (.if_icmp .gt 31, 3) := by decide +kernel
theorem dX6_leastSetOfSize_16 : decode cX6_leastSetOfSize 16 = .ok (.iload_n 3, 1) := by decide +kernel
theorem dX6_leastSetOfSize_17 : decode cX6_leastSetOfSize 17 = .ok (.ldc 225, 2) := by decide +kernel
theorem dX6_leastSetOfSize_19 : decode cX6_leastSetOfSize 19 = .ok (.if_icmp .gt 25, 3) := by decide +kernel
theorem dX6_leastSetOfSize_22 : decode cX6_leastSetOfSize 22 = .ok (.aload_n 0, 1) := by decide +kernel
theorem dX6_leastSetOfSize_23 : decode cX6_leastSetOfSize 23 = .ok (.iload_n 3, 1) := by decide +kernel
theorem dX6_leastSetOfSize_24 : decode cX6_leastSetOfSize 24 = .ok (.iload_n 2, 1) := by decide +kernel
theorem dX6_leastSetOfSize_25 : decode cX6_leastSetOfSize 25 = .ok (.invokevirtual 260, 3) := by decide +kernel
theorem dX6_leastSetOfSize_28 : decode cX6_leastSetOfSize 28 = .ok (.ifCond .eq 5, 3) := by decide +kernel
theorem dX6_leastSetOfSize_31 : decode cX6_leastSetOfSize 31 = .ok (.iload_n 3, 1) := by decide +kernel
theorem dX6_leastSetOfSize_32 : decode cX6_leastSetOfSize 32 = .ok (.ireturn, 1) := by decide +kernel
theorem dX6_leastSetOfSize_33 : decode cX6_leastSetOfSize 33 = .ok (.iload_n 3, 1) := by decide +kernel
theorem dX6_leastSetOfSize_34 : decode cX6_leastSetOfSize 34 = .ok (.invokestatic 263, 3) := by decide +kernel
theorem dX6_leastSetOfSize_37 : decode cX6_leastSetOfSize 37 = .ok (.istore_n 3, 1) := by decide +kernel
theorem dX6_leastSetOfSize_38 : decode cX6_leastSetOfSize 38 = .ok (.iinc 4 1, 3) := by decide +kernel
theorem dX6_leastSetOfSize_41 : decode cX6_leastSetOfSize 41 = .ok (.goto (-32), 3) := by decide +kernel
theorem dX6_leastSetOfSize_44 : decode cX6_leastSetOfSize 44 = .ok (.ldc_w 266, 3) := by decide +kernel
theorem dX6_leastSetOfSize_47 : decode cX6_leastSetOfSize 47 = .ok (.ireturn, 1) := by decide +kernel
theorem dX6_tellsApart_0 : decode cX6_tellsApart 0 = .ok (.iconst 0, 1) := by decide +kernel
theorem dX6_tellsApart_1 : decode cX6_tellsApart 1 = .ok (.istore_n 3, 1) := by decide +kernel
theorem dX6_tellsApart_2 : decode cX6_tellsApart 2 = .ok (.iload_n 3, 1) := by decide +kernel
theorem dX6_tellsApart_3 : decode cX6_tellsApart 3 = .ok (.iload_n 2, 1) := by decide +kernel
theorem dX6_tellsApart_4 : decode cX6_tellsApart 4 = .ok (.if_icmp .ge 28, 3) := by decide +kernel
theorem dX6_tellsApart_7 : decode cX6_tellsApart 7 = .ok (.iload_n 3, 1) := by decide +kernel
theorem dX6_tellsApart_8 : decode cX6_tellsApart 8 = .ok (.bipush 15, 2) := by decide +kernel
theorem dX6_tellsApart_10 : decode cX6_tellsApart 10 = .ok (.if_icmp .ge 22, 3) := by decide +kernel
theorem dX6_tellsApart_13 : decode cX6_tellsApart 13 = .ok (.aload_n 0, 1) := by decide +kernel
theorem dX6_tellsApart_14 : decode cX6_tellsApart 14 = .ok (.getfield 30, 3) := by decide +kernel
theorem dX6_tellsApart_17 : decode cX6_tellsApart 17 = .ok (.iload_n 3, 1) := by decide +kernel
theorem dX6_tellsApart_18 : decode cX6_tellsApart 18 = .ok (.iaload, 1) := by decide +kernel
theorem dX6_tellsApart_19 : decode cX6_tellsApart 19 = .ok (.iload_n 1, 1) := by decide +kernel
theorem dX6_tellsApart_20 : decode cX6_tellsApart 20 = .ok (.iand, 1) := by decide +kernel
theorem dX6_tellsApart_21 : decode cX6_tellsApart 21 = .ok (.ifCond .ne 5, 3) := by decide +kernel
theorem dX6_tellsApart_24 : decode cX6_tellsApart 24 = .ok (.iconst 0, 1) := by decide +kernel
theorem dX6_tellsApart_25 : decode cX6_tellsApart 25 = .ok (.ireturn, 1) := by decide +kernel
theorem dX6_tellsApart_26 : decode cX6_tellsApart 26 = .ok (.iinc 3 1, 3) := by decide +kernel
theorem dX6_tellsApart_29 : decode cX6_tellsApart 29 = .ok (.goto (-27), 3) := by decide +kernel
theorem dX6_tellsApart_32 : decode cX6_tellsApart 32 = .ok (.iconst 1, 1) := by decide +kernel
theorem dX6_tellsApart_33 : decode cX6_tellsApart 33 = .ok (.ireturn, 1) := by decide +kernel
theorem dX6_nextSetOfSameSize_0 : decode cX6_nextSetOfSameSize 0 = .ok (.iload_n 0, 1) := by decide +kernel
theorem dX6_nextSetOfSameSize_1 : decode cX6_nextSetOfSameSize 1 = .ok (.iload_n 0, 1) := by decide +kernel
theorem dX6_nextSetOfSameSize_2 : decode cX6_nextSetOfSameSize 2 = .ok (.ineg, 1) := by decide +kernel
theorem dX6_nextSetOfSameSize_3 : decode cX6_nextSetOfSameSize 3 = .ok (.iand, 1) := by decide +kernel
theorem dX6_nextSetOfSameSize_4 : decode cX6_nextSetOfSameSize 4 = .ok (.istore_n 1, 1) := by decide +kernel
theorem dX6_nextSetOfSameSize_5 : decode cX6_nextSetOfSameSize 5 = .ok (.iload_n 1, 1) := by decide +kernel
theorem dX6_nextSetOfSameSize_6 : decode cX6_nextSetOfSameSize 6 = .ok (.ifCond .gt 7, 3) := by decide +kernel
theorem dX6_nextSetOfSameSize_9 : decode cX6_nextSetOfSameSize 9 = .ok (.ldc_w 266, 3) := by decide +kernel
theorem dX6_nextSetOfSameSize_12 : decode cX6_nextSetOfSameSize 12 = .ok (.ireturn, 1) := by decide +kernel
theorem dX6_nextSetOfSameSize_13 : decode cX6_nextSetOfSameSize 13 = .ok (.iload_n 0, 1) := by decide +kernel
theorem dX6_nextSetOfSameSize_14 : decode cX6_nextSetOfSameSize 14 = .ok (.iload_n 1, 1) := by decide +kernel
theorem dX6_nextSetOfSameSize_15 : decode cX6_nextSetOfSameSize 15 = .ok (.iadd, 1) := by decide +kernel
theorem dX6_nextSetOfSameSize_16 : decode cX6_nextSetOfSameSize 16 = .ok (.istore_n 2, 1) := by decide +kernel
theorem dX6_nextSetOfSameSize_17 : decode cX6_nextSetOfSameSize 17 = .ok (.iload_n 2, 1) := by decide +kernel
theorem dX6_nextSetOfSameSize_18 : decode cX6_nextSetOfSameSize 18 = .ok (.iload_n 0, 1) := by decide +kernel
theorem dX6_nextSetOfSameSize_19 : decode cX6_nextSetOfSameSize 19 = .ok (.iload_n 2, 1) := by decide +kernel
theorem dX6_nextSetOfSameSize_20 : decode cX6_nextSetOfSameSize 20 = .ok (.ixor, 1) := by decide +kernel
theorem dX6_nextSetOfSameSize_21 : decode cX6_nextSetOfSameSize 21 = .ok (.iconst 2, 1) := by decide +kernel
theorem dX6_nextSetOfSameSize_22 : decode cX6_nextSetOfSameSize 22 = .ok (.ishr, 1) := by decide +kernel
theorem dX6_nextSetOfSameSize_23 : decode cX6_nextSetOfSameSize 23 = .ok (.iload_n 1, 1) := by decide +kernel
theorem dX6_nextSetOfSameSize_24 : decode cX6_nextSetOfSameSize 24 = .ok (.idiv, 1) := by decide +kernel
theorem dX6_nextSetOfSameSize_25 : decode cX6_nextSetOfSameSize 25 = .ok (.ior, 1) := by decide +kernel
theorem dX6_nextSetOfSameSize_26 : decode cX6_nextSetOfSameSize 26 = .ok (.ireturn, 1) := by decide +kernel
theorem dX7_init_0 : decode cX7_init 0 = .ok (.aload_n 0, 1) := by decide +kernel
theorem dX7_init_1 : decode cX7_init 1 = .ok (.invokespecial 1, 3) := by decide +kernel
theorem dX7_init_4 : decode cX7_init 4 = .ok (.aload_n 0, 1) := by decide +kernel
theorem dX7_init_5 : decode cX7_init 5 = .ok (.sipush 514, 3) := by decide +kernel
theorem dX7_init_8 : decode cX7_init 8 = .ok (.newarray .int, 2) := by decide +kernel
theorem dX7_init_10 : decode cX7_init 10 = .ok (.putfield 7, 3) := by decide +kernel
theorem dX7_init_13 : decode cX7_init 13 = .ok (.aload_n 0, 1) := by decide +kernel
theorem dX7_init_14 : decode cX7_init 14 = .ok (.sipush 2056, 3) := by decide +kernel
theorem dX7_init_17 : decode cX7_init 17 = .ok (.newarray .int, 2) := by decide +kernel
theorem dX7_init_19 : decode cX7_init 19 = .ok (.putfield 13, 3) := by decide +kernel
theorem dX7_init_22 : decode cX7_init 22 = .ok (.aload_n 0, 1) := by decide +kernel
theorem dX7_init_23 : decode cX7_init 23 = .ok (.sipush 514, 3) := by decide +kernel
theorem dX7_init_26 : decode cX7_init 26 = .ok (.newarray .int, 2) := by decide +kernel
theorem dX7_init_28 : decode cX7_init 28 = .ok (.putfield 16, 3) := by decide +kernel
theorem dX7_init_31 : decode cX7_init 31 = .ok (.aload_n 0, 1) := by decide +kernel
theorem dX7_init_32 : decode cX7_init 32 = .ok (.bipush 16, 2) := by decide +kernel
theorem dX7_init_34 : decode cX7_init 34 = .ok (.newarray .int, 2) := by decide +kernel
theorem dX7_init_36 : decode cX7_init 36 = .ok (.putfield 19, 3) := by decide +kernel
theorem dX7_init_39 : decode cX7_init 39 = .ok (.aload_n 0, 1) := by decide +kernel
theorem dX7_init_40 : decode cX7_init 40 = .ok (.bipush 16, 2) := by decide +kernel
theorem dX7_init_42 : decode cX7_init 42 = .ok (.newarray .int, 2) := by decide +kernel
theorem dX7_init_44 : decode cX7_init 44 = .ok (.putfield 22, 3) := by decide +kernel
theorem dX7_init_47 : decode cX7_init 47 = .ok (.aload_n 0, 1) := by decide +kernel
theorem dX7_init_48 : decode cX7_init 48 = .ok (.bipush 60, 2) := by decide +kernel
theorem dX7_init_50 : decode cX7_init 50 = .ok (.newarray .char, 2) := by decide +kernel
theorem dX7_init_52 : decode cX7_init 52 = .ok (.putfield 25, 3) := by decide +kernel
theorem dX7_init_55 : decode cX7_init 55 = .ok (.aload_n 0, 1) := by decide +kernel
theorem dX7_init_56 : decode cX7_init 56 = .ok (.bipush 16, 2) := by decide +kernel
theorem dX7_init_58 : decode cX7_init 58 = .ok (.newarray .int, 2) := by decide +kernel
theorem dX7_init_60 : decode cX7_init 60 = .ok (.putfield 29, 3) := by decide +kernel
theorem dX7_init_63 : decode cX7_init 63 = .ok (.aload_n 0, 1) := by decide +kernel
theorem dX7_init_64 : decode cX7_init 64 = .ok (.bipush 80, 2) := by decide +kernel
theorem dX7_init_66 : decode cX7_init 66 = .ok (.newarray .int, 2) := by decide +kernel
theorem dX7_init_68 : decode cX7_init 68 = .ok (.putfield 32, 3) := by decide +kernel
theorem dX7_init_71 : decode cX7_init 71 = .ok (.aload_n 0, 1) := by decide +kernel
theorem dX7_init_72 : decode cX7_init 72 = .ok (.iconst 5, 1) := by decide +kernel
theorem dX7_init_73 : decode cX7_init 73 = .ok (.newarray .boolean, 2) := by decide +kernel
theorem dX7_init_75 : decode cX7_init 75 = .ok (.putfield 35, 3) := by decide +kernel
theorem dX7_init_78 : decode cX7_init 78 = .ok (.aload_n 0, 1) := by decide +kernel
theorem dX7_init_79 : decode cX7_init 79 = .ok (.bipush 80, 2) := by decide +kernel
theorem dX7_init_81 : decode cX7_init 81 = .ok (.newarray .int, 2) := by decide +kernel
theorem dX7_init_83 : decode cX7_init 83 = .ok (.putfield 39, 3) := by decide +kernel
theorem dX7_init_86 : decode cX7_init 86 = .ok (.aload_n 0, 1) := by decide +kernel
theorem dX7_init_87 : decode cX7_init 87 = .ok (.iconst 5, 1) := by decide +kernel
theorem dX7_init_88 : decode cX7_init 88 = .ok (.newarray .boolean, 2) := by decide +kernel
theorem dX7_init_90 : decode cX7_init 90 = .ok (.putfield 42, 3) := by decide +kernel
theorem dX7_init_93 : decode cX7_init 93 = .ok (.aload_n 0, 1) := by decide +kernel
theorem dX7_init_94 : decode cX7_init 94 = .ok (.bipush 16, 2) := by decide +kernel
theorem dX7_init_96 : decode cX7_init 96 = .ok (.newarray .int, 2) := by decide +kernel
theorem dX7_init_98 : decode cX7_init 98 = .ok (.putfield 45, 3) := by decide +kernel
theorem dX7_init_101 : decode cX7_init 101 = .ok (.aload_n 0, 1) := by decide +kernel
theorem dX7_init_102 : decode cX7_init 102 = .ok (.bipush 15, 2) := by decide +kernel
theorem dX7_init_104 : decode cX7_init 104 = .ok (.newarray .int, 2) := by decide +kernel
theorem dX7_init_106 : decode cX7_init 106 = .ok (.putfield 48, 3) := by decide +kernel
theorem dX7_init_109 : decode cX7_init 109 = .ok (.return_, 1) := by decide +kernel
theorem dX7_in_0 : decode cX7_in 0 = .ok (.iload_n 0, 1) := by decide +kernel
theorem dX7_in_1 : decode cX7_in 1 = .ok (.iload_n 1, 1) := by decide +kernel
theorem dX7_in_2 : decode cX7_in 2 = .ok (.if_icmp .lt 12, 3) := by decide +kernel
theorem dX7_in_5 : decode cX7_in 5 = .ok (.iload_n 0, 1) := by decide +kernel
theorem dX7_in_6 : decode cX7_in 6 = .ok (.iload_n 2, 1) := by decide +kernel
theorem dX7_in_7 : decode cX7_in 7 = .ok (.if_icmp .gt 7, 3) := by decide +kernel
theorem dX7_in_10 : decode cX7_in 10 = .ok (.iconst 1, 1) := by decide +kernel
theorem dX7_in_11 : decode cX7_in 11 = .ok (.goto 4, 3) := by decide +kernel
theorem dX7_in_14 : decode cX7_in 14 = .ok (.iconst 0, 1) := by decide +kernel
theorem dX7_in_15 : decode cX7_in 15 = .ok (.ireturn, 1) := by decide +kernel
theorem dX7_noMap_0 : decode cX7_noMap 0 = .ok (.iload_n 0, 1) := by decide +kernel
theorem dX7_noMap_1 : decode cX7_noMap 1 = .ok (.iconst 0, 1) := by decide +kernel
theorem dX7_noMap_2 : decode cX7_noMap 2 = .ok (.iconst 5, 1) := by decide +kernel
theorem dX7_noMap_3 : decode cX7_noMap 3 = .ok (.invokestatic 51, 3) := by decide +kernel
theorem dX7_noMap_6 : decode cX7_noMap 6 = .ok (.ifCond .ne 7, 3) := by decide +kernel
theorem dX7_noMap_9 : decode cX7_noMap 9 = .ok (.iconst 1, 1) := by decide +kernel
theorem dX7_noMap_10 : decode cX7_noMap 10 = .ok (.goto 4, 3) := by decide +kernel
theorem dX7_noMap_13 : decode cX7_noMap 13 = .ok (.iconst 0, 1) := by decide +kernel
theorem dX7_noMap_14 : decode cX7_noMap 14 = .ok (.ireturn, 1) := by decide +kernel
