theorem dX7_noKey_0 : decode cX7_noKey 0 = .ok (.iload_n 0, 1) := by decide +kernel
theorem dX7_noKey_1 : decode cX7_noKey 1 = .ok (.iconst 0, 1) := by decide +kernel
theorem dX7_noKey_2 : decode cX7_noKey 2 = .ok (.bipush 15, 2) := by decide +kernel
theorem dX7_noKey_4 : decode cX7_noKey 4 = .ok (.invokestatic 51, 3) := by decide +kernel
theorem dX7_noKey_7 : decode cX7_noKey 7 = .ok (.ifCond .ne 7, 3) := by decide +kernel
theorem dX7_noKey_10 : decode cX7_noKey 10 = .ok (.iconst 1, 1) := by decide +kernel
theorem dX7_noKey_11 : decode cX7_noKey 11 = .ok (.goto 4, 3) := by decide +kernel
theorem dX7_noKey_14 : decode cX7_noKey 14 = .ok (.iconst 0, 1) := by decide +kernel
theorem dX7_noKey_15 : decode cX7_noKey 15 = .ok (.ireturn, 1) := by decide +kernel
theorem dX7_noLayer_0 : decode cX7_noLayer 0 = .ok (.iload_n 1, 1) := by decide +kernel
theorem dX7_noLayer_1 : decode cX7_noLayer 1 = .ok (.invokestatic 55, 3) := by decide +kernel
theorem dX7_noLayer_4 : decode cX7_noLayer 4 = .ok (.ifCond .ne 23, 3) := by decide +kernel
theorem dX7_noLayer_7 : decode cX7_noLayer 7 = .ok (.iload_n 2, 1) := by decide +kernel
theorem dX7_noLayer_8 : decode cX7_noLayer 8 = .ok (.iconst 0, 1) := by decide +kernel
theorem dX7_noLayer_9 : decode cX7_noLayer 9 = .ok (.aload_n 0, 1) := by decide +kernel
theorem dX7_noLayer_10 : decode cX7_noLayer 10 = .ok (.getfield 7, 3) := by decide +kernel
theorem dX7_noLayer_13 : decode cX7_noLayer 13 = .ok (.sipush 408, 3) := by decide +kernel
theorem dX7_noLayer_16 : decode cX7_noLayer 16 = .ok (.iload_n 1, 1) := by decide +kernel
theorem dX7_noLayer_17 : decode cX7_noLayer 17 = .ok (.iadd, 1) := by decide +kernel
theorem dX7_noLayer_18 : decode cX7_noLayer 18 = .ok (.iaload, 1) := by decide +kernel
theorem dX7_noLayer_19 : decode cX7_noLayer 19 = .ok (.iconst 1, 1) := by decide +kernel
theorem dX7_noLayer_20 : decode cX7_noLayer 20 = .ok (.isub, 1) := by decide +kernel
theorem dX7_noLayer_21 : decode cX7_noLayer 21 = .ok (.invokestatic 51, 3) := by decide +kernel
theorem dX7_noLayer_24 : decode cX7_noLayer 24 = .ok (.ifCond .ne 7, 3) := by decide +kernel
theorem dX7_noLayer_27 : decode cX7_noLayer 27 = .ok (.iconst 1, 1) := by decide +kernel
theorem dX7_noLayer_28 : decode cX7_noLayer 28 = .ok (.goto 4, 3) := by decide +kernel
theorem dX7_noLayer_31 : decode cX7_noLayer 31 = .ok (.iconst 0, 1) := by decide +kernel
theorem dX7_noLayer_32 : decode cX7_noLayer 32 = .ok (.ireturn, 1) := by decide +kernel
theorem dX7_cell_0 : decode cX7_cell 0 = .ok (.bipush 16, 2) := by decide +kernel
theorem dX7_cell_2 : decode cX7_cell 2 = .ok (.iconst 4, 1) := by decide +kernel
theorem dX7_cell_3 : decode cX7_cell 3 = .ok (.iload_n 0, 1) := by decide +kernel
theorem dX7_cell_4 : decode cX7_cell 4 = .ok (.imul, 1) := by decide +kernel
theorem dX7_cell_5 : decode cX7_cell 5 = .ok (.iload_n 1, 1) := by decide +kernel
theorem dX7_cell_6 : decode cX7_cell 6 = .ok (.iadd, 1) := by decide +kernel
theorem dX7_cell_7 : decode cX7_cell 7 = .ok (.imul, 1) := by decide +kernel
theorem dX7_cell_8 : decode cX7_cell 8 = .ok (.iload_n 2, 1) := by decide +kernel
theorem dX7_cell_9 : decode cX7_cell 9 = .ok (.iadd, 1) := by decide +kernel
theorem dX7_cell_10 : decode cX7_cell 10 = .ok (.ireturn, 1) := by decide +kernel
theorem dX7_isOn_0 : decode cX7_isOn 0 = .ok (.aload_n 0, 1) := by decide +kernel
theorem dX7_isOn_1 : decode cX7_isOn 1 = .ok (.getfield 7, 3) := by decide +kernel
theorem dX7_isOn_4 : decode cX7_isOn 4 = .ok (.sipush 384, 3) := by decide +kernel
theorem dX7_isOn_7 : decode cX7_isOn 7 = .ok (.iconst 4, 1) := by decide +kernel
theorem dX7_isOn_8 : decode cX7_isOn 8 = .ok (.iload_n 1, 1) := by decide +kernel
theorem dX7_isOn_9 : decode cX7_isOn 9 = .ok (.imul, 1) := by decide +kernel
theorem dX7_isOn_10 : decode cX7_isOn 10 = .ok (.iadd, 1) := by decide +kernel
theorem dX7_isOn_11 : decode cX7_isOn 11 = .ok (.iload_n 2, 1) := by decide +kernel
theorem dX7_isOn_12 : decode cX7_isOn 12 = .ok (.iadd, 1) := by decide +kernel
theorem dX7_isOn_13 : decode cX7_isOn 13 = .ok (.iaload, 1) := by decide +kernel
theorem dX7_isOn_14 : decode cX7_isOn 14 = .ok (.iconst 1, 1) := by decide +kernel
theorem dX7_isOn_15 : decode cX7_isOn 15 = .ok (.if_icmp .ne 7, 3) := by decide +kernel
theorem dX7_isOn_18 : decode cX7_isOn 18 = .ok (.iconst 1, 1) := by decide +kernel
theorem dX7_isOn_19 : decode cX7_isOn 19 = .ok (.goto 4, 3) := by decide +kernel
theorem dX7_isOn_22 : decode cX7_isOn 22 = .ok (.iconst 0, 1) := by decide +kernel
theorem dX7_isOn_23 : decode cX7_isOn 23 = .ok (.ireturn, 1) := by decide +kernel
theorem dX7_record_0 : decode cX7_record 0 = .ok (.aload_n 0, 1) := by decide +kernel
theorem dX7_record_1 : decode cX7_record 1 = .ok (.getfield 59, 3) := by decide +kernel
theorem dX7_record_4 : decode cX7_record 4 = .ok (.iconst 4, 1) := by decide +kernel
theorem dX7_record_5 : decode cX7_record 5 = .ok (.if_icmp .ne 44, 3) := by decide +kernel
theorem dX7_record_8 : decode cX7_record 8 = .ok (.iconst 0, 1) := by decide +kernel
theorem dX7_record_9 : decode cX7_record 9 = .ok (.istore_n 1, 1) := by decide +kernel
theorem dX7_record_10 : decode cX7_record 10 = .ok (.iload_n 1, 1) := by decide +kernel
theorem dX7_record_11 : decode cX7_record 11 = .ok (.sipush 1542, 3) := by decide +kernel
theorem dX7_record_14 : decode cX7_record 14 = .ok (.if_icmp .ge 25, 3) := by decide +kernel
theorem dX7_record_17 : decode cX7_record 17 = .ok (.aload_n 0, 1) := by decide +kernel
theorem dX7_record_18 : decode cX7_record 18 = .ok (.getfield 13, 3) := by decide +kernel
theorem dX7_record_21 : decode cX7_record 21 = .ok (.iload_n 1, 1) := by decide +kernel
theorem dX7_record_22 : decode cX7_record 22 = .ok (.aload_n 0, 1) := by decide +kernel
theorem dX7_record_23 : decode cX7_record 23 = .ok (.getfield 13, 3) := by decide +kernel
theorem dX7_record_26 : decode cX7_record 26 = .ok (.iload_n 1, 1) := by decide +kernel
theorem dX7_record_27 : decode cX7_record 27 = .ok (.sipush 514, 3) := by decide +kernel
theorem dX7_record_30 : decode cX7_record 30 = .ok (.iadd, 1) := by decide +kernel
theorem dX7_record_31 : decode cX7_record 31 = .ok (.iaload, 1) := by decide +kernel
theorem dX7_record_32 : decode cX7_record 32 = .ok (.iastore, 1) := by decide +kernel
theorem dX7_record_33 : decode cX7_record 33 = .ok (.iinc 1 1, 3) := by decide +kernel
theorem dX7_record_36 : decode cX7_record 36 = .ok (.goto (-26), 3) := by decide +kernel
theorem dX7_record_39 : decode cX7_record 39 = .ok (.aload_n 0, 1) := by decide +kernel
theorem dX7_record_40 : decode cX7_record 40 = .ok (.dup, 1) := by decide +kernel
theorem dX7_record_41 : decode cX7_record 41 = .ok (.getfield 59, 3) := by decide +kernel
theorem dX7_record_44 : decode cX7_record 44 = .ok (.iconst 1, 1) := by decide +kernel
theorem dX7_record_45 : decode cX7_record 45 = .ok (.isub, 1) := by decide +kernel
theorem dX7_record_46 : decode cX7_record 46 = .ok (.putfield 59, 3) := by decide +kernel
theorem dX7_record_49 : decode cX7_record 49 = .ok (.iconst 0, 1) := by decide +kernel
theorem dX7_record_50 : decode cX7_record 50 = .ok (.istore_n 1, 1) := by decide +kernel
theorem dX7_record_51 : decode cX7_record 51 = .ok (.iload_n 1, 1) := by decide +kernel
theorem dX7_record_52 : decode cX7_record 52 = .ok (.sipush 514, 3) := by decide +kernel
theorem dX7_record_55 : decode cX7_record 55 = .ok (.if_icmp .ge 30, 3) := by decide +kernel
theorem dX7_record_58 : decode cX7_record 58 = .ok (.aload_n 0, 1) := by decide +kernel
theorem dX7_record_59 : decode cX7_record 59 = .ok (.getfield 13, 3) := by decide +kernel
theorem dX7_record_62 : decode cX7_record 62 = .ok (.sipush 514, 3) := by decide +kernel
theorem dX7_record_65 : decode cX7_record 65 = .ok (.aload_n 0, 1) := by decide +kernel
theorem dX7_record_66 : decode cX7_record 66 = .ok (.getfield 59, 3) := by decide +kernel
theorem dX7_record_69 : decode cX7_record 69 = .ok (.imul, 1) := by decide +kernel
theorem dX7_record_70 : decode cX7_record 70 = .ok (.iload_n 1, 1) := by decide +kernel
theorem dX7_record_71 : decode cX7_record 71 = .ok (.iadd, 1) := by decide +kernel
theorem dX7_record_72 : decode cX7_record 72 = .ok (.aload_n 0, 1) := by decide +kernel
theorem dX7_record_73 : decode cX7_record 73 = .ok (.getfield 7, 3) := by decide +kernel
theorem dX7_record_76 : decode cX7_record 76 = .ok (.iload_n 1, 1) := by decide +kernel
theorem dX7_record_77 : decode cX7_record 77 = .ok (.iaload, 1) := by decide +kernel
theorem dX7_record_78 : decode cX7_record 78 = .ok (.iastore, 1) := by decide +kernel
theorem dX7_record_79 : decode cX7_record 79 = .ok (.iinc 1 1, 3) := by decide +kernel
theorem dX7_record_82 : decode cX7_record 82 = .ok (.goto (-31), 3) := by decide +kernel
theorem dX7_record_85 : decode cX7_record 85 = .ok (.aload_n 0, 1) := by decide +kernel
theorem dX7_record_86 : decode cX7_record 86 = .ok (.dup, 1) := by decide +kernel
theorem dX7_record_87 : decode cX7_record 87 = .ok (.getfield 59, 3) := by decide +kernel
theorem dX7_record_90 : decode cX7_record 90 = .ok (.iconst 1, 1) := by decide +kernel
theorem dX7_record_91 : decode cX7_record 91 = .ok (.iadd, 1) := by decide +kernel
theorem dX7_record_92 : decode cX7_record 92 = .ok (.putfield 59, 3) := by decide +kernel
theorem dX7_record_95 : decode cX7_record 95 = .ok (.return_, 1) := by decide +kernel
theorem dX7_bits_0 : decode cX7_bits 0 = .ok (.iconst 0, 1) := by decide +kernel
theorem dX7_bits_1 : decode cX7_bits 1 = .ok (.istore_n 1, 1) := by decide +kernel
theorem dX7_bits_2 : decode cX7_bits 2 = .ok (.iconst 0, 1) := by decide +kernel
theorem dX7_bits_3 : decode cX7_bits 3 = .ok (.istore_n 2, 1) := by decide +kernel
theorem dX7_bits_4 : decode cX7_bits 4 = .ok (.iload_n 2, 1) := by decide +kernel
theorem dX7_bits_5 : decode cX7_bits 5 = .ok (.bipush 16, 2) := by decide +kernel
theorem dX7_bits_7 : decode cX7_bits 7 = .ok (.if_icmp .ge 17, 3) := by decide +kernel
theorem dX7_bits_10 : decode cX7_bits 10 = .ok (.iload_n 1, 1) := by decide +kernel
theorem dX7_bits_11 : decode cX7_bits 11 = .ok (.iload_n 0, 1) := by decide +kernel
theorem dX7_bits_12 : decode cX7_bits 12 = .ok (.iload_n 2, 1) := by decide +kernel
theorem dX7_bits_13 : decode cX7_bits 13 = .ok (.ishr, 1) := by decide +kernel
theorem dX7_bits_14 : decode cX7_bits 14 = .ok (.iconst 1, 1) := by decide +kernel
theorem dX7_bits_15 : decode cX7_bits 15 = .ok (.iand, 1) := by decide +kernel
theorem dX7_bits_16 : decode cX7_bits 16 = .ok (.iadd, 1) := by decide +kernel
theorem dX7_bits_17 : decode cX7_bits 17 = .ok (.istore_n 1, 1) := by decide +kernel
theorem dX7_bits_18 : decode cX7_bits 18 = .ok (.iinc 2 1, 3) := by decide +kernel
theorem dX7_bits_21 : decode cX7_bits 21 = .ok (.goto (-17), 3) := by decide +kernel
theorem dX7_bits_24 : decode cX7_bits 24 = .ok (.iload_n 1, 1) := by decide +kernel
theorem dX7_bits_25 : decode cX7_bits 25 = .ok (.ireturn, 1) := by decide +kernel
theorem dX7_teller_0 : decode cX7_teller 0 = .ok (.aload_n 0, 1) := by decide +kernel
theorem dX7_teller_1 : decode cX7_teller 1 = .ok (.getfield 7, 3) := by decide +kernel
theorem dX7_teller_4 : decode cX7_teller 4 = .ok (.sipush 408, 3) := by decide +kernel
theorem dX7_teller_7 : decode cX7_teller 7 = .ok (.iload_n 1, 1) := by decide +kernel
theorem dX7_teller_8 : decode cX7_teller 8 = .ok (.iadd, 1) := by decide +kernel
theorem dX7_teller_9 : decode cX7_teller 9 = .ok (.iaload, 1) := by decide +kernel
theorem dX7_teller_10 : decode cX7_teller 10 = .ok (.iconst 1, 1) := by decide +kernel
theorem dX7_teller_11 : decode cX7_teller 11 = .ok (.isub, 1) := by decide +kernel
theorem dX7_teller_12 : decode cX7_teller 12 = .ok (.istore_n 3, 1) := by decide +kernel
theorem dX7_teller_13 : decode cX7_teller 13 = .ok (.iload_n 3, 1) := by decide +kernel
theorem dX7_teller_14 : decode cX7_teller 14 = .ok (.ifCond .lt 34, 3) := by decide +kernel
theorem dX7_teller_17 : decode cX7_teller 17 = .ok (.aload_n 0, 1) := by decide +kernel
theorem dX7_teller_18 : decode cX7_teller 18 = .ok (.iload_n 1, 1) := by decide +kernel
theorem dX7_teller_19 : decode cX7_teller 19 = .ok (.iload_n 3, 1) := by decide +kernel
theorem dX7_teller_20 : decode cX7_teller 20 = .ok (.invokevirtual 63, 3) := by decide +kernel
theorem dX7_teller_23 : decode cX7_teller 23 = .ok (.ifCond .eq 19, 3) := by decide +kernel
theorem dX7_teller_26 : decode cX7_teller 26 = .ok (.aload_n 0, 1) := by decide +kernel
theorem dX7_teller_27 : decode cX7_teller 27 = .ok (.getfield 7, 3) := by decide +kernel
theorem dX7_teller_30 : decode cX7_teller 30 = .ok (.iload_n 1, 1) := by decide +kernel
theorem dX7_teller_31 : decode cX7_teller 31 = .ok (.iload_n 3, 1) := by decide +kernel
theorem dX7_teller_32 : decode cX7_teller 32 = .ok (.iload_n 2, 1) := by decide +kernel
theorem dX7_teller_33 : decode cX7_teller 33 = .ok (.invokestatic 67, 3) := by decide +kernel
theorem dX7_teller_36 : decode cX7_teller 36 = .ok (.iaload, 1) := by decide +kernel
theorem dX7_teller_37 : decode cX7_teller 37 = .ok (.bipush 17, 2) := by decide +kernel
theorem dX7_teller_39 : decode cX7_teller 39 = .ok (.if_icmp .ne 9, 3) := by decide +kernel
theorem dX7_teller_42 : decode cX7_teller 42 = .ok (.iinc 3 (-1), 3) := by decide +kernel
theorem dX7_teller_45 : decode cX7_teller 45 = .ok (.goto (-32), 3) := by decide +kernel
theorem dX7_teller_48 : decode cX7_teller 48 = .ok (.iload_n 3, 1) := by decide +kernel
theorem dX7_teller_49 : decode cX7_teller 49 = .ok (.ifCond .ge 8, 3) := by decide +kernel
theorem dX7_teller_52 : decode cX7_teller 52 = .ok (.bipush (-5), 2) := by decide +kernel
theorem dX7_teller_54 : decode cX7_teller 54 = .ok (.goto 4, 3) := by decide +kernel
theorem dX7_teller_57 : decode cX7_teller 57 = .ok (.iload_n 3, 1) := by decide +kernel
theorem dX7_teller_58 : decode cX7_teller 58 = .ok (.ireturn, 1) := by decide +kernel
theorem dX7_value_0 : decode cX7_value 0 = .ok (.aload_n 0, 1) := by decide +kernel
theorem dX7_value_1 : decode cX7_value 1 = .ok (.iload_n 1, 1) := by decide +kernel
theorem dX7_value_2 : decode cX7_value 2 = .ok (.iload_n 2, 1) := by decide +kernel
theorem dX7_value_3 : decode cX7_value 3 = .ok (.invokevirtual 71, 3) := by decide +kernel
theorem dX7_value_6 : decode cX7_value 6 = .ok (.istore_n 3, 1) := by decide +kernel
theorem dX7_value_7 : decode cX7_value 7 = .ok (.iload_n 3, 1) := by decide +kernel
theorem dX7_value_8 : decode cX7_value 8 = .ok (.bipush (-5), 2) := by decide +kernel
theorem dX7_value_10 : decode cX7_value 10 = .ok (.if_icmp .ne 8, 3) := by decide +kernel
theorem dX7_value_13 : decode cX7_value 13 = .ok (.bipush 16, 2) := by decide +kernel
theorem dX7_value_15 : decode cX7_value 15 = .ok (.goto 14, 3) := by decide +kernel
theorem dX7_value_18 : decode cX7_value 18 = .ok (.aload_n 0, 1) := by decide +kernel
theorem dX7_value_19 : decode cX7_value 19 = .ok (.getfield 7, 3) := by decide +kernel
theorem dX7_value_22 : decode cX7_value 22 = .ok (.iload_n 1, 1) := by decide +kernel
theorem dX7_value_23 : decode cX7_value 23 = .ok (.iload_n 3, 1) := by decide +kernel
theorem dX7_value_24 : decode cX7_value 24 = .ok (.iload_n 2, 1) := by decide +kernel
theorem dX7_value_25 : decode cX7_value 25 = .ok (.invokestatic 67, 3) := by decide +kernel
theorem dX7_value_28 : decode cX7_value 28 = .ok (.iaload, 1) := by decide +kernel
theorem dX7_value_29 : decode cX7_value 29 = .ok (.ireturn, 1) := by decide +kernel
theorem dX7_remembers_0 : decode cX7_remembers 0 = .ok (.iconst 0, 1) := by decide +kernel
theorem dX7_remembers_1 : decode cX7_remembers 1 = .ok (.istore_n 2, 1) := by decide +kernel
theorem dX7_remembers_2 : decode cX7_remembers 2 = .ok (.iload_n 2, 1) := by decide +kernel
theorem dX7_remembers_3 : decode cX7_remembers 3 = .ok (.bipush 16, 2) := by decide +kernel
theorem dX7_remembers_5 : decode cX7_remembers 5 = .ok (.if_icmp .ge 21, 3) := by decide +kernel
theorem dX7_remembers_8 : decode cX7_remembers 8 = .ok (.aload_n 0, 1) := by decide +kernel
theorem dX7_remembers_9 : decode cX7_remembers 9 = .ok (.getfield 19, 3) := by decide +kernel
theorem dX7_remembers_12 : decode cX7_remembers 12 = .ok (.iload_n 2, 1) := by decide +kernel
theorem dX7_remembers_13 : decode cX7_remembers 13 = .ok (.aload_n 0, 1) := by decide +kernel
theorem dX7_remembers_14 : decode cX7_remembers 14 = .ok (.iload_n 1, 1) := by decide +kernel
theorem dX7_remembers_15 : decode cX7_remembers 15 = .ok (.iload_n 2, 1) := by decide +kernel
theorem dX7_remembers_16 : decode cX7_remembers 16 = .ok (.invokevirtual 75, 3) := by decide +kernel
theorem dX7_remembers_19 : decode cX7_remembers 19 = .ok (.iastore, 1) := by decide +kernel
theorem dX7_remembers_20 : decode cX7_remembers 20 = .ok (.iinc 2 1, 3) := by decide +kernel
theorem dX7_remembers_23 : decode cX7_remembers 23 = .ok (.goto (-21), 3) := by decide +kernel
theorem dX7_remembers_26 : decode cX7_remembers 26 = .ok (.return_, 1) := by decide +kernel
theorem dX7_changed_0 : decode cX7_changed 0 = .ok (.iconst 0, 1) := by decide +kernel
theorem dX7_changed_1 : decode cX7_changed 1 = .ok (.istore_n 2, 1) := by decide +kernel
theorem dX7_changed_2 : decode cX7_changed 2 = .ok (.iconst 0, 1) := by decide +kernel
theorem dX7_changed_3 : decode cX7_changed 3 = .ok (.istore_n 3, 1) := by decide +kernel
theorem dX7_changed_4 : decode cX7_changed 4 = .ok (.iload_n 3, 1) := by decide +kernel
theorem dX7_changed_5 : decode cX7_changed 5 = .ok (.bipush 16, 2) := by decide +kernel
theorem dX7_changed_7 : decode cX7_changed 7 = .ok (.if_icmp .ge 32, 3) := by decide +kernel
theorem dX7_changed_10 : decode cX7_changed 10 = .ok (.iload_n 2, 1) := by decide +kernel
theorem dX7_changed_11 : decode cX7_changed 11 = .ok (.aload_n 0, 1) := by decide +kernel
theorem dX7_changed_12 : decode cX7_changed 12 = .ok (.getfield 19, 3) := by decide +kernel
theorem dX7_changed_15 : decode cX7_changed 15 = .ok (.iload_n 3, 1) := by decide +kernel
theorem dX7_changed_16 : decode cX7_changed 16 = .ok (.iaload, 1) := by decide +kernel
theorem dX7_changed_17 : decode cX7_changed 17 = .ok (.aload_n 0, 1) := by decide +kernel
theorem dX7_changed_18 : decode cX7_changed 18 = .ok (.iload_n 1, 1) := by decide +kernel
theorem dX7_changed_19 : decode cX7_changed 19 = .ok (.iload_n 3, 1) := by decide +kernel
theorem dX7_changed_20 : decode cX7_changed 20 = .ok (.invokevirtual 75, 3) := by decide +kernel
theorem dX7_changed_23 : decode cX7_changed 23 = .ok (.if_icmp .ne 7, 3) := by decide +kernel
theorem dX7_changed_26 : decode cX7_changed 26 = .ok (.iconst 0, 1) := by decide +kernel
theorem dX7_changed_27 : decode cX7_changed 27 = .ok (.goto 4, 3) := by decide +kernel
theorem dX7_changed_30 : decode cX7_changed 30 = .ok (.iconst 1, 1) := by decide +kernel
theorem dX7_changed_31 : decode cX7_changed 31 = .ok (.iadd, 1) := by decide +kernel
theorem dX7_changed_32 : decode cX7_changed 32 = .ok (.istore_n 2, 1) := by decide +kernel
theorem dX7_changed_33 : decode cX7_changed 33 = .ok (.iinc 3 1, 3) := by decide +kernel
theorem dX7_changed_36 : decode cX7_changed 36 = .ok (.goto (-32), 3) := by decide +kernel
theorem dX7_changed_39 : decode cX7_changed 39 = .ok (.iload_n 2, 1) := by decide +kernel
theorem dX7_changed_40 : decode cX7_changed 40 = .ok (.ireturn, 1) := by decide +kernel
theorem dX7_entries_0 : decode cX7_entries 0 = .ok (.iconst 0, 1) := by decide +kernel
theorem dX7_entries_1 : decode cX7_entries 1 = .ok (.istore 4, 2) := by decide +kernel
theorem dX7_entries_3 : decode cX7_entries 3 = .ok (.iconst 0, 1) := by decide +kernel
theorem dX7_entries_4 : decode cX7_entries 4 = .ok (.istore 5, 2) := by decide +kernel
theorem dX7_entries_6 : decode cX7_entries 6 = .ok (.iload 5, 2) := by decide +kernel
theorem dX7_entries_8 : decode cX7_entries 8 = .ok (.bipush 16, 2) := by decide +kernel
theorem dX7_entries_10 : decode cX7_entries 10 = .ok (.if_icmp .ge 93, 3) := by decide +kernel
theorem dX7_entries_13 : decode cX7_entries 13 = .ok (.aload_n 0, 1) := by decide +kernel
theorem dX7_entries_14 : decode cX7_entries 14 = .ok (.getfield 7, 3) := by decide +kernel
theorem dX7_entries_17 : decode cX7_entries 17 = .ok (.iload_n 1, 1) := by decide +kernel
theorem dX7_entries_18 : decode cX7_entries 18 = .ok (.iload_n 2, 1) := by decide +kernel
theorem dX7_entries_19 : decode cX7_entries 19 = .ok (.iload 5, 2) := by decide +kernel
theorem dX7_entries_21 : decode cX7_entries 21 = .ok (.invokestatic 67, 3) := by decide +kernel
theorem dX7_entries_24 : decode cX7_entries 24 = .ok (.iaload, 1) := by decide +kernel
theorem dX7_entries_25 : decode cX7_entries 25 = .ok (.istore 6, 2) := by decide +kernel
theorem dX7_entries_27 : decode cX7_entries 27 = .ok (.iload 6, 2) := by decide +kernel
theorem dX7_entries_29 : decode cX7_entries 29 = .ok (.bipush 17, 2) := by decide +kernel
theorem dX7_entries_31 : decode cX7_entries 31 = .ok (.if_icmp .eq 48, 3) := by decide +kernel
theorem dX7_entries_34 : decode cX7_entries 34 = .ok (.iload_n 3, 1) := by decide +kernel
theorem dX7_entries_35 : decode cX7_entries 35 = .ok (.ifCond .eq 40, 3) := by decide +kernel
theorem dX7_entries_38 : decode cX7_entries 38 = .ok (.iload_n 3, 1) := by decide +kernel
theorem dX7_entries_39 : decode cX7_entries 39 = .ok (.iconst 1, 1) := by decide +kernel
theorem dX7_entries_40 : decode cX7_entries 40 = .ok (.if_icmp .ne 10, 3) := by decide +kernel
theorem dX7_entries_43 : decode cX7_entries 43 = .ok (.iload 6, 2) := by decide +kernel
theorem dX7_entries_45 : decode cX7_entries 45 = .ok (.bipush 16, 2) := by decide +kernel
theorem dX7_entries_47 : decode cX7_entries 47 = .ok (.if_icmp .eq 28, 3) := by decide +kernel
theorem dX7_entries_50 : decode cX7_entries 50 = .ok (.iload_n 3, 1) := by decide +kernel
theorem dX7_entries_51 : decode cX7_entries 51 = .ok (.iconst 2, 1) := by decide +kernel
theorem dX7_entries_52 : decode cX7_entries 52 = .ok (.if_icmp .ne 27, 3) := by decide +kernel
theorem dX7_entries_55 : decode cX7_entries 55 = .ok (.aload_n 0, 1) := by decide +kernel
theorem dX7_entries_56 : decode cX7_entries 56 = .ok (.iload_n 1, 1) := by decide +kernel
theorem dX7_entries_57 : decode cX7_entries 57 = .ok (.iload_n 2, 1) := by decide +kernel
theorem dX7_entries_58 : decode cX7_entries 58 = .ok (.invokevirtual 63, 3) := by decide +kernel
theorem dX7_entries_61 : decode cX7_entries 61 = .ok (.ifCond .eq 18, 3) := by decide +kernel
theorem dX7_entries_64 : decode cX7_entries 64 = .ok (.aload_n 0, 1) := by decide +kernel
theorem dX7_entries_65 : decode cX7_entries 65 = .ok (.iload_n 1, 1) := by decide +kernel
theorem dX7_entries_66 : decode cX7_entries 66 = .ok (.iload 5, 2) := by decide +kernel
theorem dX7_entries_68 : decode cX7_entries 68 = .ok (.invokevirtual 71, 3) := by decide +kernel
theorem dX7_entries_71 : decode cX7_entries 71 = .ok (.iload_n 2, 1) := by decide +kernel
theorem dX7_entries_72 : decode cX7_entries 72 = .ok (.if_icmp .eq 7, 3) := by decide +kernel
theorem dX7_entries_75 : decode cX7_entries 75 = .ok (.iconst 1, 1) := by decide +kernel
theorem dX7_entries_76 : decode cX7_entries 76 = .ok (.goto 4, 3) := by decide +kernel
theorem dX7_entries_79 : decode cX7_entries 79 = .ok (.iconst 0, 1) := by decide +kernel
theorem dX7_entries_80 : decode cX7_entries 80 = .ok (.istore 7, 2) := by decide +kernel
theorem dX7_entries_82 : decode cX7_entries 82 = .ok (.iload 4, 2) := by decide +kernel
theorem dX7_entries_84 : decode cX7_entries 84 = .ok (.iload 7, 2) := by decide +kernel
theorem dX7_entries_86 : decode cX7_entries 86 = .ok (.ifCond .eq 7, 3) := by decide +kernel
theorem dX7_entries_89 : decode cX7_entries 89 = .ok (.iconst 1, 1) := by decide +kernel
theorem dX7_entries_90 : decode cX7_entries 90 = .ok (.goto 4, 3) := by decide +kernel
theorem dX7_entries_93 : decode cX7_entries 93 = .ok (.iconst 0, 1) := by decide +kernel
theorem dX7_entries_94 : decode cX7_entries 94 = .ok (.iadd, 1) := by decide +kernel
theorem dX7_entries_95 : decode cX7_entries 95 = .ok (.istore 4, 2) := by decide +kernel
theorem dX7_entries_97 : decode cX7_entries 97 = .ok (.iinc 5 1, 3) := by decide +kernel
theorem dX7_entries_100 : decode cX7_entries 100 = .ok (.goto (-94), 3) := by decide +kernel
theorem dX7_entries_103 : decode cX7_entries 103 = .ok (.iload 4, 2) := by decide +kernel
theorem dX7_entries_105 : decode cX7_entries 105 = .ok (.ireturn, 1) := by decide +kernel
theorem dX7_shadowed_0 : decode cX7_shadowed 0 = .ok (.iconst 0, 1) := by decide +kernel
theorem dX7_shadowed_1 : decode cX7_shadowed 1 = .ok (.istore_n 2, 1) := by decide +kernel
theorem dX7_shadowed_2 : decode cX7_shadowed 2 = .ok (.iconst 0, 1) := by decide +kernel
theorem dX7_shadowed_3 : decode cX7_shadowed 3 = .ok (.istore_n 3, 1) := by decide +kernel
theorem dX7_shadowed_4 : decode cX7_shadowed 4 = .ok (.iload_n 3, 1) := by decide +kernel
theorem dX7_shadowed_5 : decode cX7_shadowed 5 = .ok (.aload_n 0, 1) := by decide +kernel
theorem dX7_shadowed_6 : decode cX7_shadowed 6 = .ok (.getfield 7, 3) := by decide +kernel
theorem dX7_shadowed_9 : decode cX7_shadowed 9 = .ok (.sipush 408, 3) := by decide +kernel
theorem dX7_shadowed_12 : decode cX7_shadowed 12 = .ok (.iload_n 1, 1) := by decide +kernel
theorem dX7_shadowed_13 : decode cX7_shadowed 13 = .ok (.iadd, 1) := by decide +kernel
theorem dX7_shadowed_14 : decode cX7_shadowed 14 = .ok (.iaload, 1) := by decide +kernel
theorem dX7_shadowed_15 : decode cX7_shadowed 15 = .ok (.if_icmp .ge 19, 3) := by decide +kernel
theorem dX7_shadowed_18 : decode cX7_shadowed 18 = .ok (.iload_n 2, 1) := by decide +kernel
theorem dX7_shadowed_19 : decode cX7_shadowed 19 = .ok (.aload_n 0, 1) := by decide +kernel
theorem dX7_shadowed_20 : decode cX7_shadowed 20 = .ok (.iload_n 1, 1) := by decide +kernel
theorem dX7_shadowed_21 : decode cX7_shadowed 21 = .ok (.iload_n 3, 1) := by decide +kernel
theorem dX7_shadowed_22 : decode cX7_shadowed 22 = .ok (.iconst 2, 1) := by decide +kernel
theorem dX7_shadowed_23 : decode cX7_shadowed 23 = .ok (.invokevirtual 78, 3) := by decide +kernel
theorem dX7_shadowed_26 : decode cX7_shadowed 26 = .ok (.iadd, 1) := by decide +kernel
theorem dX7_shadowed_27 : decode cX7_shadowed 27 = .ok (.istore_n 2, 1) := by decide +kernel
theorem dX7_shadowed_28 : decode cX7_shadowed 28 = .ok (.iinc 3 1, 3) := by decide +kernel
theorem dX7_shadowed_31 : decode cX7_shadowed 31 = .ok (.goto (-27), 3) := by decide +kernel
theorem dX7_shadowed_34 : decode cX7_shadowed 34 = .ok (.iload_n 2, 1) := by decide +kernel
theorem dX7_shadowed_35 : decode cX7_shadowed 35 = .ok (.ireturn, 1) := by decide +kernel
theorem dX7_becomes_0 : decode cX7_becomes 0 = .ok (.aload_n 0, 1) := by decide +kernel
theorem dX7_becomes_1 : decode cX7_becomes 1 = .ok (.getfield 7, 3) := by decide +kernel
theorem dX7_becomes_4 : decode cX7_becomes 4 = .ok (.sipush 408, 3) := by decide +kernel
theorem dX7_becomes_7 : decode cX7_becomes 7 = .ok (.iload_n 1, 1) := by decide +kernel
theorem dX7_becomes_8 : decode cX7_becomes 8 = .ok (.iadd, 1) := by decide +kernel
theorem dX7_becomes_9 : decode cX7_becomes 9 = .ok (.iconst 1, 1) := by decide +kernel
theorem dX7_becomes_10 : decode cX7_becomes 10 = .ok (.iastore, 1) := by decide +kernel
theorem dX7_becomes_11 : decode cX7_becomes 11 = .ok (.aload_n 0, 1) := by decide +kernel
theorem dX7_becomes_12 : decode cX7_becomes 12 = .ok (.getfield 7, 3) := by decide +kernel
theorem dX7_becomes_15 : decode cX7_becomes 15 = .ok (.sipush 384, 3) := by decide +kernel
theorem dX7_becomes_18 : decode cX7_becomes 18 = .ok (.iconst 4, 1) := by decide +kernel
theorem dX7_becomes_19 : decode cX7_becomes 19 = .ok (.iload_n 1, 1) := by decide +kernel
theorem dX7_becomes_20 : decode cX7_becomes 20 = .ok (.imul, 1) := by decide +kernel
theorem dX7_becomes_21 : decode cX7_becomes 21 = .ok (.iadd, 1) := by decide +kernel
theorem dX7_becomes_22 : decode cX7_becomes 22 = .ok (.iconst 1, 1) := by decide +kernel
theorem dX7_becomes_23 : decode cX7_becomes 23 = .ok (.iastore, 1) := by decide +kernel
theorem dX7_becomes_24 : decode cX7_becomes 24 = .ok (.iconst 0, 1) := by decide +kernel
theorem dX7_becomes_25 : decode cX7_becomes 25 = .ok (.istore_n 3, 1) := by decide +kernel
theorem dX7_becomes_26 : decode cX7_becomes 26 = .ok (.iconst 0, 1) := by decide +kernel
theorem dX7_becomes_27 : decode cX7_becomes 27 = .ok (.istore 4, 2) := by decide +kernel
theorem dX7_becomes_29 : decode cX7_becomes 29 = .ok (.iload 4, 2) := by decide +kernel
theorem dX7_becomes_31 : decode cX7_becomes 31 = .ok (.bipush 16, 2) := by decide +kernel
theorem dX7_becomes_33 : decode cX7_becomes 33 = .ok (.if_icmp .ge 56, 3) := by decide +kernel
theorem dX7_becomes_36 : decode cX7_becomes 36 = .ok (.aload_n 0, 1) := by decide +kernel
theorem dX7_becomes_37 : decode cX7_becomes 37 = .ok (.getfield 7, 3) := by decide +kernel
theorem dX7_becomes_40 : decode cX7_becomes 40 = .ok (.iload_n 1, 1) := by decide +kernel
theorem dX7_becomes_41 : decode cX7_becomes 41 = .ok (.iconst 0, 1) := by decide +kernel
theorem dX7_becomes_42 : decode cX7_becomes 42 = .ok (.iload 4, 2) := by decide +kernel
theorem dX7_becomes_44 : decode cX7_becomes 44 = .ok (.invokestatic 67, 3) := by decide +kernel
theorem dX7_becomes_47 : decode cX7_becomes 47 = .ok (.aload_n 2, 1) := by decide +kernel
theorem dX7_becomes_48 : decode cX7_becomes 48 = .ok (.iload 4, 2) := by decide +kernel
theorem dX7_becomes_50 : decode cX7_becomes 50 = .ok (.iaload, 1) := by decide +kernel
theorem dX7_becomes_51 : decode cX7_becomes 51 = .ok (.bipush 16, 2) := by decide +kernel
theorem dX7_becomes_53 : decode cX7_becomes 53 = .ok (.if_icmp .ne 8, 3) := by decide +kernel
theorem dX7_becomes_56 : decode cX7_becomes 56 = .ok (.bipush 17, 2) := by decide +kernel
theorem dX7_becomes_58 : decode cX7_becomes 58 = .ok (.goto 7, 3) := by decide +kernel
theorem dX7_becomes_61 : decode cX7_becomes 61 = .ok (.aload_n 2, 1) := by decide +kernel
theorem dX7_becomes_62 : decode cX7_becomes 62 = .ok (.iload 4, 2) := by decide +kernel
theorem dX7_becomes_64 : decode cX7_becomes 64 = .ok (.iaload, 1) := by decide +kernel
theorem dX7_becomes_65 : decode cX7_becomes 65 = .ok (.iastore, 1) := by decide +kernel
theorem dX7_becomes_66 : decode cX7_becomes 66 = .ok (.iload_n 3, 1) := by decide +kernel
theorem dX7_becomes_67 : decode cX7_becomes 67 = .ok (.aload_n 2, 1) := by decide +kernel
theorem dX7_becomes_68 : decode cX7_becomes 68 = .ok (.iload 4, 2) := by decide +kernel
theorem dX7_becomes_70 : decode cX7_becomes 70 = .ok (.iaload, 1) := by decide +kernel
theorem dX7_becomes_71 : decode cX7_becomes 71 = .ok (.bipush 16, 2) := by decide +kernel
theorem dX7_becomes_73 : decode cX7_becomes 73 = .ok (.if_icmp .ne 7, 3) := by decide +kernel
theorem dX7_becomes_76 : decode cX7_becomes 76 = .ok (.iconst 0, 1) := by decide +kernel
theorem dX7_becomes_77 : decode cX7_becomes 77 = .ok (.goto 4, 3) := by decide +kernel
theorem dX7_becomes_80 : decode cX7_becomes 80 = .ok (.iconst 1, 1) := by decide +kernel
theorem dX7_becomes_81 : decode cX7_becomes 81 = .ok (.iadd, 1) := by decide +kernel
theorem dX7_becomes_82 : decode cX7_becomes 82 = .ok (.istore_n 3, 1) := by decide +kernel
theorem dX7_becomes_83 : decode cX7_becomes 83 = .ok (.iinc 4 1, 3) := by decide +kernel
theorem dX7_becomes_86 : decode cX7_becomes 86 = .ok (.goto (-57), 3) := by decide +kernel
theorem dX7_becomes_89 : decode cX7_becomes 89 = .ok (.iload_n 3, 1) := by decide +kernel
theorem dX7_becomes_90 : decode cX7_becomes 90 = .ok (.ireturn, 1) := by decide +kernel
theorem dX7_push_0 : decode cX7_push 0 = .ok (.iload_n 1, 1) := by decide +kernel
theorem dX7_push_1 : decode cX7_push 1 = .ok (.invokestatic 55, 3) := by decide +kernel
theorem dX7_push_4 : decode cX7_push 4 = .ok (.ifCond .eq 5, 3) := by decide +kernel
theorem dX7_push_7 : decode cX7_push 7 = .ok (.iconst (-1), 1) := by decide +kernel
theorem dX7_push_8 : decode cX7_push 8 = .ok (.ireturn, 1) := by decide +kernel
theorem dX7_push_9 : decode cX7_push 9 = .ok (.aload_n 0, 1) := by decide +kernel
theorem dX7_push_10 : decode cX7_push 10 = .ok (.invokevirtual 81, 3) := by decide +kernel
theorem dX7_push_13 : decode cX7_push 13 = .ok (.ifCond .ne 11, 3) := by decide +kernel
theorem dX7_push_16 : decode cX7_push 16 = .ok (.bipush (-100), 2) := by decide +kernel
theorem dX7_push_18 : decode cX7_push 18 = .ok (.aload_n 0, 1) := by decide +kernel
theorem dX7_push_19 : decode cX7_push 19 = .ok (.getfield 85, 3) := by decide +kernel
theorem dX7_push_22 : decode cX7_push 22 = .ok (.isub, 1) := by decide +kernel
theorem dX7_push_23 : decode cX7_push 23 = .ok (.ireturn, 1) := by decide +kernel
theorem dX7_push_24 : decode cX7_push 24 = .ok (.aload_n 0, 1) := by decide +kernel
theorem dX7_push_25 : decode cX7_push 25 = .ok (.getfield 7, 3) := by decide +kernel
theorem dX7_push_28 : decode cX7_push 28 = .ok (.sipush 408, 3) := by decide +kernel
theorem dX7_push_31 : decode cX7_push 31 = .ok (.iload_n 1, 1) := by decide +kernel
theorem dX7_push_32 : decode cX7_push 32 = .ok (.iadd, 1) := by decide +kernel
theorem dX7_push_33 : decode cX7_push 33 = .ok (.iaload, 1) := by decide +kernel
theorem dX7_push_34 : decode cX7_push 34 = .ok (.istore_n 2, 1) := by decide +kernel
theorem dX7_push_35 : decode cX7_push 35 = .ok (.iload_n 2, 1) := by decide +kernel
theorem dX7_push_36 : decode cX7_push 36 = .ok (.iconst 4, 1) := by decide +kernel
theorem dX7_push_37 : decode cX7_push 37 = .ok (.if_icmp .ne 6, 3) := by decide +kernel
theorem dX7_push_40 : decode cX7_push 40 = .ok (.bipush (-3), 2) := by decide +kernel
theorem dX7_push_42 : decode cX7_push 42 = .ok (.ireturn, 1) := by decide +kernel
theorem dX7_push_43 : decode cX7_push 43 = .ok (.aload_n 0, 1) := by decide +kernel
theorem dX7_push_44 : decode cX7_push 44 = .ok (.invokevirtual 88, 3) := by decide +kernel
theorem dX7_push_47 : decode cX7_push 47 = .ok (.iconst 0, 1) := by decide +kernel
theorem dX7_push_48 : decode cX7_push 48 = .ok (.istore_n 3, 1) := by decide +kernel
theorem dX7_push_49 : decode cX7_push 49 = .ok (.iload_n 3, 1) := by decide +kernel
theorem dX7_push_50 : decode cX7_push 50 = .ok (.bipush 16, 2) := by decide +kernel
theorem dX7_push_52 : decode cX7_push 52 = .ok (.if_icmp .ge 26, 3) := by decide +kernel
theorem dX7_push_55 : decode cX7_push 55 = .ok (.aload_n 0, 1) := by decide +kernel
theorem dX7_push_56 : decode cX7_push 56 = .ok (.getfield 7, 3) := by decide +kernel
theorem dX7_push_59 : decode cX7_push 59 = .ok (.iload_n 1, 1) := by decide +kernel
theorem dX7_push_60 : decode cX7_push 60 = .ok (.iload_n 2, 1) := by decide +kernel
theorem dX7_push_61 : decode cX7_push 61 = .ok (.iload_n 3, 1) := by decide +kernel
theorem dX7_push_62 : decode cX7_push 62 = .ok (.invokestatic 67, 3) := by decide +kernel
theorem dX7_push_65 : decode cX7_push 65 = .ok (.aload_n 0, 1) := by decide +kernel
theorem dX7_push_66 : decode cX7_push 66 = .ok (.getfield 22, 3) := by decide +kernel
theorem dX7_push_69 : decode cX7_push 69 = .ok (.iload_n 3, 1) := by decide +kernel
theorem dX7_push_70 : decode cX7_push 70 = .ok (.iaload, 1) := by decide +kernel
theorem dX7_push_71 : decode cX7_push 71 = .ok (.iastore, 1) := by decide +kernel
theorem dX7_push_72 : decode cX7_push 72 = .ok (.iinc 3 1, 3) := by decide +kernel
theorem dX7_push_75 : decode cX7_push 75 = .ok (.goto (-26), 3) := by decide +kernel
theorem dX7_push_78 : decode cX7_push 78 = .ok (.aload_n 0, 1) := by decide +kernel
theorem dX7_push_79 : decode cX7_push 79 = .ok (.getfield 7, 3) := by decide +kernel
theorem dX7_push_82 : decode cX7_push 82 = .ok (.sipush 384, 3) := by decide +kernel
theorem dX7_push_85 : decode cX7_push 85 = .ok (.iconst 4, 1) := by decide +kernel
theorem dX7_push_86 : decode cX7_push 86 = .ok (.iload_n 1, 1) := by decide +kernel
theorem dX7_push_87 : decode cX7_push 87 = .ok (.imul, 1) := by decide +kernel
theorem dX7_push_88 : decode cX7_push 88 = .ok (.iadd, 1) := by decide +kernel
theorem dX7_push_89 : decode cX7_push 89 = .ok (.iload_n 2, 1) := by decide +kernel
theorem dX7_push_90 : decode cX7_push 90 = .ok (.iadd, 1) := by decide +kernel
theorem dX7_push_91 : decode cX7_push 91 = .ok (.iconst 1, 1) := by decide +kernel
theorem dX7_push_92 : decode cX7_push 92 = .ok (.iastore, 1) := by decide +kernel
theorem dX7_push_93 : decode cX7_push 93 = .ok (.aload_n 0, 1) := by decide +kernel
theorem dX7_push_94 : decode cX7_push 94 = .ok (.getfield 7, 3) := by decide +kernel
theorem dX7_push_97 : decode cX7_push 97 = .ok (.sipush 408, 3) := by decide +kernel
theorem dX7_push_100 : decode cX7_push 100 = .ok (.iload_n 1, 1) := by decide +kernel
theorem dX7_push_101 : decode cX7_push 101 = .ok (.iadd, 1) := by decide +kernel
theorem dX7_push_102 : decode cX7_push 102 = .ok (.dup2, 1) := by decide +kernel
theorem dX7_push_103 : decode cX7_push 103 = .ok (.iaload, 1) := by decide +kernel
theorem dX7_push_104 : decode cX7_push 104 = .ok (.iconst 1, 1) := by decide +kernel
theorem dX7_push_105 : decode cX7_push 105 = .ok (.iadd, 1) := by decide +kernel
theorem dX7_push_106 : decode cX7_push 106 = .ok (.iastore, 1) := by decide +kernel
theorem dX7_push_107 : decode cX7_push 107 = .ok (.aload_n 0, 1) := by decide +kernel
theorem dX7_push_108 : decode cX7_push 108 = .ok (.getfield 7, 3) := by decide +kernel
theorem dX7_push_111 : decode cX7_push 111 = .ok (.sipush 408, 3) := by decide +kernel
theorem dX7_push_114 : decode cX7_push 114 = .ok (.iload_n 1, 1) := by decide +kernel
theorem dX7_push_115 : decode cX7_push 115 = .ok (.iadd, 1) := by decide +kernel
theorem dX7_push_116 : decode cX7_push 116 = .ok (.iaload, 1) := by decide +kernel
theorem dX7_push_117 : decode cX7_push 117 = .ok (.ireturn, 1) := by decide +kernel
theorem dX7_pop_0 : decode cX7_pop 0 = .ok (.iload_n 1, 1) := by decide +kernel
theorem dX7_pop_1 : decode cX7_pop 1 = .ok (.invokestatic 55, 3) := by decide +kernel
theorem dX7_pop_4 : decode cX7_pop 4 = .ok (.ifCond .eq 5, 3) := by decide +kernel
theorem dX7_pop_7 : decode cX7_pop 7 = .ok (.iconst (-1), 1) := by decide +kernel
theorem dX7_pop_8 : decode cX7_pop 8 = .ok (.ireturn, 1) := by decide +kernel
theorem dX7_pop_9 : decode cX7_pop 9 = .ok (.aload_n 0, 1) := by decide +kernel
theorem dX7_pop_10 : decode cX7_pop 10 = .ok (.getfield 7, 3) := by decide +kernel
theorem dX7_pop_13 : decode cX7_pop 13 = .ok (.sipush 408, 3) := by decide +kernel
theorem dX7_pop_16 : decode cX7_pop 16 = .ok (.iload_n 1, 1) := by decide +kernel
theorem dX7_pop_17 : decode cX7_pop 17 = .ok (.iadd, 1) := by decide +kernel
theorem dX7_pop_18 : decode cX7_pop 18 = .ok (.iaload, 1) := by decide +kernel
theorem dX7_pop_19 : decode cX7_pop 19 = .ok (.ifCond .ne 6, 3) := by decide +kernel
theorem dX7_pop_22 : decode cX7_pop 22 = .ok (.bipush (-5), 2) := by decide +kernel
theorem dX7_pop_24 : decode cX7_pop 24 = .ok (.ireturn, 1) := by decide +kernel
theorem dX7_pop_25 : decode cX7_pop 25 = .ok (.aload_n 0, 1) := by decide +kernel
theorem dX7_pop_26 : decode cX7_pop 26 = .ok (.invokevirtual 88, 3) := by decide +kernel
theorem dX7_pop_29 : decode cX7_pop 29 = .ok (.aload_n 0, 1) := by decide +kernel
theorem dX7_pop_30 : decode cX7_pop 30 = .ok (.getfield 7, 3) := by decide +kernel
theorem dX7_pop_33 : decode cX7_pop 33 = .ok (.sipush 408, 3) := by decide +kernel
theorem dX7_pop_36 : decode cX7_pop 36 = .ok (.iload_n 1, 1) := by decide +kernel
theorem dX7_pop_37 : decode cX7_pop 37 = .ok (.iadd, 1) := by decide +kernel
theorem dX7_pop_38 : decode cX7_pop 38 = .ok (.dup2, 1) := by decide +kernel
theorem dX7_pop_39 : decode cX7_pop 39 = .ok (.iaload, 1) := by decide +kernel
theorem dX7_pop_40 : decode cX7_pop 40 = .ok (.iconst 1, 1) := by decide +kernel
theorem dX7_pop_41 : decode cX7_pop 41 = .ok (.isub, 1) := by decide +kernel
theorem dX7_pop_42 : decode cX7_pop 42 = .ok (.iastore, 1) := by decide +kernel
theorem dX7_pop_43 : decode cX7_pop 43 = .ok (.aload_n 0, 1) := by decide +kernel
theorem dX7_pop_44 : decode cX7_pop 44 = .ok (.iload_n 1, 1) := by decide +kernel
theorem dX7_pop_45 : decode cX7_pop 45 = .ok (.aload_n 0, 1) := by decide +kernel
theorem dX7_pop_46 : decode cX7_pop 46 = .ok (.getfield 7, 3) := by decide +kernel
theorem dX7_pop_49 : decode cX7_pop 49 = .ok (.sipush 408, 3) := by decide +kernel
theorem dX7_pop_52 : decode cX7_pop 52 = .ok (.iload_n 1, 1) := by decide +kernel
theorem dX7_pop_53 : decode cX7_pop 53 = .ok (.iadd, 1) := by decide +kernel
theorem dX7_pop_54 : decode cX7_pop 54 = .ok (.iaload, 1) := by decide +kernel
theorem dX7_pop_55 : decode cX7_pop 55 = .ok (.iconst 0, 1) := by decide +kernel
theorem dX7_pop_56 : decode cX7_pop 56 = .ok (.invokevirtual 78, 3) := by decide +kernel
theorem dX7_pop_59 : decode cX7_pop 59 = .ok (.ireturn, 1) := by decide +kernel
theorem dX7_turn_0 : decode cX7_turn 0 = .ok (.aload_n 0, 1) := by decide +kernel
theorem dX7_turn_1 : decode cX7_turn 1 = .ok (.iload_n 1, 1) := by decide +kernel
theorem dX7_turn_2 : decode cX7_turn 2 = .ok (.iload_n 2, 1) := by decide +kernel
theorem dX7_turn_3 : decode cX7_turn 3 = .ok (.invokevirtual 91, 3) := by decide +kernel
theorem dX7_turn_6 : decode cX7_turn 6 = .ok (.ifCond .eq 5, 3) := by decide +kernel
theorem dX7_turn_9 : decode cX7_turn 9 = .ok (.iconst (-1), 1) := by decide +kernel
theorem dX7_turn_10 : decode cX7_turn 10 = .ok (.ireturn, 1) := by decide +kernel
theorem dX7_turn_11 : decode cX7_turn 11 = .ok (.aload_n 0, 1) := by decide +kernel
theorem dX7_turn_12 : decode cX7_turn 12 = .ok (.iload_n 1, 1) := by decide +kernel
theorem dX7_turn_13 : decode cX7_turn 13 = .ok (.iload_n 2, 1) := by decide +kernel
theorem dX7_turn_14 : decode cX7_turn 14 = .ok (.invokevirtual 63, 3) := by decide +kernel
theorem dX7_turn_17 : decode cX7_turn 17 = .ok (.iload_n 3, 1) := by decide +kernel
theorem dX7_turn_18 : decode cX7_turn 18 = .ok (.if_icmp .ne 6, 3) := by decide +kernel
theorem dX7_turn_21 : decode cX7_turn 21 = .ok (.bipush (-5), 2) := by decide +kernel
theorem dX7_turn_23 : decode cX7_turn 23 = .ok (.ireturn, 1) := by decide +kernel
theorem dX7_turn_24 : decode cX7_turn 24 = .ok (.aload_n 0, 1) := by decide +kernel
theorem dX7_turn_25 : decode cX7_turn 25 = .ok (.invokevirtual 88, 3) := by decide +kernel
theorem dX7_turn_28 : decode cX7_turn 28 = .ok (.aload_n 0, 1) := by decide +kernel
theorem dX7_turn_29 : decode cX7_turn 29 = .ok (.iload_n 1, 1) := by decide +kernel
theorem dX7_turn_30 : decode cX7_turn 30 = .ok (.invokevirtual 94, 3) := by decide +kernel
theorem dX7_turn_33 : decode cX7_turn 33 = .ok (.aload_n 0, 1) := by decide +kernel
theorem dX7_turn_34 : decode cX7_turn 34 = .ok (.getfield 7, 3) := by decide +kernel
theorem dX7_turn_37 : decode cX7_turn 37 = .ok (.sipush 384, 3) := by decide +kernel
theorem dX7_turn_40 : decode cX7_turn 40 = .ok (.iconst 4, 1) := by decide +kernel
theorem dX7_turn_41 : decode cX7_turn 41 = .ok (.iload_n 1, 1) := by decide +kernel
theorem dX7_turn_42 : decode cX7_turn 42 = .ok (.imul, 1) := by decide +kernel
theorem dX7_turn_43 : decode cX7_turn 43 = .ok (.iadd, 1) := by decide +kernel
theorem dX7_turn_44 : decode cX7_turn 44 = .ok (.iload_n 2, 1) := by decide +kernel
theorem dX7_turn_45 : decode cX7_turn 45 = .ok (.iadd, 1) := by decide +kernel
theorem dX7_turn_46 : decode cX7_turn 46 = .ok (.iload_n 3, 1) := by decide +kernel
theorem dX7_turn_47 : decode cX7_turn 47 = .ok (.ifCond .eq 7, 3) := by decide +kernel
theorem dX7_turn_50 : decode cX7_turn 50 = .ok (.iconst 1, 1) := by decide +kernel
theorem dX7_turn_51 : decode cX7_turn 51 = .ok (.goto 4, 3) := by decide +kernel
theorem dX7_turn_54 : decode cX7_turn 54 = .ok (.iconst 0, 1) := by decide +kernel
theorem dX7_turn_55 : decode cX7_turn 55 = .ok (.iastore, 1) := by decide +kernel
theorem dX7_turn_56 : decode cX7_turn 56 = .ok (.aload_n 0, 1) := by decide +kernel
theorem dX7_turn_57 : decode cX7_turn 57 = .ok (.iload_n 1, 1) := by decide +kernel
theorem dX7_turn_58 : decode cX7_turn 58 = .ok (.invokevirtual 98, 3) := by decide +kernel
theorem dX7_turn_61 : decode cX7_turn 61 = .ok (.ireturn, 1) := by decide +kernel
theorem dX7_swaps_0 : decode cX7_swaps 0 = .ok (.iconst 0, 1) := by decide +kernel
theorem dX7_swaps_1 : decode cX7_swaps 1 = .ok (.istore 4, 2) := by decide +kernel
theorem dX7_swaps_3 : decode cX7_swaps 3 = .ok (.iload 4, 2) := by decide +kernel
theorem dX7_swaps_5 : decode cX7_swaps 5 = .ok (.bipush 16, 2) := by decide +kernel
theorem dX7_swaps_7 : decode cX7_swaps 7 = .ok (.if_icmp .ge 61, 3) := by decide +kernel
theorem dX7_swaps_10 : decode cX7_swaps 10 = .ok (.aload_n 0, 1) := by decide +kernel
theorem dX7_swaps_11 : decode cX7_swaps 11 = .ok (.getfield 7, 3) := by decide +kernel
theorem dX7_swaps_14 : decode cX7_swaps 14 = .ok (.iload_n 1, 1) := by decide +kernel
theorem dX7_swaps_15 : decode cX7_swaps 15 = .ok (.iload_n 2, 1) := by decide +kernel
theorem dX7_swaps_16 : decode cX7_swaps 16 = .ok (.iload 4, 2) := by decide +kernel
theorem dX7_swaps_18 : decode cX7_swaps 18 = .ok (.invokestatic 67, 3) := by decide +kernel
theorem dX7_swaps_21 : decode cX7_swaps 21 = .ok (.iaload, 1) := by decide +kernel
theorem dX7_swaps_22 : decode cX7_swaps 22 = .ok (.istore 5, 2) := by decide +kernel
theorem dX7_swaps_24 : decode cX7_swaps 24 = .ok (.aload_n 0, 1) := by decide +kernel
theorem dX7_swaps_25 : decode cX7_swaps 25 = .ok (.getfield 7, 3) := by decide +kernel
theorem dX7_swaps_28 : decode cX7_swaps 28 = .ok (.iload_n 1, 1) := by decide +kernel
theorem dX7_swaps_29 : decode cX7_swaps 29 = .ok (.iload_n 2, 1) := by decide +kernel
theorem dX7_swaps_30 : decode cX7_swaps 30 = .ok (.iload 4, 2) := by decide +kernel
theorem dX7_swaps_32 : decode cX7_swaps 32 = .ok (.invokestatic 67, 3) := by decide +kernel
theorem dX7_swaps_35 : decode cX7_swaps 35 = .ok (.aload_n 0, 1) := by decide +kernel
theorem dX7_swaps_36 : decode cX7_swaps 36 = .ok (.getfield 7, 3) := by decide +kernel
theorem dX7_swaps_39 : decode cX7_swaps 39 = .ok (.iload_n 1, 1) := by decide +kernel
theorem dX7_swaps_40 : decode cX7_swaps 40 = .ok (.iload_n 3, 1) := by decide +kernel
theorem dX7_swaps_41 : decode cX7_swaps 41 = .ok (.iload 4, 2) := by decide +kernel
theorem dX7_swaps_43 : decode cX7_swaps 43 = .ok (.invokestatic 67, 3) := by decide +kernel
theorem dX7_swaps_46 : decode cX7_swaps 46 = .ok (.iaload, 1) := by decide +kernel
theorem dX7_swaps_47 : decode cX7_swaps 47 = .ok (.iastore, 1) := by decide +kernel
theorem dX7_swaps_48 : decode cX7_swaps 48 = .ok (.aload_n 0, 1) := by decide +kernel
theorem dX7_swaps_49 : decode cX7_swaps 49 = .ok (.getfield 7, 3) := by decide +kernel
theorem dX7_swaps_52 : decode cX7_swaps 52 = .ok (.iload_n 1, 1) := by decide +kernel
theorem dX7_swaps_53 : decode cX7_swaps 53 = .ok (.iload_n 3, 1) := by decide +kernel
theorem dX7_swaps_54 : decode cX7_swaps 54 = .ok (.iload 4, 2) := by decide +kernel
theorem dX7_swaps_56 : decode cX7_swaps 56 = .ok (.invokestatic 67, 3) := by decide +kernel
theorem dX7_swaps_59 : decode cX7_swaps 59 = .ok (.iload 5, 2) := by decide +kernel
theorem dX7_swaps_61 : decode cX7_swaps 61 = .ok (.iastore, 1) := by decide +kernel
theorem dX7_swaps_62 : decode cX7_swaps 62 = .ok (.iinc 4 1, 3) := by decide +kernel
theorem dX7_swaps_65 : decode cX7_swaps 65 = .ok (.goto (-62), 3) := by decide +kernel
theorem dX7_swaps_68 : decode cX7_swaps 68 = .ok (.aload_n 0, 1) := by decide +kernel
theorem dX7_swaps_69 : decode cX7_swaps 69 = .ok (.getfield 7, 3) := by decide +kernel
theorem dX7_swaps_72 : decode cX7_swaps 72 = .ok (.sipush 384, 3) := by decide +kernel
theorem dX7_swaps_75 : decode cX7_swaps 75 = .ok (.iconst 4, 1) := by decide +kernel
theorem dX7_swaps_76 : decode cX7_swaps 76 = .ok (.iload_n 1, 1) := by decide +kernel
theorem dX7_swaps_77 : decode cX7_swaps 77 = .ok (.imul, 1) := by decide +kernel
theorem dX7_swaps_78 : decode cX7_swaps 78 = .ok (.iadd, 1) := by decide +kernel
theorem dX7_swaps_79 : decode cX7_swaps 79 = .ok (.iload_n 2, 1) := by decide +kernel
theorem dX7_swaps_80 : decode cX7_swaps 80 = .ok (.iadd, 1) := by decide +kernel
theorem dX7_swaps_81 : decode cX7_swaps 81 = .ok (.iaload, 1) := by decide +kernel
theorem dX7_swaps_82 : decode cX7_swaps 82 = .ok (.istore 4, 2) := by decide +kernel
theorem dX7_swaps_84 : decode cX7_swaps 84 = .ok (.aload_n 0, 1) := by decide +kernel
theorem dX7_swaps_85 : decode cX7_swaps 85 = .ok (.getfield 7, 3) := by decide +kernel
theorem dX7_swaps_88 : decode cX7_swaps 88 = .ok (.sipush 384, 3) := by decide +kernel
theorem dX7_swaps_91 : decode cX7_swaps 91 = .ok (.iconst 4, 1) := by decide +kernel
theorem dX7_swaps_92 : decode cX7_swaps 92 = .ok (.iload_n 1, 1) := by decide +kernel
theorem dX7_swaps_93 : decode cX7_swaps 93 = .ok (.imul, 1) := by decide +kernel
theorem dX7_swaps_94 : decode cX7_swaps 94 = .ok (.iadd, 1) := by decide +kernel
theorem dX7_swaps_95 : decode cX7_swaps 95 = .ok (.iload_n 2, 1) := by decide +kernel
theorem dX7_swaps_96 : decode cX7_swaps 96 = .ok (.iadd, 1) := by decide +kernel
theorem dX7_swaps_97 : decode cX7_swaps 97 = .ok (.aload_n 0, 1) := by decide +kernel
theorem dX7_swaps_98 : decode cX7_swaps 98 = .ok (.getfield 7, 3) := by decide +kernel
theorem dX7_swaps_101 : decode cX7_swaps 101 = .ok (.sipush 384, 3) := by decide +kernel
theorem dX7_swaps_104 : decode cX7_swaps 104 = .ok (.iconst 4, 1) := by decide +kernel
theorem dX7_swaps_105 : decode cX7_swaps 105 = .ok (.iload_n 1, 1) := by decide +kernel
theorem dX7_swaps_106 : decode cX7_swaps 106 = .ok (.imul, 1) := by decide +kernel
theorem dX7_swaps_107 : decode cX7_swaps 107 = .ok (.iadd, 1) := by decide +kernel
theorem dX7_swaps_108 : decode cX7_swaps 108 = .ok (.iload_n 3, 1) := by decide +kernel
theorem dX7_swaps_109 : decode cX7_swaps 109 = .ok (.iadd, 1) := by decide +kernel
theorem dX7_swaps_110 : decode cX7_swaps 110 = .ok (.iaload, 1) := by decide +kernel
theorem dX7_swaps_111 : decode cX7_swaps 111 = .ok (.iastore, 1) := by decide +kernel
theorem dX7_swaps_112 : decode cX7_swaps 112 = .ok (.aload_n 0, 1) := by decide +kernel
theorem dX7_swaps_113 : decode cX7_swaps 113 = .ok (.getfield 7, 3) := by decide +kernel
theorem dX7_swaps_116 : decode cX7_swaps 116 = .ok (.sipush 384, 3) := by decide +kernel
theorem dX7_swaps_119 : decode cX7_swaps 119 = .ok (.iconst 4, 1) := by decide +kernel
theorem dX7_swaps_120 : decode cX7_swaps 120 = .ok (.iload_n 1, 1) := by decide +kernel
theorem dX7_swaps_121 : decode cX7_swaps 121 = .ok (.imul, 1) := by decide +kernel
theorem dX7_swaps_122 : decode cX7_swaps 122 = .ok (.iadd, 1) := by decide +kernel
theorem dX7_swaps_123 : decode cX7_swaps 123 = .ok (.iload_n 3, 1) := by decide +kernel
theorem dX7_swaps_124 : decode cX7_swaps 124 = .ok (.iadd, 1) := by decide +kernel
theorem dX7_swaps_125 : decode cX7_swaps 125 = .ok (.iload 4, 2) := by decide +kernel
theorem dX7_swaps_127 : decode cX7_swaps 127 = .ok (.iastore, 1) := by decide +kernel
theorem dX7_swaps_128 : decode cX7_swaps 128 = .ok (.return_, 1) := by decide +kernel
theorem dX7_lift_0 : decode cX7_lift 0 = .ok (.aload_n 0, 1) := by decide +kernel
theorem dX7_lift_1 : decode cX7_lift 1 = .ok (.iload_n 1, 1) := by decide +kernel
theorem dX7_lift_2 : decode cX7_lift 2 = .ok (.iload_n 2, 1) := by decide +kernel
theorem dX7_lift_3 : decode cX7_lift 3 = .ok (.invokevirtual 91, 3) := by decide +kernel
theorem dX7_lift_6 : decode cX7_lift 6 = .ok (.ifCond .eq 5, 3) := by decide +kernel
theorem dX7_lift_9 : decode cX7_lift 9 = .ok (.iconst (-1), 1) := by decide +kernel
theorem dX7_lift_10 : decode cX7_lift 10 = .ok (.ireturn, 1) := by decide +kernel
theorem dX7_lift_11 : decode cX7_lift 11 = .ok (.iload_n 3, 1) := by decide +kernel
theorem dX7_lift_12 : decode cX7_lift 12 = .ok (.iconst 0, 1) := by decide +kernel
theorem dX7_lift_13 : decode cX7_lift 13 = .ok (.aload_n 0, 1) := by decide +kernel
theorem dX7_lift_14 : decode cX7_lift 14 = .ok (.getfield 7, 3) := by decide +kernel
theorem dX7_lift_17 : decode cX7_lift 17 = .ok (.sipush 408, 3) := by decide +kernel
theorem dX7_lift_20 : decode cX7_lift 20 = .ok (.iload_n 1, 1) := by decide +kernel
theorem dX7_lift_21 : decode cX7_lift 21 = .ok (.iadd, 1) := by decide +kernel
theorem dX7_lift_22 : decode cX7_lift 22 = .ok (.iaload, 1) := by decide +kernel
theorem dX7_lift_23 : decode cX7_lift 23 = .ok (.iconst 1, 1) := by decide +kernel
theorem dX7_lift_24 : decode cX7_lift 24 = .ok (.isub, 1) := by decide +kernel
theorem dX7_lift_25 : decode cX7_lift 25 = .ok (.invokestatic 51, 3) := by decide +kernel
theorem dX7_lift_28 : decode cX7_lift 28 = .ok (.ifCond .ne 6, 3) := by decide +kernel
theorem dX7_lift_31 : decode cX7_lift 31 = .ok (.bipush (-2), 2) := by decide +kernel
theorem dX7_lift_33 : decode cX7_lift 33 = .ok (.ireturn, 1) := by decide +kernel
theorem dX7_lift_34 : decode cX7_lift 34 = .ok (.iload_n 3, 1) := by decide +kernel
theorem dX7_lift_35 : decode cX7_lift 35 = .ok (.iload_n 2, 1) := by decide +kernel
theorem dX7_lift_36 : decode cX7_lift 36 = .ok (.if_icmp .ne 6, 3) := by decide +kernel
theorem dX7_lift_39 : decode cX7_lift 39 = .ok (.bipush (-5), 2) := by decide +kernel
theorem dX7_lift_41 : decode cX7_lift 41 = .ok (.ireturn, 1) := by decide +kernel
theorem dX7_lift_42 : decode cX7_lift 42 = .ok (.aload_n 0, 1) := by decide +kernel
theorem dX7_lift_43 : decode cX7_lift 43 = .ok (.invokevirtual 88, 3) := by decide +kernel
theorem dX7_lift_46 : decode cX7_lift 46 = .ok (.aload_n 0, 1) := by decide +kernel
theorem dX7_lift_47 : decode cX7_lift 47 = .ok (.iload_n 1, 1) := by decide +kernel
theorem dX7_lift_48 : decode cX7_lift 48 = .ok (.invokevirtual 94, 3) := by decide +kernel
theorem dX7_lift_51 : decode cX7_lift 51 = .ok (.iload_n 2, 1) := by decide +kernel
theorem dX7_lift_52 : decode cX7_lift 52 = .ok (.istore 4, 2) := by decide +kernel
theorem dX7_lift_54 : decode cX7_lift 54 = .ok (.iload 4, 2) := by decide +kernel
theorem dX7_lift_56 : decode cX7_lift 56 = .ok (.iload_n 3, 1) := by decide +kernel
theorem dX7_lift_57 : decode cX7_lift 57 = .ok (.if_icmp .eq 38, 3) := by decide +kernel
theorem dX7_lift_60 : decode cX7_lift 60 = .ok (.iload 4, 2) := by decide +kernel
theorem dX7_lift_62 : decode cX7_lift 62 = .ok (.iload_n 3, 1) := by decide +kernel
theorem dX7_lift_63 : decode cX7_lift 63 = .ok (.if_icmp .ge 10, 3) := by decide +kernel
theorem dX7_lift_66 : decode cX7_lift 66 = .ok (.iload 4, 2) := by decide +kernel
theorem dX7_lift_68 : decode cX7_lift 68 = .ok (.iconst 1, 1) := by decide +kernel
theorem dX7_lift_69 : decode cX7_lift 69 = .ok (.iadd, 1) := by decide +kernel
theorem dX7_lift_70 : decode cX7_lift 70 = .ok (.goto 7, 3) := by decide +kernel
theorem dX7_lift_73 : decode cX7_lift 73 = .ok (.iload 4, 2) := by decide +kernel
theorem dX7_lift_75 : decode cX7_lift 75 = .ok (.iconst 1, 1) := by decide +kernel
theorem dX7_lift_76 : decode cX7_lift 76 = .ok (.isub, 1) := by decide +kernel
theorem dX7_lift_77 : decode cX7_lift 77 = .ok (.istore 5, 2) := by decide +kernel
theorem dX7_lift_79 : decode cX7_lift 79 = .ok (.aload_n 0, 1) := by decide +kernel
theorem dX7_lift_80 : decode cX7_lift 80 = .ok (.iload_n 1, 1) := by decide +kernel
theorem dX7_lift_81 : decode cX7_lift 81 = .ok (.iload 4, 2) := by decide +kernel
theorem dX7_lift_83 : decode cX7_lift 83 = .ok (.iload 5, 2) := by decide +kernel
theorem dX7_lift_85 : decode cX7_lift 85 = .ok (.invokevirtual 102, 3) := by decide +kernel
theorem dX7_lift_88 : decode cX7_lift 88 = .ok (.iload 5, 2) := by decide +kernel
theorem dX7_lift_90 : decode cX7_lift 90 = .ok (.istore 4, 2) := by decide +kernel
theorem dX7_lift_92 : decode cX7_lift 92 = .ok (.goto (-38), 3) := by decide +kernel
theorem dX7_lift_95 : decode cX7_lift 95 = .ok (.aload_n 0, 1) := by decide +kernel
theorem dX7_lift_96 : decode cX7_lift 96 = .ok (.iload_n 1, 1) := by decide +kernel
theorem dX7_lift_97 : decode cX7_lift 97 = .ok (.invokevirtual 98, 3) := by decide +kernel
theorem dX7_lift_100 : decode cX7_lift 100 = .ok (.ireturn, 1) := by decide +kernel
theorem dX7_setEntry_0 : decode cX7_setEntry 0 = .ok (.aload_n 0, 1) := by decide +kernel
theorem dX7_setEntry_1 : decode cX7_setEntry 1 = .ok (.iload_n 1, 1) := by decide +kernel
theorem dX7_setEntry_2 : decode cX7_setEntry 2 = .ok (.iload_n 2, 1) := by decide +kernel
theorem dX7_setEntry_3 : decode cX7_setEntry 3 = .ok (.invokevirtual 91, 3) := by decide +kernel
theorem dX7_setEntry_6 : decode cX7_setEntry 6 = .ok (.ifCond .ne 10, 3) := by decide +kernel
theorem dX7_setEntry_9 : decode cX7_setEntry 9 = .ok (.iload_n 3, 1) := by decide +kernel
theorem dX7_setEntry_10 : decode cX7_setEntry 10 = .ok (.invokestatic 106, 3) := by decide +kernel
theorem dX7_setEntry_13 : decode cX7_setEntry 13 = .ok (.ifCond .eq 5, 3) := by decide +kernel
theorem dX7_setEntry_16 : decode cX7_setEntry 16 = .ok (.iconst (-1), 1) := by decide +kernel
theorem dX7_setEntry_17 : decode cX7_setEntry 17 = .ok (.ireturn, 1) := by decide +kernel
theorem dX7_setEntry_18 : decode cX7_setEntry 18 = .ok (.iload 4, 2) := by decide +kernel
theorem dX7_setEntry_20 : decode cX7_setEntry 20 = .ok (.iconst 0, 1) := by decide +kernel
theorem dX7_setEntry_21 : decode cX7_setEntry 21 = .ok (.bipush 17, 2) := by decide +kernel
theorem dX7_setEntry_23 : decode cX7_setEntry 23 = .ok (.invokestatic 51, 3) := by decide +kernel
theorem dX7_setEntry_26 : decode cX7_setEntry 26 = .ok (.ifCond .ne 6, 3) := by decide +kernel
theorem dX7_setEntry_29 : decode cX7_setEntry 29 = .ok (.bipush (-2), 2) := by decide +kernel
theorem dX7_setEntry_31 : decode cX7_setEntry 31 = .ok (.ireturn, 1) := by decide +kernel
theorem dX7_setEntry_32 : decode cX7_setEntry 32 = .ok (.aload_n 0, 1) := by decide +kernel
theorem dX7_setEntry_33 : decode cX7_setEntry 33 = .ok (.getfield 7, 3) := by decide +kernel
theorem dX7_setEntry_36 : decode cX7_setEntry 36 = .ok (.iload_n 1, 1) := by decide +kernel
theorem dX7_setEntry_37 : decode cX7_setEntry 37 = .ok (.iload_n 2, 1) := by decide +kernel
theorem dX7_setEntry_38 : decode cX7_setEntry 38 = .ok (.iload_n 3, 1) := by decide +kernel
theorem dX7_setEntry_39 : decode cX7_setEntry 39 = .ok (.invokestatic 67, 3) := by decide +kernel
theorem dX7_setEntry_42 : decode cX7_setEntry 42 = .ok (.iaload, 1) := by decide +kernel
theorem dX7_setEntry_43 : decode cX7_setEntry 43 = .ok (.istore 5, 2) := by decide +kernel
theorem dX7_setEntry_45 : decode cX7_setEntry 45 = .ok (.iload 5, 2) := by decide +kernel
theorem dX7_setEntry_47 : decode cX7_setEntry 47 = .ok (.iload 4, 2) := by decide +kernel
theorem dX7_setEntry_49 : decode cX7_setEntry 49 = .ok (.if_icmp .ne 6, 3) := by decide +kernel
theorem dX7_setEntry_52 : decode cX7_setEntry 52 = .ok (.bipush (-5), 2) := by decide +kernel
theorem dX7_setEntry_54 : decode cX7_setEntry 54 = .ok (.ireturn, 1) := by decide +kernel
theorem dX7_setEntry_55 : decode cX7_setEntry 55 = .ok (.aload_n 0, 1) := by decide +kernel
theorem dX7_setEntry_56 : decode cX7_setEntry 56 = .ok (.invokevirtual 88, 3) := by decide +kernel
theorem dX7_setEntry_59 : decode cX7_setEntry 59 = .ok (.aload_n 0, 1) := by decide +kernel
theorem dX7_setEntry_60 : decode cX7_setEntry 60 = .ok (.getfield 7, 3) := by decide +kernel
theorem dX7_setEntry_63 : decode cX7_setEntry 63 = .ok (.iload_n 1, 1) := by decide +kernel
theorem dX7_setEntry_64 : decode cX7_setEntry 64 = .ok (.iload_n 2, 1) := by decide +kernel
theorem dX7_setEntry_65 : decode cX7_setEntry 65 = .ok (.iload_n 3, 1) := by decide +kernel
theorem dX7_setEntry_66 : decode cX7_setEntry 66 = .ok (.invokestatic 67, 3) := by decide +kernel
theorem dX7_setEntry_69 : decode cX7_setEntry 69 = .ok (.iload 4, 2) := by decide +kernel
theorem dX7_setEntry_71 : decode cX7_setEntry 71 = .ok (.iastore, 1) := by decide +kernel
theorem dX7_setEntry_72 : decode cX7_setEntry 72 = .ok (.iload 5, 2) := by decide +kernel
theorem dX7_setEntry_74 : decode cX7_setEntry 74 = .ok (.ireturn, 1) := by decide +kernel
theorem dX7_flatten_0 : decode cX7_flatten 0 = .ok (.iload_n 1, 1) := by decide +kernel
theorem dX7_flatten_1 : decode cX7_flatten 1 = .ok (.invokestatic 55, 3) := by decide +kernel
theorem dX7_flatten_4 : decode cX7_flatten 4 = .ok (.ifCond .eq 5, 3) := by decide +kernel
theorem dX7_flatten_7 : decode cX7_flatten 7 = .ok (.iconst (-1), 1) := by decide +kernel
theorem dX7_flatten_8 : decode cX7_flatten 8 = .ok (.ireturn, 1) := by decide +kernel
theorem dX7_flatten_9 : decode cX7_flatten 9 = .ok (.aload_n 0, 1) := by decide +kernel
theorem dX7_flatten_10 : decode cX7_flatten 10 = .ok (.getfield 7, 3) := by decide +kernel
theorem dX7_flatten_13 : decode cX7_flatten 13 = .ok (.sipush 408, 3) := by decide +kernel
theorem dX7_flatten_16 : decode cX7_flatten 16 = .ok (.iload_n 1, 1) := by decide +kernel
theorem dX7_flatten_17 : decode cX7_flatten 17 = .ok (.iadd, 1) := by decide +kernel
theorem dX7_flatten_18 : decode cX7_flatten 18 = .ok (.iaload, 1) := by decide +kernel
theorem dX7_flatten_19 : decode cX7_flatten 19 = .ok (.istore_n 2, 1) := by decide +kernel
theorem dX7_flatten_20 : decode cX7_flatten 20 = .ok (.iload_n 2, 1) := by decide +kernel
theorem dX7_flatten_21 : decode cX7_flatten 21 = .ok (.ifCond .eq 27, 3) := by decide +kernel
theorem dX7_flatten_24 : decode cX7_flatten 24 = .ok (.iload_n 2, 1) := by decide +kernel
theorem dX7_flatten_25 : decode cX7_flatten 25 = .ok (.iconst 1, 1) := by decide +kernel
theorem dX7_flatten_26 : decode cX7_flatten 26 = .ok (.if_icmp .ne 25, 3) := by decide +kernel
theorem dX7_flatten_29 : decode cX7_flatten 29 = .ok (.aload_n 0, 1) := by decide +kernel
theorem dX7_flatten_30 : decode cX7_flatten 30 = .ok (.iload_n 1, 1) := by decide +kernel
theorem dX7_flatten_31 : decode cX7_flatten 31 = .ok (.iconst 0, 1) := by decide +kernel
theorem dX7_flatten_32 : decode cX7_flatten 32 = .ok (.invokevirtual 63, 3) := by decide +kernel
theorem dX7_flatten_35 : decode cX7_flatten 35 = .ok (.ifCond .eq 16, 3) := by decide +kernel
theorem dX7_flatten_38 : decode cX7_flatten 38 = .ok (.aload_n 0, 1) := by decide +kernel
theorem dX7_flatten_39 : decode cX7_flatten 39 = .ok (.iload_n 1, 1) := by decide +kernel
theorem dX7_flatten_40 : decode cX7_flatten 40 = .ok (.iconst 0, 1) := by decide +kernel
theorem dX7_flatten_41 : decode cX7_flatten 41 = .ok (.iconst 1, 1) := by decide +kernel
theorem dX7_flatten_42 : decode cX7_flatten 42 = .ok (.invokevirtual 78, 3) := by decide +kernel
theorem dX7_flatten_45 : decode cX7_flatten 45 = .ok (.ifCond .ne 6, 3) := by decide +kernel
theorem dX7_flatten_48 : decode cX7_flatten 48 = .ok (.bipush (-5), 2) := by decide +kernel
theorem dX7_flatten_50 : decode cX7_flatten 50 = .ok (.ireturn, 1) := by decide +kernel
theorem dX7_flatten_51 : decode cX7_flatten 51 = .ok (.aload_n 0, 1) := by decide +kernel
theorem dX7_flatten_52 : decode cX7_flatten 52 = .ok (.invokevirtual 88, 3) := by decide +kernel
theorem dX7_flatten_55 : decode cX7_flatten 55 = .ok (.aload_n 0, 1) := by decide +kernel
theorem dX7_flatten_56 : decode cX7_flatten 56 = .ok (.iload_n 1, 1) := by decide +kernel
theorem dX7_flatten_57 : decode cX7_flatten 57 = .ok (.invokevirtual 94, 3) := by decide +kernel
theorem dX7_flatten_60 : decode cX7_flatten 60 = .ok (.aload_n 0, 1) := by decide +kernel
theorem dX7_flatten_61 : decode cX7_flatten 61 = .ok (.iload_n 1, 1) := by decide +kernel
theorem dX7_flatten_62 : decode cX7_flatten 62 = .ok (.aload_n 0, 1) := by decide +kernel
theorem dX7_flatten_63 : decode cX7_flatten 63 = .ok (.getfield 19, 3) := by decide +kernel
theorem dX7_flatten_66 : decode cX7_flatten 66 = .ok (.invokevirtual 109, 3) := by decide +kernel
theorem dX7_flatten_69 : decode cX7_flatten 69 = .ok (.ireturn, 1) := by decide +kernel
theorem dX7_assign_0 : decode cX7_assign 0 = .ok (.aload_n 0, 1) := by decide +kernel
theorem dX7_assign_1 : decode cX7_assign 1 = .ok (.invokevirtual 113, 3) := by decide +kernel
theorem dX7_assign_4 : decode cX7_assign 4 = .ok (.ifCond .ne 11, 3) := by decide +kernel
theorem dX7_assign_7 : decode cX7_assign 7 = .ok (.bipush (-100), 2) := by decide +kernel
theorem dX7_assign_9 : decode cX7_assign 9 = .ok (.aload_n 0, 1) := by decide +kernel
theorem dX7_assign_10 : decode cX7_assign 10 = .ok (.getfield 85, 3) := by decide +kernel
theorem dX7_assign_13 : decode cX7_assign 13 = .ok (.isub, 1) := by decide +kernel
theorem dX7_assign_14 : decode cX7_assign 14 = .ok (.ireturn, 1) := by decide +kernel
theorem dX7_assign_15 : decode cX7_assign 15 = .ok (.aload_n 0, 1) := by decide +kernel
theorem dX7_assign_16 : decode cX7_assign 16 = .ok (.invokevirtual 88, 3) := by decide +kernel
theorem dX7_assign_19 : decode cX7_assign 19 = .ok (.aload_n 0, 1) := by decide +kernel
theorem dX7_assign_20 : decode cX7_assign 20 = .ok (.aload_n 0, 1) := by decide +kernel
theorem dX7_assign_21 : decode cX7_assign 21 = .ok (.getfield 116, 3) := by decide +kernel
theorem dX7_assign_24 : decode cX7_assign 24 = .ok (.aload_n 0, 1) := by decide +kernel
theorem dX7_assign_25 : decode cX7_assign 25 = .ok (.getfield 29, 3) := by decide +kernel
theorem dX7_assign_28 : decode cX7_assign 28 = .ok (.invokevirtual 109, 3) := by decide +kernel
theorem dX7_assign_31 : decode cX7_assign 31 = .ok (.ireturn, 1) := by decide +kernel
theorem dX7_setRule_0 : decode cX7_setRule 0 = .ok (.iload_n 1, 1) := by decide +kernel
theorem dX7_setRule_1 : decode cX7_setRule 1 = .ok (.iconst 0, 1) := by decide +kernel
theorem dX7_setRule_2 : decode cX7_setRule 2 = .ok (.iconst 2, 1) := by decide +kernel
theorem dX7_setRule_3 : decode cX7_setRule 3 = .ok (.invokestatic 51, 3) := by decide +kernel
theorem dX7_setRule_6 : decode cX7_setRule 6 = .ok (.ifCond .ne 6, 3) := by decide +kernel
theorem dX7_setRule_9 : decode cX7_setRule 9 = .ok (.bipush (-2), 2) := by decide +kernel
theorem dX7_setRule_11 : decode cX7_setRule 11 = .ok (.ireturn, 1) := by decide +kernel
theorem dX7_setRule_12 : decode cX7_setRule 12 = .ok (.aload_n 0, 1) := by decide +kernel
theorem dX7_setRule_13 : decode cX7_setRule 13 = .ok (.getfield 7, 3) := by decide +kernel
theorem dX7_setRule_16 : decode cX7_setRule 16 = .ok (.sipush 414, 3) := by decide +kernel
theorem dX7_setRule_19 : decode cX7_setRule 19 = .ok (.iaload, 1) := by decide +kernel
theorem dX7_setRule_20 : decode cX7_setRule 20 = .ok (.istore_n 2, 1) := by decide +kernel
theorem dX7_setRule_21 : decode cX7_setRule 21 = .ok (.iload_n 2, 1) := by decide +kernel
theorem dX7_setRule_22 : decode cX7_setRule 22 = .ok (.iload_n 1, 1) := by decide +kernel
theorem dX7_setRule_23 : decode cX7_setRule 23 = .ok (.if_icmp .ne 6, 3) := by decide +kernel
theorem dX7_setRule_26 : decode cX7_setRule 26 = .ok (.bipush (-5), 2) := by decide +kernel
theorem dX7_setRule_28 : decode cX7_setRule 28 = .ok (.ireturn, 1) := by decide +kernel
theorem dX7_setRule_29 : decode cX7_setRule 29 = .ok (.aload_n 0, 1) := by decide +kernel
theorem dX7_setRule_30 : decode cX7_setRule 30 = .ok (.invokevirtual 88, 3) := by decide +kernel
theorem dX7_setRule_33 : decode cX7_setRule 33 = .ok (.aload_n 0, 1) := by decide +kernel
theorem dX7_setRule_34 : decode cX7_setRule 34 = .ok (.getfield 7, 3) := by decide +kernel
theorem dX7_setRule_37 : decode cX7_setRule 37 = .ok (.sipush 414, 3) := by decide +kernel
theorem dX7_setRule_40 : decode cX7_setRule 40 = .ok (.iload_n 1, 1) := by decide +kernel
theorem dX7_setRule_41 : decode cX7_setRule 41 = .ok (.iastore, 1) := by decide +kernel
theorem dX7_setRule_42 : decode cX7_setRule 42 = .ok (.iload_n 2, 1) := by decide +kernel
theorem dX7_setRule_43 : decode cX7_setRule 43 = .ok (.ireturn, 1) := by decide +kernel
theorem dX7_known_0 : decode cX7_known 0 = .ok (.aload_n 0, 1) := by decide +kernel
theorem dX7_known_1 : decode cX7_known 1 = .ok (.getfield 7, 3) := by decide +kernel
theorem dX7_known_4 : decode cX7_known 4 = .ok (.sipush 418, 3) := by decide +kernel
theorem dX7_known_7 : decode cX7_known 7 = .ok (.bipush 16, 2) := by decide +kernel
theorem dX7_known_9 : decode cX7_known 9 = .ok (.iload_n 1, 1) := by decide +kernel
theorem dX7_known_10 : decode cX7_known 10 = .ok (.imul, 1) := by decide +kernel
theorem dX7_known_11 : decode cX7_known 11 = .ok (.iadd, 1) := by decide +kernel
theorem dX7_known_12 : decode cX7_known 12 = .ok (.iload_n 2, 1) := by decide +kernel
theorem dX7_known_13 : decode cX7_known 13 = .ok (.iadd, 1) := by decide +kernel
theorem dX7_known_14 : decode cX7_known 14 = .ok (.iaload, 1) := by decide +kernel
theorem dX7_known_15 : decode cX7_known 15 = .ok (.ireturn, 1) := by decide +kernel
theorem dX7_isSuspect_0 : decode cX7_isSuspect 0 = .ok (.aload_n 0, 1) := by decide +kernel
theorem dX7_isSuspect_1 : decode cX7_isSuspect 1 = .ok (.getfield 7, 3) := by decide +kernel
theorem dX7_isSuspect_4 : decode cX7_isSuspect 4 = .ok (.sipush 416, 3) := by decide +kernel
theorem dX7_isSuspect_7 : decode cX7_isSuspect 7 = .ok (.iaload, 1) := by decide +kernel
theorem dX7_isSuspect_8 : decode cX7_isSuspect 8 = .ok (.iload_n 1, 1) := by decide +kernel
theorem dX7_isSuspect_9 : decode cX7_isSuspect 9 = .ok (.ishr, 1) := by decide +kernel
theorem dX7_isSuspect_10 : decode cX7_isSuspect 10 = .ok (.iconst 1, 1) := by decide +kernel
theorem dX7_isSuspect_11 : decode cX7_isSuspect 11 = .ok (.iand, 1) := by decide +kernel
theorem dX7_isSuspect_12 : decode cX7_isSuspect 12 = .ok (.iconst 1, 1) := by decide +kernel
theorem dX7_isSuspect_13 : decode cX7_isSuspect 13 = .ok (.if_icmp .ne 7, 3) := by decide +kernel
theorem dX7_isSuspect_16 : decode cX7_isSuspect 16 = .ok (.iconst 1, 1) := by decide +kernel
theorem dX7_isSuspect_17 : decode cX7_isSuspect 17 = .ok (.goto 4, 3) := by decide +kernel
theorem dX7_isSuspect_20 : decode cX7_isSuspect 20 = .ok (.iconst 0, 1) := by decide +kernel
theorem dX7_isSuspect_21 : decode cX7_isSuspect 21 = .ok (.ireturn, 1) := by decide +kernel
theorem dX7_hide_0 : decode cX7_hide 0 = .ok (.iload_n 1, 1) := by decide +kernel
theorem dX7_hide_1 : decode cX7_hide 1 = .ok (.invokestatic 55, 3) := by decide +kernel
theorem dX7_hide_4 : decode cX7_hide 4 = .ok (.ifCond .eq 5, 3) := by decide +kernel
theorem dX7_hide_7 : decode cX7_hide 7 = .ok (.iconst (-1), 1) := by decide +kernel
theorem dX7_hide_8 : decode cX7_hide 8 = .ok (.ireturn, 1) := by decide +kernel
theorem dX7_hide_9 : decode cX7_hide 9 = .ok (.iload_n 2, 1) := by decide +kernel
theorem dX7_hide_10 : decode cX7_hide 10 = .ok (.iconst 1, 1) := by decide +kernel
theorem dX7_hide_11 : decode cX7_hide 11 = .ok (.bipush 63, 2) := by decide +kernel
theorem dX7_hide_13 : decode cX7_hide 13 = .ok (.invokestatic 51, 3) := by decide +kernel
theorem dX7_hide_16 : decode cX7_hide 16 = .ok (.ifCond .eq 11, 3) := by decide +kernel
theorem dX7_hide_19 : decode cX7_hide 19 = .ok (.iload_n 2, 1) := by decide +kernel
theorem dX7_hide_20 : decode cX7_hide 20 = .ok (.iload_n 1, 1) := by decide +kernel
theorem dX7_hide_21 : decode cX7_hide 21 = .ok (.ishr, 1) := by decide +kernel
theorem dX7_hide_22 : decode cX7_hide 22 = .ok (.iconst 1, 1) := by decide +kernel
theorem dX7_hide_23 : decode cX7_hide 23 = .ok (.iand, 1) := by decide +kernel
theorem dX7_hide_24 : decode cX7_hide 24 = .ok (.ifCond .ne 6, 3) := by decide +kernel
theorem dX7_hide_27 : decode cX7_hide 27 = .ok (.bipush (-2), 2) := by decide +kernel
theorem dX7_hide_29 : decode cX7_hide 29 = .ok (.ireturn, 1) := by decide +kernel
theorem dX7_hide_30 : decode cX7_hide 30 = .ok (.aload_n 0, 1) := by decide +kernel
theorem dX7_hide_31 : decode cX7_hide 31 = .ok (.invokevirtual 88, 3) := by decide +kernel
theorem dX7_hide_34 : decode cX7_hide 34 = .ok (.aload_n 0, 1) := by decide +kernel
theorem dX7_hide_35 : decode cX7_hide 35 = .ok (.getfield 7, 3) := by decide +kernel
theorem dX7_hide_38 : decode cX7_hide 38 = .ok (.sipush 415, 3) := by decide +kernel
theorem dX7_hide_41 : decode cX7_hide 41 = .ok (.iload_n 1, 1) := by decide +kernel
theorem dX7_hide_42 : decode cX7_hide 42 = .ok (.iconst 1, 1) := by decide +kernel
theorem dX7_hide_43 : decode cX7_hide 43 = .ok (.iadd, 1) := by decide +kernel
theorem dX7_hide_44 : decode cX7_hide 44 = .ok (.iastore, 1) := by decide +kernel
theorem dX7_hide_45 : decode cX7_hide 45 = .ok (.aload_n 0, 1) := by decide +kernel
theorem dX7_hide_46 : decode cX7_hide 46 = .ok (.getfield 7, 3) := by decide +kernel
theorem dX7_hide_49 : decode cX7_hide 49 = .ok (.sipush 416, 3) := by decide +kernel
theorem dX7_hide_52 : decode cX7_hide 52 = .ok (.iload_n 2, 1) := by decide +kernel
theorem dX7_hide_53 : decode cX7_hide 53 = .ok (.iastore, 1) := by decide +kernel
theorem dX7_hide_54 : decode cX7_hide 54 = .ok (.aload_n 0, 1) := by decide +kernel
theorem dX7_hide_55 : decode cX7_hide 55 = .ok (.getfield 7, 3) := by decide +kernel
theorem dX7_hide_58 : decode cX7_hide 58 = .ok (.sipush 417, 3) := by decide +kernel
theorem dX7_hide_61 : decode cX7_hide 61 = .ok (.iconst 0, 1) := by decide +kernel
theorem dX7_hide_62 : decode cX7_hide 62 = .ok (.iastore, 1) := by decide +kernel
theorem dX7_hide_63 : decode cX7_hide 63 = .ok (.iconst 0, 1) := by decide +kernel
theorem dX7_hide_64 : decode cX7_hide 64 = .ok (.istore_n 3, 1) := by decide +kernel
theorem dX7_hide_65 : decode cX7_hide 65 = .ok (.iload_n 3, 1) := by decide +kernel
theorem dX7_hide_66 : decode cX7_hide 66 = .ok (.bipush 6, 2) := by decide +kernel
theorem dX7_hide_68 : decode cX7_hide 68 = .ok (.if_icmp .ge 48, 3) := by decide +kernel
theorem dX7_hide_71 : decode cX7_hide 71 = .ok (.iconst 0, 1) := by decide +kernel
theorem dX7_hide_72 : decode cX7_hide 72 = .ok (.istore 4, 2) := by decide +kernel
theorem dX7_hide_74 : decode cX7_hide 74 = .ok (.iload 4, 2) := by decide +kernel
theorem dX7_hide_76 : decode cX7_hide 76 = .ok (.bipush 16, 2) := by decide +kernel
theorem dX7_hide_78 : decode cX7_hide 78 = .ok (.if_icmp .ge 32, 3) := by decide +kernel
theorem dX7_hide_81 : decode cX7_hide 81 = .ok (.aload_n 0, 1) := by decide +kernel
theorem dX7_hide_82 : decode cX7_hide 82 = .ok (.getfield 7, 3) := by decide +kernel
theorem dX7_hide_85 : decode cX7_hide 85 = .ok (.sipush 418, 3) := by decide +kernel
theorem dX7_hide_88 : decode cX7_hide 88 = .ok (.bipush 16, 2) := by decide +kernel
theorem dX7_hide_90 : decode cX7_hide 90 = .ok (.iload_n 3, 1) := by decide +kernel
theorem dX7_hide_91 : decode cX7_hide 91 = .ok (.imul, 1) := by decide +kernel
theorem dX7_hide_92 : decode cX7_hide 92 = .ok (.iadd, 1) := by decide +kernel
theorem dX7_hide_93 : decode cX7_hide 93 = .ok (.iload 4, 2) := by decide +kernel
theorem dX7_hide_95 : decode cX7_hide 95 = .ok (.iadd, 1) := by decide +kernel
theorem dX7_hide_96 : decode cX7_hide 96 = .ok (.aload_n 0, 1) := by decide +kernel
theorem dX7_hide_97 : decode cX7_hide 97 = .ok (.iload_n 3, 1) := by decide +kernel
theorem dX7_hide_98 : decode cX7_hide 98 = .ok (.iload 4, 2) := by decide +kernel
theorem dX7_hide_100 : decode cX7_hide 100 = .ok (.invokevirtual 75, 3) := by decide +kernel
theorem dX7_hide_103 : decode cX7_hide 103 = .ok (.iastore, 1) := by decide +kernel
theorem dX7_hide_104 : decode cX7_hide 104 = .ok (.iinc 4 1, 3) := by decide +kernel
theorem dX7_hide_107 : decode cX7_hide 107 = .ok (.goto (-33), 3) := by decide +kernel
theorem dX7_hide_110 : decode cX7_hide 110 = .ok (.iinc 3 1, 3) := by decide +kernel
theorem dX7_hide_113 : decode cX7_hide 113 = .ok (.goto (-48), 3) := by decide +kernel
theorem dX7_hide_116 : decode cX7_hide 116 = .ok (.iload_n 2, 1) := by decide +kernel
theorem dX7_hide_117 : decode cX7_hide 117 = .ok (.invokestatic 119, 3) := by decide +kernel
theorem dX7_hide_120 : decode cX7_hide 120 = .ok (.ireturn, 1) := by decide +kernel
theorem dX7_ask_0 : decode cX7_ask 0 = .ok (.iload_n 1, 1) := by decide +kernel
theorem dX7_ask_1 : decode cX7_ask 1 = .ok (.invokestatic 106, 3) := by decide +kernel
theorem dX7_ask_4 : decode cX7_ask 4 = .ok (.ifCond .eq 5, 3) := by decide +kernel
theorem dX7_ask_7 : decode cX7_ask 7 = .ok (.iconst (-1), 1) := by decide +kernel
theorem dX7_ask_8 : decode cX7_ask 8 = .ok (.ireturn, 1) := by decide +kernel
theorem dX7_ask_9 : decode cX7_ask 9 = .ok (.aload_n 0, 1) := by decide +kernel
theorem dX7_ask_10 : decode cX7_ask 10 = .ok (.getfield 7, 3) := by decide +kernel
theorem dX7_ask_13 : decode cX7_ask 13 = .ok (.sipush 415, 3) := by decide +kernel
theorem dX7_ask_16 : decode cX7_ask 16 = .ok (.iaload, 1) := by decide +kernel
theorem dX7_ask_17 : decode cX7_ask 17 = .ok (.ifCond .ne 6, 3) := by decide +kernel
theorem dX7_ask_20 : decode cX7_ask 20 = .ok (.bipush (-4), 2) := by decide +kernel
theorem dX7_ask_22 : decode cX7_ask 22 = .ok (.ireturn, 1) := by decide +kernel
theorem dX7_ask_23 : decode cX7_ask 23 = .ok (.aload_n 0, 1) := by decide +kernel
theorem dX7_ask_24 : decode cX7_ask 24 = .ok (.invokevirtual 88, 3) := by decide +kernel
theorem dX7_ask_27 : decode cX7_ask 27 = .ok (.aload_n 0, 1) := by decide +kernel
theorem dX7_ask_28 : decode cX7_ask 28 = .ok (.aload_n 0, 1) := by decide +kernel
theorem dX7_ask_29 : decode cX7_ask 29 = .ok (.getfield 7, 3) := by decide +kernel
theorem dX7_ask_32 : decode cX7_ask 32 = .ok (.sipush 415, 3) := by decide +kernel
theorem dX7_ask_35 : decode cX7_ask 35 = .ok (.iaload, 1) := by decide +kernel
theorem dX7_ask_36 : decode cX7_ask 36 = .ok (.iconst 1, 1) := by decide +kernel
theorem dX7_ask_37 : decode cX7_ask 37 = .ok (.isub, 1) := by decide +kernel
theorem dX7_ask_38 : decode cX7_ask 38 = .ok (.iload_n 1, 1) := by decide +kernel
theorem dX7_ask_39 : decode cX7_ask 39 = .ok (.invokevirtual 122, 3) := by decide +kernel
theorem dX7_ask_42 : decode cX7_ask 42 = .ok (.istore_n 2, 1) := by decide +kernel
theorem dX7_ask_43 : decode cX7_ask 43 = .ok (.iconst 0, 1) := by decide +kernel
theorem dX7_ask_44 : decode cX7_ask 44 = .ok (.istore_n 3, 1) := by decide +kernel
theorem dX7_ask_45 : decode cX7_ask 45 = .ok (.iload_n 3, 1) := by decide +kernel
theorem dX7_ask_46 : decode cX7_ask 46 = .ok (.bipush 6, 2) := by decide +kernel
theorem dX7_ask_48 : decode cX7_ask 48 = .ok (.if_icmp .ge 41, 3) := by decide +kernel
theorem dX7_ask_51 : decode cX7_ask 51 = .ok (.aload_n 0, 1) := by decide +kernel
theorem dX7_ask_52 : decode cX7_ask 52 = .ok (.getfield 7, 3) := by decide +kernel
theorem dX7_ask_55 : decode cX7_ask 55 = .ok (.sipush 416, 3) := by decide +kernel
theorem dX7_ask_58 : decode cX7_ask 58 = .ok (.dup2, 1) := by decide +kernel
theorem dX7_ask_59 : decode cX7_ask 59 = .ok (.iaload, 1) := by decide +kernel
theorem dX7_ask_60 : decode cX7_ask 60 = .ok (.aload_n 0, 1) := by decide +kernel
theorem dX7_ask_61 : decode cX7_ask 61 = .ok (.iload_n 3, 1) := by decide +kernel
theorem dX7_ask_62 : decode cX7_ask 62 = .ok (.iload_n 1, 1) := by decide +kernel
theorem dX7_ask_63 : decode cX7_ask 63 = .ok (.invokevirtual 122, 3) := by decide +kernel
theorem dX7_ask_66 : decode cX7_ask 66 = .ok (.iload_n 2, 1) := by decide +kernel
theorem dX7_ask_67 : decode cX7_ask 67 = .ok (.if_icmp .ne 8, 3) := by decide +kernel
theorem dX7_ask_70 : decode cX7_ask 70 = .ok (.bipush 63, 2) := by decide +kernel
theorem dX7_ask_72 : decode cX7_ask 72 = .ok (.goto 9, 3) := by decide +kernel
theorem dX7_ask_75 : decode cX7_ask 75 = .ok (.bipush 63, 2) := by decide +kernel
theorem dX7_ask_77 : decode cX7_ask 77 = .ok (.iconst 1, 1) := by decide +kernel
theorem dX7_ask_78 : decode cX7_ask 78 = .ok (.iload_n 3, 1) := by decide +kernel
theorem dX7_ask_79 : decode cX7_ask 79 = .ok (.ishl, 1) := by decide +kernel
theorem dX7_ask_80 : decode cX7_ask 80 = .ok (.isub, 1) := by decide +kernel
theorem dX7_ask_81 : decode cX7_ask 81 = .ok (.iand, 1) := by decide +kernel
theorem dX7_ask_82 : decode cX7_ask 82 = .ok (.iastore, 1) := by decide +kernel
theorem dX7_ask_83 : decode cX7_ask 83 = .ok (.iinc 3 1, 3) := by decide +kernel
theorem dX7_ask_86 : decode cX7_ask 86 = .ok (.goto (-41), 3) := by decide +kernel
theorem dX7_ask_89 : decode cX7_ask 89 = .ok (.aload_n 0, 1) := by decide +kernel
theorem dX7_ask_90 : decode cX7_ask 90 = .ok (.getfield 7, 3) := by decide +kernel
theorem dX7_ask_93 : decode cX7_ask 93 = .ok (.sipush 417, 3) := by decide +kernel
theorem dX7_ask_96 : decode cX7_ask 96 = .ok (.dup2, 1) := by decide +kernel
theorem dX7_ask_97 : decode cX7_ask 97 = .ok (.iaload, 1) := by decide +kernel
theorem dX7_ask_98 : decode cX7_ask 98 = .ok (.iconst 1, 1) := by decide +kernel
theorem dX7_ask_99 : decode cX7_ask 99 = .ok (.iadd, 1) := by decide +kernel
theorem dX7_ask_100 : decode cX7_ask 100 = .ok (.iastore, 1) := by decide +kernel
theorem dX7_ask_101 : decode cX7_ask 101 = .ok (.iload_n 2, 1) := by decide +kernel
theorem dX7_ask_102 : decode cX7_ask 102 = .ok (.ireturn, 1) := by decide +kernel
theorem dX7_isFound_0 : decode cX7_isFound 0 = .ok (.aload_n 0, 1) := by decide +kernel
theorem dX7_isFound_1 : decode cX7_isFound 1 = .ok (.getfield 7, 3) := by decide +kernel
theorem dX7_isFound_4 : decode cX7_isFound 4 = .ok (.sipush 415, 3) := by decide +kernel
theorem dX7_isFound_7 : decode cX7_isFound 7 = .ok (.iaload, 1) := by decide +kernel
theorem dX7_isFound_8 : decode cX7_isFound 8 = .ok (.iconst 1, 1) := by decide +kernel
theorem dX7_isFound_9 : decode cX7_isFound 9 = .ok (.isub, 1) := by decide +kernel
theorem dX7_isFound_10 : decode cX7_isFound 10 = .ok (.istore_n 1, 1) := by decide +kernel
theorem dX7_isFound_11 : decode cX7_isFound 11 = .ok (.iconst 0, 1) := by decide +kernel
theorem dX7_isFound_12 : decode cX7_isFound 12 = .ok (.istore_n 2, 1) := by decide +kernel
theorem dX7_isFound_13 : decode cX7_isFound 13 = .ok (.iload_n 2, 1) := by decide +kernel
theorem dX7_isFound_14 : decode cX7_isFound 14 = .ok (.bipush 6, 2) := by decide +kernel
theorem dX7_isFound_16 : decode cX7_isFound 16 = .ok (.if_icmp .ge 48, 3) := by decide +kernel
theorem dX7_isFound_19 : decode cX7_isFound 19 = .ok (.iconst 0, 1) := by decide +kernel
theorem dX7_isFound_20 : decode cX7_isFound 20 = .ok (.istore_n 3, 1) := by decide +kernel
theorem dX7_isFound_21 : decode cX7_isFound 21 = .ok (.iload_n 3, 1) := by decide +kernel
theorem dX7_isFound_22 : decode cX7_isFound 22 = .ok (.bipush 16, 2) := by decide +kernel
theorem dX7_isFound_24 : decode cX7_isFound 24 = .ok (.if_icmp .ge 34, 3) := by decide +kernel
theorem dX7_isFound_27 : decode cX7_isFound 27 = .ok (.aload_n 0, 1) := by decide +kernel
theorem dX7_isFound_28 : decode cX7_isFound 28 = .ok (.iload_n 2, 1) := by decide +kernel
theorem dX7_isFound_29 : decode cX7_isFound 29 = .ok (.invokevirtual 125, 3) := by decide +kernel
theorem dX7_isFound_32 : decode cX7_isFound 32 = .ok (.ifCond .eq 20, 3) := by decide +kernel
theorem dX7_isFound_35 : decode cX7_isFound 35 = .ok (.aload_n 0, 1) := by decide +kernel
theorem dX7_isFound_36 : decode cX7_isFound 36 = .ok (.iload_n 2, 1) := by decide +kernel
theorem dX7_isFound_37 : decode cX7_isFound 37 = .ok (.iload_n 3, 1) := by decide +kernel
theorem dX7_isFound_38 : decode cX7_isFound 38 = .ok (.invokevirtual 122, 3) := by decide +kernel
theorem dX7_isFound_41 : decode cX7_isFound 41 = .ok (.aload_n 0, 1) := by decide +kernel
theorem dX7_isFound_42 : decode cX7_isFound 42 = .ok (.iload_n 1, 1) := by decide +kernel
theorem dX7_isFound_43 : decode cX7_isFound 43 = .ok (.iload_n 3, 1) := by decide +kernel
theorem dX7_isFound_44 : decode cX7_isFound 44 = .ok (.invokevirtual 122, 3) := by decide +kernel
theorem dX7_isFound_47 : decode cX7_isFound 47 = .ok (.if_icmp .eq 5, 3) := by decide +kernel
theorem dX7_isFound_50 : decode cX7_isFound 50 = .ok (.iconst 0, 1) := by decide +kernel
theorem dX7_isFound_51 : decode cX7_isFound 51 = .ok (.ireturn, 1) := by decide +kernel
theorem dX7_isFound_52 : decode cX7_isFound 52 = .ok (.iinc 3 1, 3) := by decide +kernel
theorem dX7_isFound_55 : decode cX7_isFound 55 = .ok (.goto (-34), 3) := by decide +kernel
theorem dX7_isFound_58 : decode cX7_isFound 58 = .ok (.iinc 2 1, 3) := by decide +kernel
theorem dX7_isFound_61 : decode cX7_isFound 61 = .ok (.goto (-48), 3) := by decide +kernel
theorem dX7_isFound_64 : decode cX7_isFound 64 = .ok (.iconst 1, 1) := by decide +kernel
theorem dX7_isFound_65 : decode cX7_isFound 65 = .ok (.ireturn, 1) := by decide +kernel
theorem dX7_groups_0 : decode cX7_groups 0 = .ok (.iconst 0, 1) := by decide +kernel
theorem dX7_groups_1 : decode cX7_groups 1 = .ok (.istore_n 3, 1) := by decide +kernel
theorem dX7_groups_2 : decode cX7_groups 2 = .ok (.iconst 0, 1) := by decide +kernel
theorem dX7_groups_3 : decode cX7_groups 3 = .ok (.istore 4, 2) := by decide +kernel
theorem dX7_groups_5 : decode cX7_groups 5 = .ok (.iconst 0, 1) := by decide +kernel
theorem dX7_groups_6 : decode cX7_groups 6 = .ok (.istore 5, 2) := by decide +kernel
theorem dX7_groups_8 : decode cX7_groups 8 = .ok (.iload 5, 2) := by decide +kernel
theorem dX7_groups_10 : decode cX7_groups 10 = .ok (.bipush 16, 2) := by decide +kernel
theorem dX7_groups_12 : decode cX7_groups 12 = .ok (.if_icmp .gt 88, 3) := by decide +kernel
theorem dX7_groups_15 : decode cX7_groups 15 = .ok (.iconst 0, 1) := by decide +kernel
theorem dX7_groups_16 : decode cX7_groups 16 = .ok (.istore 6, 2) := by decide +kernel
theorem dX7_groups_18 : decode cX7_groups 18 = .ok (.iconst 0, 1) := by decide +kernel
theorem dX7_groups_19 : decode cX7_groups 19 = .ok (.istore 7, 2) := by decide +kernel
theorem dX7_groups_21 : decode cX7_groups 21 = .ok (.iload 7, 2) := by decide +kernel
theorem dX7_groups_23 : decode cX7_groups 23 = .ok (.bipush 6, 2) := by decide +kernel
theorem dX7_groups_25 : decode cX7_groups 25 = .ok (.if_icmp .ge 40, 3) := by decide +kernel
theorem dX7_groups_28 : decode cX7_groups 28 = .ok (.iload 6, 2) := by decide +kernel
theorem dX7_groups_30 : decode cX7_groups 30 = .ok (.aload_n 0, 1) := by decide +kernel
theorem dX7_groups_31 : decode cX7_groups 31 = .ok (.iload 7, 2) := by decide +kernel
theorem dX7_groups_33 : decode cX7_groups 33 = .ok (.invokevirtual 125, 3) := by decide +kernel
theorem dX7_groups_36 : decode cX7_groups 36 = .ok (.ifCond .eq 19, 3) := by decide +kernel
theorem dX7_groups_39 : decode cX7_groups 39 = .ok (.aload_n 0, 1) := by decide +kernel
theorem dX7_groups_40 : decode cX7_groups 40 = .ok (.iload 7, 2) := by decide +kernel
theorem dX7_groups_42 : decode cX7_groups 42 = .ok (.iload_n 1, 1) := by decide +kernel
theorem dX7_groups_43 : decode cX7_groups 43 = .ok (.invokevirtual 122, 3) := by decide +kernel
theorem dX7_groups_46 : decode cX7_groups 46 = .ok (.iload 5, 2) := by decide +kernel
theorem dX7_groups_48 : decode cX7_groups 48 = .ok (.if_icmp .ne 7, 3) := by decide +kernel
theorem dX7_groups_51 : decode cX7_groups 51 = .ok (.iconst 1, 1) := by decide +kernel
theorem dX7_groups_52 : decode cX7_groups 52 = .ok (.goto 4, 3) := by decide +kernel
theorem dX7_groups_55 : decode cX7_groups 55 = .ok (.iconst 0, 1) := by decide +kernel
theorem dX7_groups_56 : decode cX7_groups 56 = .ok (.iadd, 1) := by decide +kernel
theorem dX7_groups_57 : decode cX7_groups 57 = .ok (.istore 6, 2) := by decide +kernel
theorem dX7_groups_59 : decode cX7_groups 59 = .ok (.iinc 7 1, 3) := by decide +kernel
theorem dX7_groups_62 : decode cX7_groups 62 = .ok (.goto (-41), 3) := by decide +kernel
theorem dX7_groups_65 : decode cX7_groups 65 = .ok (.iload_n 3, 1) := by decide +kernel
theorem dX7_groups_66 : decode cX7_groups 66 = .ok (.iload 6, 2) := by decide +kernel
theorem dX7_groups_68 : decode cX7_groups 68 = .ok (.ifCond .le 7, 3) := by decide +kernel
theorem dX7_groups_71 : decode cX7_groups 71 = .ok (.iconst 1, 1) := by decide +kernel
theorem dX7_groups_72 : decode cX7_groups 72 = .ok (.goto 4, 3) := by decide +kernel
theorem dX7_groups_75 : decode cX7_groups 75 = .ok (.iconst 0, 1) := by decide +kernel
theorem dX7_groups_76 : decode cX7_groups 76 = .ok (.iadd, 1) := by decide +kernel
theorem dX7_groups_77 : decode cX7_groups 77 = .ok (.istore_n 3, 1) := by decide +kernel
theorem dX7_groups_78 : decode cX7_groups 78 = .ok (.iload 6, 2) := by decide +kernel
theorem dX7_groups_80 : decode cX7_groups 80 = .ok (.iload 4, 2) := by decide +kernel
theorem dX7_groups_82 : decode cX7_groups 82 = .ok (.if_icmp .le 8, 3) := by decide +kernel
theorem dX7_groups_85 : decode cX7_groups 85 = .ok (.iload 6, 2) := by decide +kernel
theorem dX7_groups_87 : decode cX7_groups 87 = .ok (.goto 5, 3) := by decide +kernel
theorem dX7_groups_90 : decode cX7_groups 90 = .ok (.iload 4, 2) := by decide +kernel
theorem dX7_groups_92 : decode cX7_groups 92 = .ok (.istore 4, 2) := by decide +kernel
theorem dX7_groups_94 : decode cX7_groups 94 = .ok (.iinc 5 1, 3) := by decide +kernel
theorem dX7_groups_97 : decode cX7_groups 97 = .ok (.goto (-89), 3) := by decide +kernel
theorem dX7_groups_100 : decode cX7_groups 100 = .ok (.iload_n 2, 1) := by decide +kernel
theorem dX7_groups_101 : decode cX7_groups 101 = .ok (.ifCond .ne 7, 3) := by decide +kernel
theorem dX7_groups_104 : decode cX7_groups 104 = .ok (.iload_n 3, 1) := by decide +kernel
theorem dX7_groups_105 : decode cX7_groups 105 = .ok (.goto 5, 3) := by decide +kernel
theorem dX7_groups_108 : decode cX7_groups 108 = .ok (.iload 4, 2) := by decide +kernel
theorem dX7_groups_110 : decode cX7_groups 110 = .ok (.ireturn, 1) := by decide +kernel
theorem dX7_bestKey_0 : decode cX7_bestKey 0 = .ok (.iconst 0, 1) := by decide +kernel
theorem dX7_bestKey_1 : decode cX7_bestKey 1 = .ok (.istore_n 1, 1) := by decide +kernel
theorem dX7_bestKey_2 : decode cX7_bestKey 2 = .ok (.iconst 1, 1) := by decide +kernel
theorem dX7_bestKey_3 : decode cX7_bestKey 3 = .ok (.istore_n 2, 1) := by decide +kernel
theorem dX7_bestKey_4 : decode cX7_bestKey 4 = .ok (.iload_n 2, 1) := by decide +kernel
theorem dX7_bestKey_5 : decode cX7_bestKey 5 = .ok (.bipush 16, 2) := by decide +kernel
theorem dX7_bestKey_7 : decode cX7_bestKey 7 = .ok (.if_icmp .ge 52, 3) := by decide +kernel
theorem dX7_bestKey_10 : decode cX7_bestKey 10 = .ok (.aload_n 0, 1) := by decide +kernel
theorem dX7_bestKey_11 : decode cX7_bestKey 11 = .ok (.iload_n 1, 1) := by decide +kernel
theorem dX7_bestKey_12 : decode cX7_bestKey 12 = .ok (.iconst 1, 1) := by decide +kernel
theorem dX7_bestKey_13 : decode cX7_bestKey 13 = .ok (.invokevirtual 128, 3) := by decide +kernel
theorem dX7_bestKey_16 : decode cX7_bestKey 16 = .ok (.aload_n 0, 1) := by decide +kernel
theorem dX7_bestKey_17 : decode cX7_bestKey 17 = .ok (.iload_n 2, 1) := by decide +kernel
theorem dX7_bestKey_18 : decode cX7_bestKey 18 = .ok (.iconst 1, 1) := by decide +kernel
theorem dX7_bestKey_19 : decode cX7_bestKey 19 = .ok (.invokevirtual 128, 3) := by decide +kernel
theorem dX7_bestKey_22 : decode cX7_bestKey 22 = .ok (.isub, 1) := by decide +kernel
theorem dX7_bestKey_23 : decode cX7_bestKey 23 = .ok (.istore_n 3, 1) := by decide +kernel
theorem dX7_bestKey_24 : decode cX7_bestKey 24 = .ok (.iload_n 3, 1) := by decide +kernel
theorem dX7_bestKey_25 : decode cX7_bestKey 25 = .ok (.ifCond .gt 22, 3) := by decide +kernel
theorem dX7_bestKey_28 : decode cX7_bestKey 28 = .ok (.iload_n 3, 1) := by decide +kernel
theorem dX7_bestKey_29 : decode cX7_bestKey 29 = .ok (.ifCond .ne 22, 3) := by decide +kernel
theorem dX7_bestKey_32 : decode cX7_bestKey 32 = .ok (.aload_n 0, 1) := by decide +kernel
theorem dX7_bestKey_33 : decode cX7_bestKey 33 = .ok (.iload_n 2, 1) := by decide +kernel
theorem dX7_bestKey_34 : decode cX7_bestKey 34 = .ok (.iconst 0, 1) := by decide +kernel
theorem dX7_bestKey_35 : decode cX7_bestKey 35 = .ok (.invokevirtual 128, 3) := by decide +kernel
theorem dX7_bestKey_38 : decode cX7_bestKey 38 = .ok (.aload_n 0, 1) := by decide +kernel
theorem dX7_bestKey_39 : decode cX7_bestKey 39 = .ok (.iload_n 1, 1) := by decide +kernel
theorem dX7_bestKey_40 : decode cX7_bestKey 40 = .ok (.iconst 0, 1) := by decide +kernel
theorem dX7_bestKey_41 : decode cX7_bestKey 41 = .ok (.invokevirtual 128, 3) := by decide +kernel
theorem dX7_bestKey_44 : decode cX7_bestKey 44 = .ok (.if_icmp .le 7, 3) := by decide +kernel
theorem dX7_bestKey_47 : decode cX7_bestKey 47 = .ok (.iload_n 2, 1) := by decide +kernel
theorem dX7_bestKey_48 : decode cX7_bestKey 48 = .ok (.goto 4, 3) := by decide +kernel
theorem dX7_bestKey_51 : decode cX7_bestKey 51 = .ok (.iload_n 1, 1) := by decide +kernel
theorem dX7_bestKey_52 : decode cX7_bestKey 52 = .ok (.istore_n 1, 1) := by decide +kernel
theorem dX7_bestKey_53 : decode cX7_bestKey 53 = .ok (.iinc 2 1, 3) := by decide +kernel
theorem dX7_bestKey_56 : decode cX7_bestKey 56 = .ok (.goto (-52), 3) := by decide +kernel
theorem dX7_bestKey_59 : decode cX7_bestKey 59 = .ok (.iload_n 1, 1) := by decide +kernel
theorem dX7_bestKey_60 : decode cX7_bestKey 60 = .ok (.ireturn, 1) := by decide +kernel
theorem dX7_type_0 : decode cX7_type 0 = .ok (.aload_n 0, 1) := by decide +kernel
theorem dX7_type_1 : decode cX7_type 1 = .ok (.getfield 131, 3) := by decide +kernel
theorem dX7_type_4 : decode cX7_type 4 = .ok (.bipush 60, 2) := by decide +kernel
theorem dX7_type_6 : decode cX7_type 6 = .ok (.if_icmp .ne 6, 3) := by decide +kernel
theorem dX7_type_9 : decode cX7_type 9 = .ok (.bipush (-3), 2) := by decide +kernel
theorem dX7_type_11 : decode cX7_type 11 = .ok (.ireturn, 1) := by decide +kernel
theorem dX7_type_12 : decode cX7_type 12 = .ok (.aload_n 0, 1) := by decide +kernel
theorem dX7_type_13 : decode cX7_type 13 = .ok (.getfield 25, 3) := by decide +kernel
theorem dX7_type_16 : decode cX7_type 16 = .ok (.aload_n 0, 1) := by decide +kernel
theorem dX7_type_17 : decode cX7_type 17 = .ok (.getfield 131, 3) := by decide +kernel
theorem dX7_type_20 : decode cX7_type 20 = .ok (.iload_n 1, 1) := by decide +kernel
theorem dX7_type_21 : decode cX7_type 21 = .ok (.castore, 1) := by decide +kernel
theorem dX7_type_22 : decode cX7_type 22 = .ok (.aload_n 0, 1) := by decide +kernel
theorem dX7_type_23 : decode cX7_type 23 = .ok (.dup, 1) := by decide +kernel
theorem dX7_type_24 : decode cX7_type 24 = .ok (.getfield 131, 3) := by decide +kernel
theorem dX7_type_27 : decode cX7_type 27 = .ok (.iconst 1, 1) := by decide +kernel
theorem dX7_type_28 : decode cX7_type 28 = .ok (.iadd, 1) := by decide +kernel
theorem dX7_type_29 : decode cX7_type 29 = .ok (.putfield 131, 3) := by decide +kernel
theorem dX7_type_32 : decode cX7_type 32 = .ok (.aload_n 0, 1) := by decide +kernel
theorem dX7_type_33 : decode cX7_type 33 = .ok (.getfield 131, 3) := by decide +kernel
theorem dX7_type_36 : decode cX7_type 36 = .ok (.ireturn, 1) := by decide +kernel
theorem dX7_clearText_0 : decode cX7_clearText 0 = .ok (.aload_n 0, 1) := by decide +kernel
theorem dX7_clearText_1 : decode cX7_clearText 1 = .ok (.getfield 131, 3) := by decide +kernel
theorem dX7_clearText_4 : decode cX7_clearText 4 = .ok (.istore_n 1, 1) := by decide +kernel
theorem dX7_clearText_5 : decode cX7_clearText 5 = .ok (.aload_n 0, 1) := by decide +kernel
theorem dX7_clearText_6 : decode cX7_clearText 6 = .ok (.iconst 0, 1) := by decide +kernel
theorem dX7_clearText_7 : decode cX7_clearText 7 = .ok (.putfield 131, 3) := by decide +kernel
theorem dX7_clearText_10 : decode cX7_clearText 10 = .ok (.iload_n 1, 1) := by decide +kernel
theorem dX7_clearText_11 : decode cX7_clearText 11 = .ok (.ireturn, 1) := by decide +kernel
theorem dX7_isSign_0 : decode cX7_isSign 0 = .ok (.aload_n 0, 1) := by decide +kernel
theorem dX7_isSign_1 : decode cX7_isSign 1 = .ok (.getfield 85, 3) := by decide +kernel
theorem dX7_isSign_4 : decode cX7_isSign 4 = .ok (.aload_n 0, 1) := by decide +kernel
theorem dX7_isSign_5 : decode cX7_isSign 5 = .ok (.getfield 131, 3) := by decide +kernel
theorem dX7_isSign_8 : decode cX7_isSign 8 = .ok (.if_icmp .ge 20, 3) := by decide +kernel
theorem dX7_isSign_11 : decode cX7_isSign 11 = .ok (.aload_n 0, 1) := by decide +kernel
theorem dX7_isSign_12 : decode cX7_isSign 12 = .ok (.getfield 25, 3) := by decide +kernel
theorem dX7_isSign_15 : decode cX7_isSign 15 = .ok (.aload_n 0, 1) := by decide +kernel
theorem dX7_isSign_16 : decode cX7_isSign 16 = .ok (.getfield 85, 3) := by decide +kernel
theorem dX7_isSign_19 : decode cX7_isSign 19 = .ok (.caload, 1) := by decide +kernel
theorem dX7_isSign_20 : decode cX7_isSign 20 = .ok (.iload_n 1, 1) := by decide +kernel
theorem dX7_isSign_21 : decode cX7_isSign 21 = .ok (.if_icmp .ne 7, 3) := by decide +kernel
theorem dX7_isSign_24 : decode cX7_isSign 24 = .ok (.iconst 1, 1) := by decide +kernel
theorem dX7_isSign_25 : decode cX7_isSign 25 = .ok (.goto 4, 3) := by decide +kernel
theorem dX7_isSign_28 : decode cX7_isSign 28 = .ok (.iconst 0, 1) := by decide +kernel
theorem dX7_isSign_29 : decode cX7_isSign 29 = .ok (.ireturn, 1) := by decide +kernel
theorem dX7_takes_0 : decode cX7_takes 0 = .ok (.aload_n 0, 1) := by decide +kernel
theorem dX7_takes_1 : decode cX7_takes 1 = .ok (.iload_n 1, 1) := by decide +kernel
theorem dX7_takes_2 : decode cX7_takes 2 = .ok (.invokevirtual 134, 3) := by decide +kernel
theorem dX7_takes_5 : decode cX7_takes 5 = .ok (.ifCond .ne 5, 3) := by decide +kernel
theorem dX7_takes_8 : decode cX7_takes 8 = .ok (.iconst 0, 1) := by decide +kernel
theorem dX7_takes_9 : decode cX7_takes 9 = .ok (.ireturn, 1) := by decide +kernel
theorem dX7_takes_10 : decode cX7_takes 10 = .ok (.aload_n 0, 1) := by decide +kernel
theorem dX7_takes_11 : decode cX7_takes 11 = .ok (.dup, 1) := by decide +kernel
theorem dX7_takes_12 : decode cX7_takes 12 = .ok (.getfield 85, 3) := by decide +kernel
theorem dX7_takes_15 : decode cX7_takes 15 = .ok (.iconst 1, 1) := by decide +kernel
theorem dX7_takes_16 : decode cX7_takes 16 = .ok (.iadd, 1) := by decide +kernel
theorem dX7_takes_17 : decode cX7_takes 17 = .ok (.putfield 85, 3) := by decide +kernel
theorem dX7_takes_20 : decode cX7_takes 20 = .ok (.iconst 1, 1) := by decide +kernel
theorem dX7_takes_21 : decode cX7_takes 21 = .ok (.ireturn, 1) := by decide +kernel
theorem dX7_isBetween_0 : decode cX7_isBetween 0 = .ok (.aload_n 0, 1) := by decide +kernel
theorem dX7_isBetween_1 : decode cX7_isBetween 1 = .ok (.getfield 85, 3) := by decide +kernel
theorem dX7_isBetween_4 : decode cX7_isBetween 4 = .ok (.aload_n 0, 1) := by decide +kernel
theorem dX7_isBetween_5 : decode cX7_isBetween 5 = .ok (.getfield 131, 3) := by decide +kernel
theorem dX7_isBetween_8 : decode cX7_isBetween 8 = .ok (.if_icmp .ge 24, 3) := by decide +kernel
theorem dX7_isBetween_11 : decode cX7_isBetween 11 = .ok (.aload_n 0, 1) := by decide +kernel
theorem dX7_isBetween_12 : decode cX7_isBetween 12 = .ok (.getfield 25, 3) := by decide +kernel
theorem dX7_isBetween_15 : decode cX7_isBetween 15 = .ok (.aload_n 0, 1) := by decide +kernel
theorem dX7_isBetween_16 : decode cX7_isBetween 16 = .ok (.getfield 85, 3) := by decide +kernel
theorem dX7_isBetween_19 : decode cX7_isBetween 19 = .ok (.caload, 1) := by decide +kernel
theorem dX7_isBetween_20 : decode cX7_isBetween 20 = .ok (.iload_n 1, 1) := by decide +kernel
theorem dX7_isBetween_21 : decode cX7_isBetween 21 = .ok (.iload_n 2, 1) := by decide +kernel
theorem dX7_isBetween_22 : decode cX7_isBetween 22 = .ok (.invokestatic 51, 3) := by decide +kernel
theorem dX7_isBetween_25 : decode cX7_isBetween 25 = .ok (.ifCond .eq 7, 3) := by decide +kernel
theorem dX7_isBetween_28 : decode cX7_isBetween 28 = .ok (.iconst 1, 1) := by decide +kernel
theorem dX7_isBetween_29 : decode cX7_isBetween 29 = .ok (.goto 4, 3) := by decide +kernel
theorem dX7_isBetween_32 : decode cX7_isBetween 32 = .ok (.iconst 0, 1) := by decide +kernel
theorem dX7_isBetween_33 : decode cX7_isBetween 33 = .ok (.ireturn, 1) := by decide +kernel
theorem dX7_takesKey_0 : decode cX7_takesKey 0 = .ok (.aload_n 0, 1) := by decide +kernel
theorem dX7_takesKey_1 : decode cX7_takesKey 1 = .ok (.bipush 48, 2) := by decide +kernel
theorem dX7_takesKey_3 : decode cX7_takesKey 3 = .ok (.bipush 57, 2) := by decide +kernel
theorem dX7_takesKey_5 : decode cX7_takesKey 5 = .ok (.invokevirtual 137, 3) := by decide +kernel
theorem dX7_takesKey_8 : decode cX7_takesKey 8 = .ok (.ifCond .ne 5, 3) := by decide +kernel
theorem dX7_takesKey_11 : decode cX7_takesKey 11 = .ok (.iconst 0, 1) := by decide +kernel
theorem dX7_takesKey_12 : decode cX7_takesKey 12 = .ok (.ireturn, 1) := by decide +kernel
theorem dX7_takesKey_13 : decode cX7_takesKey 13 = .ok (.aload_n 0, 1) := by decide +kernel
theorem dX7_takesKey_14 : decode cX7_takesKey 14 = .ok (.aload_n 0, 1) := by decide +kernel
theorem dX7_takesKey_15 : decode cX7_takesKey 15 = .ok (.getfield 25, 3) := by decide +kernel
theorem dX7_takesKey_18 : decode cX7_takesKey 18 = .ok (.aload_n 0, 1) := by decide +kernel
theorem dX7_takesKey_19 : decode cX7_takesKey 19 = .ok (.getfield 85, 3) := by decide +kernel
theorem dX7_takesKey_22 : decode cX7_takesKey 22 = .ok (.caload, 1) := by decide +kernel
theorem dX7_takesKey_23 : decode cX7_takesKey 23 = .ok (.bipush 48, 2) := by decide +kernel
theorem dX7_takesKey_25 : decode cX7_takesKey 25 = .ok (.isub, 1) := by decide +kernel
theorem dX7_takesKey_26 : decode cX7_takesKey 26 = .ok (.putfield 140, 3) := by decide +kernel
theorem dX7_takesKey_29 : decode cX7_takesKey 29 = .ok (.aload_n 0, 1) := by decide +kernel
theorem dX7_takesKey_30 : decode cX7_takesKey 30 = .ok (.dup, 1) := by decide +kernel
theorem dX7_takesKey_31 : decode cX7_takesKey 31 = .ok (.getfield 85, 3) := by decide +kernel
theorem dX7_takesKey_34 : decode cX7_takesKey 34 = .ok (.iconst 1, 1) := by decide +kernel
theorem dX7_takesKey_35 : decode cX7_takesKey 35 = .ok (.iadd, 1) := by decide +kernel
theorem dX7_takesKey_36 : decode cX7_takesKey 36 = .ok (.putfield 85, 3) := by decide +kernel
theorem dX7_takesKey_39 : decode cX7_takesKey 39 = .ok (.aload_n 0, 1) := by decide +kernel
theorem dX7_takesKey_40 : decode cX7_takesKey 40 = .ok (.getfield 140, 3) := by decide +kernel
theorem dX7_takesKey_43 : decode cX7_takesKey 43 = .ok (.iconst 1, 1) := by decide +kernel
theorem dX7_takesKey_44 : decode cX7_takesKey 44 = .ok (.if_icmp .ne 43, 3) := by decide +kernel
theorem dX7_takesKey_47 : decode cX7_takesKey 47 = .ok (.aload_n 0, 1) := by decide +kernel
theorem dX7_takesKey_48 : decode cX7_takesKey 48 = .ok (.bipush 48, 2) := by decide +kernel
theorem dX7_takesKey_50 : decode cX7_takesKey 50 = .ok (.bipush 53, 2) := by decide +kernel
theorem dX7_takesKey_52 : decode cX7_takesKey 52 = .ok (.invokevirtual 137, 3) := by decide +kernel
theorem dX7_takesKey_55 : decode cX7_takesKey 55 = .ok (.ifCond .eq 32, 3) := by decide +kernel
theorem dX7_takesKey_58 : decode cX7_takesKey 58 = .ok (.aload_n 0, 1) := by decide +kernel
theorem dX7_takesKey_59 : decode cX7_takesKey 59 = .ok (.bipush 10, 2) := by decide +kernel
theorem dX7_takesKey_61 : decode cX7_takesKey 61 = .ok (.aload_n 0, 1) := by decide +kernel
theorem dX7_takesKey_62 : decode cX7_takesKey 62 = .ok (.getfield 25, 3) := by decide +kernel
theorem dX7_takesKey_65 : decode cX7_takesKey 65 = .ok (.aload_n 0, 1) := by decide +kernel
theorem dX7_takesKey_66 : decode cX7_takesKey 66 = .ok (.getfield 85, 3) := by decide +kernel
theorem dX7_takesKey_69 : decode cX7_takesKey 69 = .ok (.caload, 1) := by decide +kernel
theorem dX7_takesKey_70 : decode cX7_takesKey 70 = .ok (.iadd, 1) := by decide +kernel
theorem dX7_takesKey_71 : decode cX7_takesKey 71 = .ok (.bipush 48, 2) := by decide +kernel
theorem dX7_takesKey_73 : decode cX7_takesKey 73 = .ok (.isub, 1) := by decide +kernel
theorem dX7_takesKey_74 : decode cX7_takesKey 74 = .ok (.putfield 140, 3) := by decide +kernel
theorem dX7_takesKey_77 : decode cX7_takesKey 77 = .ok (.aload_n 0, 1) := by decide +kernel
theorem dX7_takesKey_78 : decode cX7_takesKey 78 = .ok (.dup, 1) := by decide +kernel
theorem dX7_takesKey_79 : decode cX7_takesKey 79 = .ok (.getfield 85, 3) := by decide +kernel
theorem dX7_takesKey_82 : decode cX7_takesKey 82 = .ok (.iconst 1, 1) := by decide +kernel
theorem dX7_takesKey_83 : decode cX7_takesKey 83 = .ok (.iadd, 1) := by decide +kernel
theorem dX7_takesKey_84 : decode cX7_takesKey 84 = .ok (.putfield 85, 3) := by decide +kernel
theorem dX7_takesKey_87 : decode cX7_takesKey 87 = .ok (.iconst 1, 1) := by decide +kernel
theorem dX7_takesKey_88 : decode cX7_takesKey 88 = .ok (.ireturn, 1) := by decide +kernel
theorem dX7_isLayerText_0 : decode cX7_isLayerText 0 = .ok (.iconst 0, 1) := by decide +kernel
theorem dX7_isLayerText_1 : decode cX7_isLayerText 1 = .ok (.istore_n 1, 1) := by decide +kernel
theorem dX7_isLayerText_2 : decode cX7_isLayerText 2 = .ok (.iload_n 1, 1) := by decide +kernel
theorem dX7_isLayerText_3 : decode cX7_isLayerText 3 = .ok (.bipush 16, 2) := by decide +kernel
theorem dX7_isLayerText_5 : decode cX7_isLayerText 5 = .ok (.if_icmp .ge 17, 3) := by decide +kernel
theorem dX7_isLayerText_8 : decode cX7_isLayerText 8 = .ok (.aload_n 0, 1) := by decide +kernel
theorem dX7_isLayerText_9 : decode cX7_isLayerText 9 = .ok (.getfield 22, 3) := by decide +kernel
theorem dX7_isLayerText_12 : decode cX7_isLayerText 12 = .ok (.iload_n 1, 1) := by decide +kernel
theorem dX7_isLayerText_13 : decode cX7_isLayerText 13 = .ok (.bipush 17, 2) := by decide +kernel
theorem dX7_isLayerText_15 : decode cX7_isLayerText 15 = .ok (.iastore, 1) := by decide +kernel
theorem dX7_isLayerText_16 : decode cX7_isLayerText 16 = .ok (.iinc 1 1, 3) := by decide +kernel
theorem dX7_isLayerText_19 : decode cX7_isLayerText 19 = .ok (.goto (-17), 3) := by decide +kernel
theorem dX7_isLayerText_22 : decode cX7_isLayerText 22 = .ok (.aload_n 0, 1) := by decide +kernel
theorem dX7_isLayerText_23 : decode cX7_isLayerText 23 = .ok (.iconst 0, 1) := by decide +kernel
theorem dX7_isLayerText_24 : decode cX7_isLayerText 24 = .ok (.putfield 85, 3) := by decide +kernel
theorem dX7_isLayerText_27 : decode cX7_isLayerText 27 = .ok (.iconst 1, 1) := by decide +kernel
theorem dX7_isLayerText_28 : decode cX7_isLayerText 28 = .ok (.istore_n 1, 1) := by decide +kernel
theorem dX7_isLayerText_29 : decode cX7_isLayerText 29 = .ok (.iload_n 1, 1) := by decide +kernel
theorem dX7_isLayerText_30 : decode cX7_isLayerText 30 = .ok (.ifCond .eq 105, 3) := by decide +kernel
theorem dX7_isLayerText_33 : decode cX7_isLayerText 33 = .ok (.aload_n 0, 1) := by decide +kernel
theorem dX7_isLayerText_34 : decode cX7_isLayerText 34 = .ok (.invokevirtual 143, 3) := by decide +kernel
theorem dX7_isLayerText_37 : decode cX7_isLayerText 37 = .ok (.ifCond .ne 5, 3) := by decide +kernel
theorem dX7_isLayerText_40 : decode cX7_isLayerText 40 = .ok (.iconst 0, 1) := by decide +kernel
theorem dX7_isLayerText_41 : decode cX7_isLayerText 41 = .ok (.ireturn, 1) := by decide +kernel
theorem dX7_isLayerText_42 : decode cX7_isLayerText 42 = .ok (.aload_n 0, 1) := by decide +kernel
theorem dX7_isLayerText_43 : decode cX7_isLayerText 43 = .ok (.getfield 140, 3) := by decide +kernel
theorem dX7_isLayerText_46 : decode cX7_isLayerText 46 = .ok (.istore_n 2, 1) := by decide +kernel
theorem dX7_isLayerText_47 : decode cX7_isLayerText 47 = .ok (.aload_n 0, 1) := by decide +kernel
theorem dX7_isLayerText_48 : decode cX7_isLayerText 48 = .ok (.bipush 62, 2) := by decide +kernel
theorem dX7_isLayerText_50 : decode cX7_isLayerText 50 = .ok (.invokevirtual 146, 3) := by decide +kernel
theorem dX7_isLayerText_53 : decode cX7_isLayerText 53 = .ok (.ifCond .ne 5, 3) := by decide +kernel
theorem dX7_isLayerText_56 : decode cX7_isLayerText 56 = .ok (.iconst 0, 1) := by decide +kernel
theorem dX7_isLayerText_57 : decode cX7_isLayerText 57 = .ok (.ireturn, 1) := by decide +kernel
theorem dX7_isLayerText_58 : decode cX7_isLayerText 58 = .ok (.aload_n 0, 1) := by decide +kernel
theorem dX7_isLayerText_59 : decode cX7_isLayerText 59 = .ok (.bipush 45, 2) := by decide +kernel
theorem dX7_isLayerText_61 : decode cX7_isLayerText 61 = .ok (.invokevirtual 146, 3) := by decide +kernel
theorem dX7_isLayerText_64 : decode cX7_isLayerText 64 = .ok (.ifCond .eq 14, 3) := by decide +kernel
theorem dX7_isLayerText_67 : decode cX7_isLayerText 67 = .ok (.aload_n 0, 1) := by decide +kernel
theorem dX7_isLayerText_68 : decode cX7_isLayerText 68 = .ok (.getfield 22, 3) := by decide +kernel
theorem dX7_isLayerText_71 : decode cX7_isLayerText 71 = .ok (.iload_n 2, 1) := by decide +kernel
theorem dX7_isLayerText_72 : decode cX7_isLayerText 72 = .ok (.bipush 16, 2) := by decide +kernel
theorem dX7_isLayerText_74 : decode cX7_isLayerText 74 = .ok (.iastore, 1) := by decide +kernel
theorem dX7_isLayerText_75 : decode cX7_isLayerText 75 = .ok (.goto 25, 3) := by decide +kernel
theorem dX7_isLayerText_78 : decode cX7_isLayerText 78 = .ok (.aload_n 0, 1) := by decide +kernel
theorem dX7_isLayerText_79 : decode cX7_isLayerText 79 = .ok (.invokevirtual 143, 3) := by decide +kernel
theorem dX7_isLayerText_82 : decode cX7_isLayerText 82 = .ok (.ifCond .eq 16, 3) := by decide +kernel
theorem dX7_isLayerText_85 : decode cX7_isLayerText 85 = .ok (.aload_n 0, 1) := by decide +kernel
theorem dX7_isLayerText_86 : decode cX7_isLayerText 86 = .ok (.getfield 22, 3) := by decide +kernel
theorem dX7_isLayerText_89 : decode cX7_isLayerText 89 = .ok (.iload_n 2, 1) := by decide +kernel
theorem dX7_isLayerText_90 : decode cX7_isLayerText 90 = .ok (.aload_n 0, 1) := by decide +kernel
theorem dX7_isLayerText_91 : decode cX7_isLayerText 91 = .ok (.getfield 140, 3) := by decide +kernel
theorem dX7_isLayerText_94 : decode cX7_isLayerText 94 = .ok (.iastore, 1) := by decide +kernel
theorem dX7_isLayerText_95 : decode cX7_isLayerText 95 = .ok (.goto 5, 3) := by decide +kernel
theorem dX7_isLayerText_98 : decode cX7_isLayerText 98 = .ok (.iconst 0, 1) := by decide +kernel
theorem dX7_isLayerText_99 : decode cX7_isLayerText 99 = .ok (.ireturn, 1) := by decide +kernel
theorem dX7_isLayerText_100 : decode cX7_isLayerText 100 = .ok (.aload_n 0, 1) := by decide +kernel
theorem dX7_isLayerText_101 : decode cX7_isLayerText 101 = .ok (.getfield 85, 3) := by decide +kernel
theorem dX7_isLayerText_104 : decode cX7_isLayerText 104 = .ok (.aload_n 0, 1) := by decide +kernel
theorem dX7_isLayerText_105 : decode cX7_isLayerText 105 = .ok (.getfield 131, 3) := by decide +kernel
theorem dX7_isLayerText_108 : decode cX7_isLayerText 108 = .ok (.if_icmp .ge 7, 3) := by decide +kernel
theorem dX7_isLayerText_111 : decode cX7_isLayerText 111 = .ok (.iconst 1, 1) := by decide +kernel
theorem dX7_isLayerText_112 : decode cX7_isLayerText 112 = .ok (.goto 4, 3) := by decide +kernel
theorem dX7_isLayerText_115 : decode cX7_isLayerText 115 = .ok (.iconst 0, 1) := by decide +kernel
theorem dX7_isLayerText_116 : decode cX7_isLayerText 116 = .ok (.istore_n 1, 1) := by decide +kernel
theorem dX7_isLayerText_117 : decode cX7_isLayerText 117 = .ok (.iload_n 1, 1) := by decide +kernel
theorem dX7_isLayerText_118 : decode cX7_isLayerText 118 = .ok (.ifCond .eq 14, 3) := by decide +kernel
theorem dX7_isLayerText_121 : decode cX7_isLayerText 121 = .ok (.aload_n 0, 1) := by decide +kernel
theorem dX7_isLayerText_122 : decode cX7_isLayerText 122 = .ok (.bipush 44, 2) := by decide +kernel
theorem dX7_isLayerText_124 : decode cX7_isLayerText 124 = .ok (.invokevirtual 146, 3) := by decide +kernel
theorem dX7_isLayerText_127 : decode cX7_isLayerText 127 = .ok (.ifCond .ne 5, 3) := by decide +kernel
theorem dX7_isLayerText_130 : decode cX7_isLayerText 130 = .ok (.iconst 0, 1) := by decide +kernel
theorem dX7_isLayerText_131 : decode cX7_isLayerText 131 = .ok (.ireturn, 1) := by decide +kernel
theorem dX7_isLayerText_132 : decode cX7_isLayerText 132 = .ok (.goto (-103), 3) := by decide +kernel
theorem dX7_isLayerText_135 : decode cX7_isLayerText 135 = .ok (.iconst 1, 1) := by decide +kernel
theorem dX7_isLayerText_136 : decode cX7_isLayerText 136 = .ok (.ireturn, 1) := by decide +kernel
theorem dX7_inverts_0 : decode cX7_inverts 0 = .ok (.iconst 0, 1) := by decide +kernel
theorem dX7_inverts_1 : decode cX7_inverts 1 = .ok (.istore_n 1, 1) := by decide +kernel
theorem dX7_inverts_2 : decode cX7_inverts 2 = .ok (.iload_n 1, 1) := by decide +kernel
theorem dX7_inverts_3 : decode cX7_inverts 3 = .ok (.bipush 16, 2) := by decide +kernel
theorem dX7_inverts_5 : decode cX7_inverts 5 = .ok (.if_icmp .ge 110, 3) := by decide +kernel
theorem dX7_inverts_8 : decode cX7_inverts 8 = .ok (.iconst 0, 1) := by decide +kernel
theorem dX7_inverts_9 : decode cX7_inverts 9 = .ok (.istore_n 2, 1) := by decide +kernel
theorem dX7_inverts_10 : decode cX7_inverts 10 = .ok (.bipush 16, 2) := by decide +kernel
theorem dX7_inverts_12 : decode cX7_inverts 12 = .ok (.istore_n 3, 1) := by decide +kernel
theorem dX7_inverts_13 : decode cX7_inverts 13 = .ok (.bipush 16, 2) := by decide +kernel
theorem dX7_inverts_15 : decode cX7_inverts 15 = .ok (.istore 4, 2) := by decide +kernel
theorem dX7_inverts_17 : decode cX7_inverts 17 = .ok (.iconst 0, 1) := by decide +kernel
theorem dX7_inverts_18 : decode cX7_inverts 18 = .ok (.istore 5, 2) := by decide +kernel
theorem dX7_inverts_20 : decode cX7_inverts 20 = .ok (.iload 5, 2) := by decide +kernel
theorem dX7_inverts_22 : decode cX7_inverts 22 = .ok (.bipush 16, 2) := by decide +kernel
theorem dX7_inverts_24 : decode cX7_inverts 24 = .ok (.if_icmp .ge 40, 3) := by decide +kernel
theorem dX7_inverts_27 : decode cX7_inverts 27 = .ok (.aload_n 0, 1) := by decide +kernel
theorem dX7_inverts_28 : decode cX7_inverts 28 = .ok (.getfield 29, 3) := by decide +kernel
theorem dX7_inverts_31 : decode cX7_inverts 31 = .ok (.iload 5, 2) := by decide +kernel
theorem dX7_inverts_33 : decode cX7_inverts 33 = .ok (.iaload, 1) := by decide +kernel
theorem dX7_inverts_34 : decode cX7_inverts 34 = .ok (.iload_n 1, 1) := by decide +kernel
theorem dX7_inverts_35 : decode cX7_inverts 35 = .ok (.if_icmp .ne 23, 3) := by decide +kernel
theorem dX7_inverts_38 : decode cX7_inverts 38 = .ok (.iinc 2 1, 3) := by decide +kernel
theorem dX7_inverts_41 : decode cX7_inverts 41 = .ok (.iload_n 3, 1) := by decide +kernel
theorem dX7_inverts_42 : decode cX7_inverts 42 = .ok (.bipush 16, 2) := by decide +kernel
theorem dX7_inverts_44 : decode cX7_inverts 44 = .ok (.if_icmp .ne 8, 3) := by decide +kernel
theorem dX7_inverts_47 : decode cX7_inverts 47 = .ok (.iload 5, 2) := by decide +kernel
theorem dX7_inverts_49 : decode cX7_inverts 49 = .ok (.goto 4, 3) := by decide +kernel
theorem dX7_inverts_52 : decode cX7_inverts 52 = .ok (.iload_n 3, 1) := by decide +kernel
theorem dX7_inverts_53 : decode cX7_inverts 53 = .ok (.istore_n 3, 1) := by decide +kernel
theorem dX7_inverts_54 : decode cX7_inverts 54 = .ok (.iload 5, 2) := by decide +kernel
theorem dX7_inverts_56 : decode cX7_inverts 56 = .ok (.istore 4, 2) := by decide +kernel
theorem dX7_inverts_58 : decode cX7_inverts 58 = .ok (.iinc 5 1, 3) := by decide +kernel
theorem dX7_inverts_61 : decode cX7_inverts 61 = .ok (.goto (-41), 3) := by decide +kernel
theorem dX7_inverts_64 : decode cX7_inverts 64 = .ok (.aload_n 0, 1) := by decide +kernel
theorem dX7_inverts_65 : decode cX7_inverts 65 = .ok (.getfield 45, 3) := by decide +kernel
theorem dX7_inverts_68 : decode cX7_inverts 68 = .ok (.iload_n 1, 1) := by decide +kernel
theorem dX7_inverts_69 : decode cX7_inverts 69 = .ok (.aload_n 0, 1) := by decide +kernel
theorem dX7_inverts_70 : decode cX7_inverts 70 = .ok (.getfield 7, 3) := by decide +kernel
theorem dX7_inverts_73 : decode cX7_inverts 73 = .ok (.sipush 414, 3) := by decide +kernel
theorem dX7_inverts_76 : decode cX7_inverts 76 = .ok (.iaload, 1) := by decide +kernel
theorem dX7_inverts_77 : decode cX7_inverts 77 = .ok (.ifCond .ne 13, 3) := by decide +kernel
theorem dX7_inverts_80 : decode cX7_inverts 80 = .ok (.iload_n 2, 1) := by decide +kernel
theorem dX7_inverts_81 : decode cX7_inverts 81 = .ok (.iconst 1, 1) := by decide +kernel
theorem dX7_inverts_82 : decode cX7_inverts 82 = .ok (.if_icmp .le 8, 3) := by decide +kernel
theorem dX7_inverts_85 : decode cX7_inverts 85 = .ok (.bipush 16, 2) := by decide +kernel
theorem dX7_inverts_87 : decode cX7_inverts 87 = .ok (.goto 21, 3) := by decide +kernel
theorem dX7_inverts_90 : decode cX7_inverts 90 = .ok (.aload_n 0, 1) := by decide +kernel
theorem dX7_inverts_91 : decode cX7_inverts 91 = .ok (.getfield 7, 3) := by decide +kernel
theorem dX7_inverts_94 : decode cX7_inverts 94 = .ok (.sipush 414, 3) := by decide +kernel
theorem dX7_inverts_97 : decode cX7_inverts 97 = .ok (.iaload, 1) := by decide +kernel
theorem dX7_inverts_98 : decode cX7_inverts 98 = .ok (.iconst 2, 1) := by decide +kernel
theorem dX7_inverts_99 : decode cX7_inverts 99 = .ok (.if_icmp .ne 8, 3) := by decide +kernel
theorem dX7_inverts_102 : decode cX7_inverts 102 = .ok (.iload 4, 2) := by decide +kernel
theorem dX7_inverts_104 : decode cX7_inverts 104 = .ok (.goto 4, 3) := by decide +kernel
theorem dX7_inverts_107 : decode cX7_inverts 107 = .ok (.iload_n 3, 1) := by decide +kernel
theorem dX7_inverts_108 : decode cX7_inverts 108 = .ok (.iastore, 1) := by decide +kernel
theorem dX7_inverts_109 : decode cX7_inverts 109 = .ok (.iinc 1 1, 3) := by decide +kernel
theorem dX7_inverts_112 : decode cX7_inverts 112 = .ok (.goto (-110), 3) := by decide +kernel
theorem dX7_inverts_115 : decode cX7_inverts 115 = .ok (.aload_n 0, 1) := by decide +kernel
theorem dX7_inverts_116 : decode cX7_inverts 116 = .ok (.invokevirtual 149, 3) := by decide +kernel
theorem dX7_inverts_119 : decode cX7_inverts 119 = .ok (.return_, 1) := by decide +kernel
theorem dX7_settles_0 : decode cX7_settles 0 = .ok (.iconst 0, 1) := by decide +kernel
theorem dX7_settles_1 : decode cX7_settles 1 = .ok (.istore_n 1, 1) := by decide +kernel
theorem dX7_settles_2 : decode cX7_settles 2 = .ok (.iload_n 1, 1) := by decide +kernel
theorem dX7_settles_3 : decode cX7_settles 3 = .ok (.bipush 16, 2) := by decide +kernel
theorem dX7_settles_5 : decode cX7_settles 5 = .ok (.if_icmp .ge 21, 3) := by decide +kernel
theorem dX7_settles_8 : decode cX7_settles 8 = .ok (.aload_n 0, 1) := by decide +kernel
theorem dX7_settles_9 : decode cX7_settles 9 = .ok (.getfield 29, 3) := by decide +kernel
theorem dX7_settles_12 : decode cX7_settles 12 = .ok (.iload_n 1, 1) := by decide +kernel
theorem dX7_settles_13 : decode cX7_settles 13 = .ok (.aload_n 0, 1) := by decide +kernel
theorem dX7_settles_14 : decode cX7_settles 14 = .ok (.getfield 45, 3) := by decide +kernel
theorem dX7_settles_17 : decode cX7_settles 17 = .ok (.iload_n 1, 1) := by decide +kernel
theorem dX7_settles_18 : decode cX7_settles 18 = .ok (.iaload, 1) := by decide +kernel
theorem dX7_settles_19 : decode cX7_settles 19 = .ok (.iastore, 1) := by decide +kernel
theorem dX7_settles_20 : decode cX7_settles 20 = .ok (.iinc 1 1, 3) := by decide +kernel
theorem dX7_settles_23 : decode cX7_settles 23 = .ok (.goto (-21), 3) := by decide +kernel
theorem dX7_settles_26 : decode cX7_settles 26 = .ok (.return_, 1) := by decide +kernel
theorem dX7_repeats_0 : decode cX7_repeats 0 = .ok (.iconst 0, 1) := by decide +kernel
theorem dX7_repeats_1 : decode cX7_repeats 1 = .ok (.istore_n 2, 1) := by decide +kernel
theorem dX7_repeats_2 : decode cX7_repeats 2 = .ok (.iload_n 2, 1) := by decide +kernel
theorem dX7_repeats_3 : decode cX7_repeats 3 = .ok (.bipush 16, 2) := by decide +kernel
theorem dX7_repeats_5 : decode cX7_repeats 5 = .ok (.if_icmp .ge 46, 3) := by decide +kernel
theorem dX7_repeats_8 : decode cX7_repeats 8 = .ok (.iload_n 2, 1) := by decide +kernel
theorem dX7_repeats_9 : decode cX7_repeats 9 = .ok (.istore_n 3, 1) := by decide +kernel
theorem dX7_repeats_10 : decode cX7_repeats 10 = .ok (.iconst 0, 1) := by decide +kernel
theorem dX7_repeats_11 : decode cX7_repeats 11 = .ok (.istore 4, 2) := by decide +kernel
theorem dX7_repeats_13 : decode cX7_repeats 13 = .ok (.iload 4, 2) := by decide +kernel
theorem dX7_repeats_15 : decode cX7_repeats 15 = .ok (.iload_n 1, 1) := by decide +kernel
theorem dX7_repeats_16 : decode cX7_repeats 16 = .ok (.if_icmp .ge 22, 3) := by decide +kernel
theorem dX7_repeats_19 : decode cX7_repeats 19 = .ok (.iload_n 3, 1) := by decide +kernel
theorem dX7_repeats_20 : decode cX7_repeats 20 = .ok (.bipush 16, 2) := by decide +kernel
theorem dX7_repeats_22 : decode cX7_repeats 22 = .ok (.if_icmp .eq 16, 3) := by decide +kernel
theorem dX7_repeats_25 : decode cX7_repeats 25 = .ok (.aload_n 0, 1) := by decide +kernel
theorem dX7_repeats_26 : decode cX7_repeats 26 = .ok (.getfield 29, 3) := by decide +kernel
theorem dX7_repeats_29 : decode cX7_repeats 29 = .ok (.iload_n 3, 1) := by decide +kernel
theorem dX7_repeats_30 : decode cX7_repeats 30 = .ok (.iaload, 1) := by decide +kernel
theorem dX7_repeats_31 : decode cX7_repeats 31 = .ok (.istore_n 3, 1) := by decide +kernel
theorem dX7_repeats_32 : decode cX7_repeats 32 = .ok (.iinc 4 1, 3) := by decide +kernel
theorem dX7_repeats_35 : decode cX7_repeats 35 = .ok (.goto (-22), 3) := by decide +kernel
theorem dX7_repeats_38 : decode cX7_repeats 38 = .ok (.aload_n 0, 1) := by decide +kernel
theorem dX7_repeats_39 : decode cX7_repeats 39 = .ok (.getfield 45, 3) := by decide +kernel
theorem dX7_repeats_42 : decode cX7_repeats 42 = .ok (.iload_n 2, 1) := by decide +kernel
theorem dX7_repeats_43 : decode cX7_repeats 43 = .ok (.iload_n 3, 1) := by decide +kernel
theorem dX7_repeats_44 : decode cX7_repeats 44 = .ok (.iastore, 1) := by decide +kernel
theorem dX7_repeats_45 : decode cX7_repeats 45 = .ok (.iinc 2 1, 3) := by decide +kernel
theorem dX7_repeats_48 : decode cX7_repeats 48 = .ok (.goto (-46), 3) := by decide +kernel
theorem dX7_repeats_51 : decode cX7_repeats 51 = .ok (.aload_n 0, 1) := by decide +kernel
theorem dX7_repeats_52 : decode cX7_repeats 52 = .ok (.invokevirtual 149, 3) := by decide +kernel
theorem dX7_repeats_55 : decode cX7_repeats 55 = .ok (.return_, 1) := by decide +kernel
theorem dX7_joins_0 : decode cX7_joins 0 = .ok (.iconst 0, 1) := by decide +kernel
theorem dX7_joins_1 : decode cX7_joins 1 = .ok (.istore_n 1, 1) := by decide +kernel
theorem dX7_joins_2 : decode cX7_joins 2 = .ok (.iload_n 1, 1) := by decide +kernel
theorem dX7_joins_3 : decode cX7_joins 3 = .ok (.bipush 16, 2) := by decide +kernel
theorem dX7_joins_5 : decode cX7_joins 5 = .ok (.if_icmp .ge 70, 3) := by decide +kernel
theorem dX7_joins_8 : decode cX7_joins 8 = .ok (.bipush 16, 2) := by decide +kernel
theorem dX7_joins_10 : decode cX7_joins 10 = .ok (.aload_n 0, 1) := by decide +kernel
theorem dX7_joins_11 : decode cX7_joins 11 = .ok (.getfield 152, 3) := by decide +kernel
theorem dX7_joins_14 : decode cX7_joins 14 = .ok (.imul, 1) := by decide +kernel
theorem dX7_joins_15 : decode cX7_joins 15 = .ok (.iload_n 1, 1) := by decide +kernel
theorem dX7_joins_16 : decode cX7_joins 16 = .ok (.iadd, 1) := by decide +kernel
theorem dX7_joins_17 : decode cX7_joins 17 = .ok (.istore_n 2, 1) := by decide +kernel
theorem dX7_joins_18 : decode cX7_joins 18 = .ok (.aload_n 0, 1) := by decide +kernel
theorem dX7_joins_19 : decode cX7_joins 19 = .ok (.getfield 39, 3) := by decide +kernel
theorem dX7_joins_22 : decode cX7_joins 22 = .ok (.iload_n 2, 1) := by decide +kernel
theorem dX7_joins_23 : decode cX7_joins 23 = .ok (.iaload, 1) := by decide +kernel
theorem dX7_joins_24 : decode cX7_joins 24 = .ok (.istore_n 3, 1) := by decide +kernel
theorem dX7_joins_25 : decode cX7_joins 25 = .ok (.aload_n 0, 1) := by decide +kernel
theorem dX7_joins_26 : decode cX7_joins 26 = .ok (.getfield 45, 3) := by decide +kernel
theorem dX7_joins_29 : decode cX7_joins 29 = .ok (.iload_n 1, 1) := by decide +kernel
theorem dX7_joins_30 : decode cX7_joins 30 = .ok (.aload_n 0, 1) := by decide +kernel
theorem dX7_joins_31 : decode cX7_joins 31 = .ok (.getfield 42, 3) := by decide +kernel
theorem dX7_joins_34 : decode cX7_joins 34 = .ok (.aload_n 0, 1) := by decide +kernel
theorem dX7_joins_35 : decode cX7_joins 35 = .ok (.getfield 152, 3) := by decide +kernel
theorem dX7_joins_38 : decode cX7_joins 38 = .ok (.baload, 1) := by decide +kernel
theorem dX7_joins_39 : decode cX7_joins 39 = .ok (.ifCond .ne 12, 3) := by decide +kernel
theorem dX7_joins_42 : decode cX7_joins 42 = .ok (.aload_n 0, 1) := by decide +kernel
theorem dX7_joins_43 : decode cX7_joins 43 = .ok (.getfield 29, 3) := by decide +kernel
theorem dX7_joins_46 : decode cX7_joins 46 = .ok (.iload_n 1, 1) := by decide +kernel
theorem dX7_joins_47 : decode cX7_joins 47 = .ok (.iaload, 1) := by decide +kernel
theorem dX7_joins_48 : decode cX7_joins 48 = .ok (.goto 20, 3) := by decide +kernel
theorem dX7_joins_51 : decode cX7_joins 51 = .ok (.iload_n 3, 1) := by decide +kernel
theorem dX7_joins_52 : decode cX7_joins 52 = .ok (.bipush 16, 2) := by decide +kernel
theorem dX7_joins_54 : decode cX7_joins 54 = .ok (.if_icmp .ne 8, 3) := by decide +kernel
theorem dX7_joins_57 : decode cX7_joins 57 = .ok (.bipush 16, 2) := by decide +kernel
theorem dX7_joins_59 : decode cX7_joins 59 = .ok (.goto 9, 3) := by decide +kernel
theorem dX7_joins_62 : decode cX7_joins 62 = .ok (.aload_n 0, 1) := by decide +kernel
theorem dX7_joins_63 : decode cX7_joins 63 = .ok (.getfield 29, 3) := by decide +kernel
theorem dX7_joins_66 : decode cX7_joins 66 = .ok (.iload_n 3, 1) := by decide +kernel
theorem dX7_joins_67 : decode cX7_joins 67 = .ok (.iaload, 1) := by decide +kernel
theorem dX7_joins_68 : decode cX7_joins 68 = .ok (.iastore, 1) := by decide +kernel
theorem dX7_joins_69 : decode cX7_joins 69 = .ok (.iinc 1 1, 3) := by decide +kernel
theorem dX7_joins_72 : decode cX7_joins 72 = .ok (.goto (-70), 3) := by decide +kernel
theorem dX7_joins_75 : decode cX7_joins 75 = .ok (.aload_n 0, 1) := by decide +kernel
theorem dX7_joins_76 : decode cX7_joins 76 = .ok (.invokevirtual 149, 3) := by decide +kernel
theorem dX7_joins_79 : decode cX7_joins 79 = .ok (.iconst 0, 1) := by decide +kernel
theorem dX7_joins_80 : decode cX7_joins 80 = .ok (.istore_n 1, 1) := by decide +kernel
theorem dX7_joins_81 : decode cX7_joins 81 = .ok (.iload_n 1, 1) := by decide +kernel
theorem dX7_joins_82 : decode cX7_joins 82 = .ok (.bipush 16, 2) := by decide +kernel
theorem dX7_joins_84 : decode cX7_joins 84 = .ok (.if_icmp .ge 29, 3) := by decide +kernel
theorem dX7_joins_87 : decode cX7_joins 87 = .ok (.aload_n 0, 1) := by decide +kernel
theorem dX7_joins_88 : decode cX7_joins 88 = .ok (.getfield 39, 3) := by decide +kernel
theorem dX7_joins_91 : decode cX7_joins 91 = .ok (.bipush 16, 2) := by decide +kernel
theorem dX7_joins_93 : decode cX7_joins 93 = .ok (.aload_n 0, 1) := by decide +kernel
theorem dX7_joins_94 : decode cX7_joins 94 = .ok (.getfield 152, 3) := by decide +kernel
theorem dX7_joins_97 : decode cX7_joins 97 = .ok (.imul, 1) := by decide +kernel
theorem dX7_joins_98 : decode cX7_joins 98 = .ok (.iload_n 1, 1) := by decide +kernel
theorem dX7_joins_99 : decode cX7_joins 99 = .ok (.iadd, 1) := by decide +kernel
theorem dX7_joins_100 : decode cX7_joins 100 = .ok (.aload_n 0, 1) := by decide +kernel
theorem dX7_joins_101 : decode cX7_joins 101 = .ok (.getfield 29, 3) := by decide +kernel
theorem dX7_joins_104 : decode cX7_joins 104 = .ok (.iload_n 1, 1) := by decide +kernel
theorem dX7_joins_105 : decode cX7_joins 105 = .ok (.iaload, 1) := by decide +kernel
theorem dX7_joins_106 : decode cX7_joins 106 = .ok (.iastore, 1) := by decide +kernel
theorem dX7_joins_107 : decode cX7_joins 107 = .ok (.iinc 1 1, 3) := by decide +kernel
theorem dX7_joins_110 : decode cX7_joins 110 = .ok (.goto (-29), 3) := by decide +kernel
theorem dX7_joins_113 : decode cX7_joins 113 = .ok (.aload_n 0, 1) := by decide +kernel
theorem dX7_joins_114 : decode cX7_joins 114 = .ok (.getfield 42, 3) := by decide +kernel
theorem dX7_joins_117 : decode cX7_joins 117 = .ok (.aload_n 0, 1) := by decide +kernel
theorem dX7_joins_118 : decode cX7_joins 118 = .ok (.getfield 152, 3) := by decide +kernel
theorem dX7_joins_121 : decode cX7_joins 121 = .ok (.iconst 1, 1) := by decide +kernel
theorem dX7_joins_122 : decode cX7_joins 122 = .ok (.bastore, 1) := by decide +kernel
theorem dX7_joins_123 : decode cX7_joins 123 = .ok (.return_, 1) := by decide +kernel
theorem dX7_underlies_0 : decode cX7_underlies 0 = .ok (.aload_n 0, 1) := by decide +kernel
theorem dX7_underlies_1 : decode cX7_underlies 1 = .ok (.invokevirtual 155, 3) := by decide +kernel
theorem dX7_underlies_4 : decode cX7_underlies 4 = .ok (.iconst 0, 1) := by decide +kernel
theorem dX7_underlies_5 : decode cX7_underlies 5 = .ok (.istore_n 1, 1) := by decide +kernel
theorem dX7_underlies_6 : decode cX7_underlies 6 = .ok (.iload_n 1, 1) := by decide +kernel
theorem dX7_underlies_7 : decode cX7_underlies 7 = .ok (.bipush 16, 2) := by decide +kernel
theorem dX7_underlies_9 : decode cX7_underlies 9 = .ok (.if_icmp .ge 75, 3) := by decide +kernel
theorem dX7_underlies_12 : decode cX7_underlies 12 = .ok (.bipush 16, 2) := by decide +kernel
theorem dX7_underlies_14 : decode cX7_underlies 14 = .ok (.aload_n 0, 1) := by decide +kernel
theorem dX7_underlies_15 : decode cX7_underlies 15 = .ok (.getfield 152, 3) := by decide +kernel
theorem dX7_underlies_18 : decode cX7_underlies 18 = .ok (.imul, 1) := by decide +kernel
theorem dX7_underlies_19 : decode cX7_underlies 19 = .ok (.iload_n 1, 1) := by decide +kernel
theorem dX7_underlies_20 : decode cX7_underlies 20 = .ok (.iadd, 1) := by decide +kernel
theorem dX7_underlies_21 : decode cX7_underlies 21 = .ok (.istore_n 2, 1) := by decide +kernel
theorem dX7_underlies_22 : decode cX7_underlies 22 = .ok (.aload_n 0, 1) := by decide +kernel
theorem dX7_underlies_23 : decode cX7_underlies 23 = .ok (.getfield 32, 3) := by decide +kernel
theorem dX7_underlies_26 : decode cX7_underlies 26 = .ok (.iload_n 2, 1) := by decide +kernel
theorem dX7_underlies_27 : decode cX7_underlies 27 = .ok (.aload_n 0, 1) := by decide +kernel
theorem dX7_underlies_28 : decode cX7_underlies 28 = .ok (.getfield 35, 3) := by decide +kernel
theorem dX7_underlies_31 : decode cX7_underlies 31 = .ok (.aload_n 0, 1) := by decide +kernel
theorem dX7_underlies_32 : decode cX7_underlies 32 = .ok (.getfield 152, 3) := by decide +kernel
theorem dX7_underlies_35 : decode cX7_underlies 35 = .ok (.baload, 1) := by decide +kernel
theorem dX7_underlies_36 : decode cX7_underlies 36 = .ok (.ifCond .eq 14, 3) := by decide +kernel
theorem dX7_underlies_39 : decode cX7_underlies 39 = .ok (.aload_n 0, 1) := by decide +kernel
theorem dX7_underlies_40 : decode cX7_underlies 40 = .ok (.getfield 32, 3) := by decide +kernel
theorem dX7_underlies_43 : decode cX7_underlies 43 = .ok (.iload_n 2, 1) := by decide +kernel
theorem dX7_underlies_44 : decode cX7_underlies 44 = .ok (.iaload, 1) := by decide +kernel
theorem dX7_underlies_45 : decode cX7_underlies 45 = .ok (.bipush 16, 2) := by decide +kernel
theorem dX7_underlies_47 : decode cX7_underlies 47 = .ok (.if_icmp .ne 12, 3) := by decide +kernel
theorem dX7_underlies_50 : decode cX7_underlies 50 = .ok (.aload_n 0, 1) := by decide +kernel
theorem dX7_underlies_51 : decode cX7_underlies 51 = .ok (.getfield 29, 3) := by decide +kernel
theorem dX7_underlies_54 : decode cX7_underlies 54 = .ok (.iload_n 1, 1) := by decide +kernel
theorem dX7_underlies_55 : decode cX7_underlies 55 = .ok (.iaload, 1) := by decide +kernel
theorem dX7_underlies_56 : decode cX7_underlies 56 = .ok (.goto 9, 3) := by decide +kernel
theorem dX7_underlies_59 : decode cX7_underlies 59 = .ok (.aload_n 0, 1) := by decide +kernel
theorem dX7_underlies_60 : decode cX7_underlies 60 = .ok (.getfield 32, 3) := by decide +kernel
theorem dX7_underlies_63 : decode cX7_underlies 63 = .ok (.iload_n 2, 1) := by decide +kernel
theorem dX7_underlies_64 : decode cX7_underlies 64 = .ok (.iaload, 1) := by decide +kernel
theorem dX7_underlies_65 : decode cX7_underlies 65 = .ok (.iastore, 1) := by decide +kernel
theorem dX7_underlies_66 : decode cX7_underlies 66 = .ok (.aload_n 0, 1) := by decide +kernel
theorem dX7_underlies_67 : decode cX7_underlies 67 = .ok (.getfield 29, 3) := by decide +kernel
theorem dX7_underlies_70 : decode cX7_underlies 70 = .ok (.iload_n 1, 1) := by decide +kernel
theorem dX7_underlies_71 : decode cX7_underlies 71 = .ok (.aload_n 0, 1) := by decide +kernel
theorem dX7_underlies_72 : decode cX7_underlies 72 = .ok (.getfield 32, 3) := by decide +kernel
theorem dX7_underlies_75 : decode cX7_underlies 75 = .ok (.iload_n 2, 1) := by decide +kernel
theorem dX7_underlies_76 : decode cX7_underlies 76 = .ok (.iaload, 1) := by decide +kernel
theorem dX7_underlies_77 : decode cX7_underlies 77 = .ok (.iastore, 1) := by decide +kernel
theorem dX7_underlies_78 : decode cX7_underlies 78 = .ok (.iinc 1 1, 3) := by decide +kernel
theorem dX7_underlies_81 : decode cX7_underlies 81 = .ok (.goto (-75), 3) := by decide +kernel
theorem dX7_underlies_84 : decode cX7_underlies 84 = .ok (.aload_n 0, 1) := by decide +kernel
theorem dX7_underlies_85 : decode cX7_underlies 85 = .ok (.getfield 35, 3) := by decide +kernel
theorem dX7_underlies_88 : decode cX7_underlies 88 = .ok (.aload_n 0, 1) := by decide +kernel
theorem dX7_underlies_89 : decode cX7_underlies 89 = .ok (.getfield 152, 3) := by decide +kernel
theorem dX7_underlies_92 : decode cX7_underlies 92 = .ok (.iconst 1, 1) := by decide +kernel
theorem dX7_underlies_93 : decode cX7_underlies 93 = .ok (.bastore, 1) := by decide +kernel
theorem dX7_underlies_94 : decode cX7_underlies 94 = .ok (.aload_n 0, 1) := by decide +kernel
theorem dX7_underlies_95 : decode cX7_underlies 95 = .ok (.getfield 42, 3) := by decide +kernel
theorem dX7_underlies_98 : decode cX7_underlies 98 = .ok (.aload_n 0, 1) := by decide +kernel
theorem dX7_underlies_99 : decode cX7_underlies 99 = .ok (.getfield 152, 3) := by decide +kernel
theorem dX7_underlies_102 : decode cX7_underlies 102 = .ok (.iconst 0, 1) := by decide +kernel
