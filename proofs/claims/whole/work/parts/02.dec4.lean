theorem dX7_underlies_103 : decode cX7_underlies 103 = .ok (.bastore, 1) := by decide +kernel
theorem dX7_underlies_104 : decode cX7_underlies 104 = .ok (.return_, 1) := by decide +kernel
theorem dX7_takesSet_0 : decode cX7_takesSet 0 = .ok (.iconst 0, 1) := by decide +kernel
theorem dX7_takesSet_1 : decode cX7_takesSet 1 = .ok (.istore_n 1, 1) := by decide +kernel
theorem dX7_takesSet_2 : decode cX7_takesSet 2 = .ok (.iconst 1, 1) := by decide +kernel
theorem dX7_takesSet_3 : decode cX7_takesSet 3 = .ok (.istore_n 2, 1) := by decide +kernel
theorem dX7_takesSet_4 : decode cX7_takesSet 4 = .ok (.iload_n 2, 1) := by decide +kernel
theorem dX7_takesSet_5 : decode cX7_takesSet 5 = .ok (.ifCond .eq 31, 3) := by decide +kernel
theorem dX7_takesSet_8 : decode cX7_takesSet 8 = .ok (.aload_n 0, 1) := by decide +kernel
theorem dX7_takesSet_9 : decode cX7_takesSet 9 = .ok (.invokevirtual 143, 3) := by decide +kernel
theorem dX7_takesSet_12 : decode cX7_takesSet 12 = .ok (.ifCond .ne 5, 3) := by decide +kernel
theorem dX7_takesSet_15 : decode cX7_takesSet 15 = .ok (.iconst 0, 1) := by decide +kernel
theorem dX7_takesSet_16 : decode cX7_takesSet 16 = .ok (.ireturn, 1) := by decide +kernel
theorem dX7_takesSet_17 : decode cX7_takesSet 17 = .ok (.iload_n 1, 1) := by decide +kernel
theorem dX7_takesSet_18 : decode cX7_takesSet 18 = .ok (.iconst 1, 1) := by decide +kernel
theorem dX7_takesSet_19 : decode cX7_takesSet 19 = .ok (.aload_n 0, 1) := by decide +kernel
theorem dX7_takesSet_20 : decode cX7_takesSet 20 = .ok (.getfield 140, 3) := by decide +kernel
theorem dX7_takesSet_23 : decode cX7_takesSet 23 = .ok (.ishl, 1) := by decide +kernel
theorem dX7_takesSet_24 : decode cX7_takesSet 24 = .ok (.ior, 1) := by decide +kernel
theorem dX7_takesSet_25 : decode cX7_takesSet 25 = .ok (.istore_n 1, 1) := by decide +kernel
theorem dX7_takesSet_26 : decode cX7_takesSet 26 = .ok (.aload_n 0, 1) := by decide +kernel
theorem dX7_takesSet_27 : decode cX7_takesSet 27 = .ok (.bipush 44, 2) := by decide +kernel
theorem dX7_takesSet_29 : decode cX7_takesSet 29 = .ok (.invokevirtual 146, 3) := by decide +kernel
theorem dX7_takesSet_32 : decode cX7_takesSet 32 = .ok (.istore_n 2, 1) := by decide +kernel
theorem dX7_takesSet_33 : decode cX7_takesSet 33 = .ok (.goto (-29), 3) := by decide +kernel
theorem dX7_takesSet_36 : decode cX7_takesSet 36 = .ok (.iconst 0, 1) := by decide +kernel
theorem dX7_takesSet_37 : decode cX7_takesSet 37 = .ok (.istore_n 3, 1) := by decide +kernel
theorem dX7_takesSet_38 : decode cX7_takesSet 38 = .ok (.iload_n 3, 1) := by decide +kernel
theorem dX7_takesSet_39 : decode cX7_takesSet 39 = .ok (.bipush 16, 2) := by decide +kernel
theorem dX7_takesSet_41 : decode cX7_takesSet 41 = .ok (.if_icmp .ge 35, 3) := by decide +kernel
theorem dX7_takesSet_44 : decode cX7_takesSet 44 = .ok (.aload_n 0, 1) := by decide +kernel
theorem dX7_takesSet_45 : decode cX7_takesSet 45 = .ok (.getfield 29, 3) := by decide +kernel
theorem dX7_takesSet_48 : decode cX7_takesSet 48 = .ok (.iload_n 3, 1) := by decide +kernel
theorem dX7_takesSet_49 : decode cX7_takesSet 49 = .ok (.iload_n 1, 1) := by decide +kernel
theorem dX7_takesSet_50 : decode cX7_takesSet 50 = .ok (.iload_n 3, 1) := by decide +kernel
theorem dX7_takesSet_51 : decode cX7_takesSet 51 = .ok (.ishr, 1) := by decide +kernel
theorem dX7_takesSet_52 : decode cX7_takesSet 52 = .ok (.iconst 1, 1) := by decide +kernel
theorem dX7_takesSet_53 : decode cX7_takesSet 53 = .ok (.iand, 1) := by decide +kernel
theorem dX7_takesSet_54 : decode cX7_takesSet 54 = .ok (.iconst 1, 1) := by decide +kernel
theorem dX7_takesSet_55 : decode cX7_takesSet 55 = .ok (.if_icmp .ne 12, 3) := by decide +kernel
theorem dX7_takesSet_58 : decode cX7_takesSet 58 = .ok (.aload_n 0, 1) := by decide +kernel
theorem dX7_takesSet_59 : decode cX7_takesSet 59 = .ok (.getfield 29, 3) := by decide +kernel
theorem dX7_takesSet_62 : decode cX7_takesSet 62 = .ok (.iload_n 3, 1) := by decide +kernel
theorem dX7_takesSet_63 : decode cX7_takesSet 63 = .ok (.iaload, 1) := by decide +kernel
theorem dX7_takesSet_64 : decode cX7_takesSet 64 = .ok (.goto 5, 3) := by decide +kernel
theorem dX7_takesSet_67 : decode cX7_takesSet 67 = .ok (.bipush 16, 2) := by decide +kernel
theorem dX7_takesSet_69 : decode cX7_takesSet 69 = .ok (.iastore, 1) := by decide +kernel
theorem dX7_takesSet_70 : decode cX7_takesSet 70 = .ok (.iinc 3 1, 3) := by decide +kernel
theorem dX7_takesSet_73 : decode cX7_takesSet 73 = .ok (.goto (-35), 3) := by decide +kernel
theorem dX7_takesSet_76 : decode cX7_takesSet 76 = .ok (.aload_n 0, 1) := by decide +kernel
theorem dX7_takesSet_77 : decode cX7_takesSet 77 = .ok (.bipush 125, 2) := by decide +kernel
theorem dX7_takesSet_79 : decode cX7_takesSet 79 = .ok (.invokevirtual 146, 3) := by decide +kernel
theorem dX7_takesSet_82 : decode cX7_takesSet 82 = .ok (.ireturn, 1) := by decide +kernel
theorem dX7_takesSigns_0 : decode cX7_takesSigns 0 = .ok (.iconst 1, 1) := by decide +kernel
theorem dX7_takesSigns_1 : decode cX7_takesSigns 1 = .ok (.istore_n 1, 1) := by decide +kernel
theorem dX7_takesSigns_2 : decode cX7_takesSigns 2 = .ok (.iload_n 1, 1) := by decide +kernel
theorem dX7_takesSigns_3 : decode cX7_takesSigns 3 = .ok (.ifCond .eq 93, 3) := by decide +kernel
theorem dX7_takesSigns_6 : decode cX7_takesSigns 6 = .ok (.aload_n 0, 1) := by decide +kernel
theorem dX7_takesSigns_7 : decode cX7_takesSigns 7 = .ok (.bipush 126, 2) := by decide +kernel
theorem dX7_takesSigns_9 : decode cX7_takesSigns 9 = .ok (.invokevirtual 146, 3) := by decide +kernel
theorem dX7_takesSigns_12 : decode cX7_takesSigns 12 = .ok (.ifCond .eq 10, 3) := by decide +kernel
theorem dX7_takesSigns_15 : decode cX7_takesSigns 15 = .ok (.aload_n 0, 1) := by decide +kernel
theorem dX7_takesSigns_16 : decode cX7_takesSigns 16 = .ok (.invokevirtual 158, 3) := by decide +kernel
theorem dX7_takesSigns_19 : decode cX7_takesSigns 19 = .ok (.goto (-17), 3) := by decide +kernel
theorem dX7_takesSigns_22 : decode cX7_takesSigns 22 = .ok (.aload_n 0, 1) := by decide +kernel
theorem dX7_takesSigns_23 : decode cX7_takesSigns 23 = .ok (.bipush 94, 2) := by decide +kernel
theorem dX7_takesSigns_25 : decode cX7_takesSigns 25 = .ok (.invokevirtual 146, 3) := by decide +kernel
theorem dX7_takesSigns_28 : decode cX7_takesSigns 28 = .ok (.ifCond .eq 45, 3) := by decide +kernel
theorem dX7_takesSigns_31 : decode cX7_takesSigns 31 = .ok (.aload_n 0, 1) := by decide +kernel
theorem dX7_takesSigns_32 : decode cX7_takesSigns 32 = .ok (.bipush 48, 2) := by decide +kernel
theorem dX7_takesSigns_34 : decode cX7_takesSigns 34 = .ok (.bipush 57, 2) := by decide +kernel
theorem dX7_takesSigns_36 : decode cX7_takesSigns 36 = .ok (.invokevirtual 137, 3) := by decide +kernel
theorem dX7_takesSigns_39 : decode cX7_takesSigns 39 = .ok (.ifCond .ne 5, 3) := by decide +kernel
theorem dX7_takesSigns_42 : decode cX7_takesSigns 42 = .ok (.iconst 0, 1) := by decide +kernel
theorem dX7_takesSigns_43 : decode cX7_takesSigns 43 = .ok (.ireturn, 1) := by decide +kernel
theorem dX7_takesSigns_44 : decode cX7_takesSigns 44 = .ok (.aload_n 0, 1) := by decide +kernel
theorem dX7_takesSigns_45 : decode cX7_takesSigns 45 = .ok (.aload_n 0, 1) := by decide +kernel
theorem dX7_takesSigns_46 : decode cX7_takesSigns 46 = .ok (.getfield 25, 3) := by decide +kernel
theorem dX7_takesSigns_49 : decode cX7_takesSigns 49 = .ok (.aload_n 0, 1) := by decide +kernel
theorem dX7_takesSigns_50 : decode cX7_takesSigns 50 = .ok (.getfield 85, 3) := by decide +kernel
theorem dX7_takesSigns_53 : decode cX7_takesSigns 53 = .ok (.caload, 1) := by decide +kernel
theorem dX7_takesSigns_54 : decode cX7_takesSigns 54 = .ok (.bipush 48, 2) := by decide +kernel
theorem dX7_takesSigns_56 : decode cX7_takesSigns 56 = .ok (.isub, 1) := by decide +kernel
theorem dX7_takesSigns_57 : decode cX7_takesSigns 57 = .ok (.invokevirtual 161, 3) := by decide +kernel
theorem dX7_takesSigns_60 : decode cX7_takesSigns 60 = .ok (.aload_n 0, 1) := by decide +kernel
theorem dX7_takesSigns_61 : decode cX7_takesSigns 61 = .ok (.dup, 1) := by decide +kernel
theorem dX7_takesSigns_62 : decode cX7_takesSigns 62 = .ok (.getfield 85, 3) := by decide +kernel
theorem dX7_takesSigns_65 : decode cX7_takesSigns 65 = .ok (.iconst 1, 1) := by decide +kernel
theorem dX7_takesSigns_66 : decode cX7_takesSigns 66 = .ok (.iadd, 1) := by decide +kernel
theorem dX7_takesSigns_67 : decode cX7_takesSigns 67 = .ok (.putfield 85, 3) := by decide +kernel
theorem dX7_takesSigns_70 : decode cX7_takesSigns 70 = .ok (.goto (-68), 3) := by decide +kernel
theorem dX7_takesSigns_73 : decode cX7_takesSigns 73 = .ok (.aload_n 0, 1) := by decide +kernel
theorem dX7_takesSigns_74 : decode cX7_takesSigns 74 = .ok (.bipush 123, 2) := by decide +kernel
theorem dX7_takesSigns_76 : decode cX7_takesSigns 76 = .ok (.invokevirtual 146, 3) := by decide +kernel
theorem dX7_takesSigns_79 : decode cX7_takesSigns 79 = .ok (.ifCond .eq 12, 3) := by decide +kernel
theorem dX7_takesSigns_82 : decode cX7_takesSigns 82 = .ok (.aload_n 0, 1) := by decide +kernel
theorem dX7_takesSigns_83 : decode cX7_takesSigns 83 = .ok (.invokevirtual 164, 3) := by decide +kernel
theorem dX7_takesSigns_86 : decode cX7_takesSigns 86 = .ok (.ifCond .ne (-84), 3) := by decide +kernel
theorem dX7_takesSigns_89 : decode cX7_takesSigns 89 = .ok (.iconst 0, 1) := by decide +kernel
theorem dX7_takesSigns_90 : decode cX7_takesSigns 90 = .ok (.ireturn, 1) := by decide +kernel
theorem dX7_takesSigns_91 : decode cX7_takesSigns 91 = .ok (.iconst 0, 1) := by decide +kernel
theorem dX7_takesSigns_92 : decode cX7_takesSigns 92 = .ok (.istore_n 1, 1) := by decide +kernel
theorem dX7_takesSigns_93 : decode cX7_takesSigns 93 = .ok (.goto (-91), 3) := by decide +kernel
theorem dX7_takesSigns_96 : decode cX7_takesSigns 96 = .ok (.iconst 1, 1) := by decide +kernel
theorem dX7_takesSigns_97 : decode cX7_takesSigns 97 = .ok (.ireturn, 1) := by decide +kernel
theorem dX7_takesLetter_0 : decode cX7_takesLetter 0 = .ok (.aload_n 0, 1) := by decide +kernel
theorem dX7_takesLetter_1 : decode cX7_takesLetter 1 = .ok (.getfield 152, 3) := by decide +kernel
theorem dX7_takesLetter_4 : decode cX7_takesLetter 4 = .ok (.iconst 4, 1) := by decide +kernel
theorem dX7_takesLetter_5 : decode cX7_takesLetter 5 = .ok (.if_icmp .ge 45, 3) := by decide +kernel
theorem dX7_takesLetter_8 : decode cX7_takesLetter 8 = .ok (.aload_n 0, 1) := by decide +kernel
theorem dX7_takesLetter_9 : decode cX7_takesLetter 9 = .ok (.bipush 40, 2) := by decide +kernel
theorem dX7_takesLetter_11 : decode cX7_takesLetter 11 = .ok (.invokevirtual 146, 3) := by decide +kernel
theorem dX7_takesLetter_14 : decode cX7_takesLetter 14 = .ok (.ifCond .eq 36, 3) := by decide +kernel
theorem dX7_takesLetter_17 : decode cX7_takesLetter 17 = .ok (.aload_n 0, 1) := by decide +kernel
theorem dX7_takesLetter_18 : decode cX7_takesLetter 18 = .ok (.dup, 1) := by decide +kernel
theorem dX7_takesLetter_19 : decode cX7_takesLetter 19 = .ok (.getfield 152, 3) := by decide +kernel
theorem dX7_takesLetter_22 : decode cX7_takesLetter 22 = .ok (.iconst 1, 1) := by decide +kernel
theorem dX7_takesLetter_23 : decode cX7_takesLetter 23 = .ok (.iadd, 1) := by decide +kernel
theorem dX7_takesLetter_24 : decode cX7_takesLetter 24 = .ok (.putfield 152, 3) := by decide +kernel
theorem dX7_takesLetter_27 : decode cX7_takesLetter 27 = .ok (.aload_n 0, 1) := by decide +kernel
theorem dX7_takesLetter_28 : decode cX7_takesLetter 28 = .ok (.getfield 35, 3) := by decide +kernel
theorem dX7_takesLetter_31 : decode cX7_takesLetter 31 = .ok (.aload_n 0, 1) := by decide +kernel
theorem dX7_takesLetter_32 : decode cX7_takesLetter 32 = .ok (.getfield 152, 3) := by decide +kernel
theorem dX7_takesLetter_35 : decode cX7_takesLetter 35 = .ok (.iconst 0, 1) := by decide +kernel
theorem dX7_takesLetter_36 : decode cX7_takesLetter 36 = .ok (.bastore, 1) := by decide +kernel
theorem dX7_takesLetter_37 : decode cX7_takesLetter 37 = .ok (.aload_n 0, 1) := by decide +kernel
theorem dX7_takesLetter_38 : decode cX7_takesLetter 38 = .ok (.getfield 42, 3) := by decide +kernel
theorem dX7_takesLetter_41 : decode cX7_takesLetter 41 = .ok (.aload_n 0, 1) := by decide +kernel
theorem dX7_takesLetter_42 : decode cX7_takesLetter 42 = .ok (.getfield 152, 3) := by decide +kernel
theorem dX7_takesLetter_45 : decode cX7_takesLetter 45 = .ok (.iconst 0, 1) := by decide +kernel
theorem dX7_takesLetter_46 : decode cX7_takesLetter 46 = .ok (.bastore, 1) := by decide +kernel
theorem dX7_takesLetter_47 : decode cX7_takesLetter 47 = .ok (.goto (-47), 3) := by decide +kernel
theorem dX7_takesLetter_50 : decode cX7_takesLetter 50 = .ok (.aload_n 0, 1) := by decide +kernel
theorem dX7_takesLetter_51 : decode cX7_takesLetter 51 = .ok (.bipush 65, 2) := by decide +kernel
theorem dX7_takesLetter_53 : decode cX7_takesLetter 53 = .ok (.bipush 70, 2) := by decide +kernel
theorem dX7_takesLetter_55 : decode cX7_takesLetter 55 = .ok (.invokevirtual 137, 3) := by decide +kernel
theorem dX7_takesLetter_58 : decode cX7_takesLetter 58 = .ok (.ifCond .ne 5, 3) := by decide +kernel
theorem dX7_takesLetter_61 : decode cX7_takesLetter 61 = .ok (.iconst 0, 1) := by decide +kernel
theorem dX7_takesLetter_62 : decode cX7_takesLetter 62 = .ok (.ireturn, 1) := by decide +kernel
theorem dX7_takesLetter_63 : decode cX7_takesLetter 63 = .ok (.iconst 0, 1) := by decide +kernel
theorem dX7_takesLetter_64 : decode cX7_takesLetter 64 = .ok (.istore_n 1, 1) := by decide +kernel
theorem dX7_takesLetter_65 : decode cX7_takesLetter 65 = .ok (.iload_n 1, 1) := by decide +kernel
theorem dX7_takesLetter_66 : decode cX7_takesLetter 66 = .ok (.bipush 16, 2) := by decide +kernel
theorem dX7_takesLetter_68 : decode cX7_takesLetter 68 = .ok (.if_icmp .ge 32, 3) := by decide +kernel
theorem dX7_takesLetter_71 : decode cX7_takesLetter 71 = .ok (.aload_n 0, 1) := by decide +kernel
theorem dX7_takesLetter_72 : decode cX7_takesLetter 72 = .ok (.getfield 29, 3) := by decide +kernel
theorem dX7_takesLetter_75 : decode cX7_takesLetter 75 = .ok (.iload_n 1, 1) := by decide +kernel
theorem dX7_takesLetter_76 : decode cX7_takesLetter 76 = .ok (.aload_n 0, 1) := by decide +kernel
theorem dX7_takesLetter_77 : decode cX7_takesLetter 77 = .ok (.aload_n 0, 1) := by decide +kernel
theorem dX7_takesLetter_78 : decode cX7_takesLetter 78 = .ok (.getfield 25, 3) := by decide +kernel
theorem dX7_takesLetter_81 : decode cX7_takesLetter 81 = .ok (.aload_n 0, 1) := by decide +kernel
theorem dX7_takesLetter_82 : decode cX7_takesLetter 82 = .ok (.getfield 85, 3) := by decide +kernel
theorem dX7_takesLetter_85 : decode cX7_takesLetter 85 = .ok (.caload, 1) := by decide +kernel
theorem dX7_takesLetter_86 : decode cX7_takesLetter 86 = .ok (.bipush 65, 2) := by decide +kernel
theorem dX7_takesLetter_88 : decode cX7_takesLetter 88 = .ok (.isub, 1) := by decide +kernel
theorem dX7_takesLetter_89 : decode cX7_takesLetter 89 = .ok (.iload_n 1, 1) := by decide +kernel
theorem dX7_takesLetter_90 : decode cX7_takesLetter 90 = .ok (.invokevirtual 75, 3) := by decide +kernel
theorem dX7_takesLetter_93 : decode cX7_takesLetter 93 = .ok (.iastore, 1) := by decide +kernel
theorem dX7_takesLetter_94 : decode cX7_takesLetter 94 = .ok (.iinc 1 1, 3) := by decide +kernel
theorem dX7_takesLetter_97 : decode cX7_takesLetter 97 = .ok (.goto (-32), 3) := by decide +kernel
theorem dX7_takesLetter_100 : decode cX7_takesLetter 100 = .ok (.aload_n 0, 1) := by decide +kernel
theorem dX7_takesLetter_101 : decode cX7_takesLetter 101 = .ok (.dup, 1) := by decide +kernel
theorem dX7_takesLetter_102 : decode cX7_takesLetter 102 = .ok (.getfield 85, 3) := by decide +kernel
theorem dX7_takesLetter_105 : decode cX7_takesLetter 105 = .ok (.iconst 1, 1) := by decide +kernel
theorem dX7_takesLetter_106 : decode cX7_takesLetter 106 = .ok (.iadd, 1) := by decide +kernel
theorem dX7_takesLetter_107 : decode cX7_takesLetter 107 = .ok (.putfield 85, 3) := by decide +kernel
theorem dX7_takesLetter_110 : decode cX7_takesLetter 110 = .ok (.iconst 1, 1) := by decide +kernel
theorem dX7_takesLetter_111 : decode cX7_takesLetter 111 = .ok (.ireturn, 1) := by decide +kernel
theorem dX7_isExpressionText_0 : decode cX7_isExpressionText 0 = .ok (.aload_n 0, 1) := by decide +kernel
theorem dX7_isExpressionText_1 : decode cX7_isExpressionText 1 = .ok (.iconst 0, 1) := by decide +kernel
theorem dX7_isExpressionText_2 : decode cX7_isExpressionText 2 = .ok (.putfield 85, 3) := by decide +kernel
theorem dX7_isExpressionText_5 : decode cX7_isExpressionText 5 = .ok (.aload_n 0, 1) := by decide +kernel
theorem dX7_isExpressionText_6 : decode cX7_isExpressionText 6 = .ok (.bipush 65, 2) := by decide +kernel
theorem dX7_isExpressionText_8 : decode cX7_isExpressionText 8 = .ok (.bipush 70, 2) := by decide +kernel
theorem dX7_isExpressionText_10 : decode cX7_isExpressionText 10 = .ok (.invokevirtual 137, 3) := by decide +kernel
theorem dX7_isExpressionText_13 : decode cX7_isExpressionText 13 = .ok (.ifCond .ne 5, 3) := by decide +kernel
theorem dX7_isExpressionText_16 : decode cX7_isExpressionText 16 = .ok (.iconst 0, 1) := by decide +kernel
theorem dX7_isExpressionText_17 : decode cX7_isExpressionText 17 = .ok (.ireturn, 1) := by decide +kernel
theorem dX7_isExpressionText_18 : decode cX7_isExpressionText 18 = .ok (.aload_n 0, 1) := by decide +kernel
theorem dX7_isExpressionText_19 : decode cX7_isExpressionText 19 = .ok (.aload_n 0, 1) := by decide +kernel
theorem dX7_isExpressionText_20 : decode cX7_isExpressionText 20 = .ok (.getfield 25, 3) := by decide +kernel
theorem dX7_isExpressionText_23 : decode cX7_isExpressionText 23 = .ok (.aload_n 0, 1) := by decide +kernel
theorem dX7_isExpressionText_24 : decode cX7_isExpressionText 24 = .ok (.getfield 85, 3) := by decide +kernel
theorem dX7_isExpressionText_27 : decode cX7_isExpressionText 27 = .ok (.caload, 1) := by decide +kernel
theorem dX7_isExpressionText_28 : decode cX7_isExpressionText 28 = .ok (.bipush 65, 2) := by decide +kernel
theorem dX7_isExpressionText_30 : decode cX7_isExpressionText 30 = .ok (.isub, 1) := by decide +kernel
theorem dX7_isExpressionText_31 : decode cX7_isExpressionText 31 = .ok (.putfield 116, 3) := by decide +kernel
theorem dX7_isExpressionText_34 : decode cX7_isExpressionText 34 = .ok (.aload_n 0, 1) := by decide +kernel
theorem dX7_isExpressionText_35 : decode cX7_isExpressionText 35 = .ok (.dup, 1) := by decide +kernel
theorem dX7_isExpressionText_36 : decode cX7_isExpressionText 36 = .ok (.getfield 85, 3) := by decide +kernel
theorem dX7_isExpressionText_39 : decode cX7_isExpressionText 39 = .ok (.iconst 1, 1) := by decide +kernel
theorem dX7_isExpressionText_40 : decode cX7_isExpressionText 40 = .ok (.iadd, 1) := by decide +kernel
theorem dX7_isExpressionText_41 : decode cX7_isExpressionText 41 = .ok (.putfield 85, 3) := by decide +kernel
theorem dX7_isExpressionText_44 : decode cX7_isExpressionText 44 = .ok (.aload_n 0, 1) := by decide +kernel
theorem dX7_isExpressionText_45 : decode cX7_isExpressionText 45 = .ok (.bipush 61, 2) := by decide +kernel
theorem dX7_isExpressionText_47 : decode cX7_isExpressionText 47 = .ok (.invokevirtual 146, 3) := by decide +kernel
theorem dX7_isExpressionText_50 : decode cX7_isExpressionText 50 = .ok (.ifCond .ne 5, 3) := by decide +kernel
theorem dX7_isExpressionText_53 : decode cX7_isExpressionText 53 = .ok (.iconst 0, 1) := by decide +kernel
theorem dX7_isExpressionText_54 : decode cX7_isExpressionText 54 = .ok (.ireturn, 1) := by decide +kernel
theorem dX7_isExpressionText_55 : decode cX7_isExpressionText 55 = .ok (.aload_n 0, 1) := by decide +kernel
theorem dX7_isExpressionText_56 : decode cX7_isExpressionText 56 = .ok (.iconst 0, 1) := by decide +kernel
theorem dX7_isExpressionText_57 : decode cX7_isExpressionText 57 = .ok (.putfield 152, 3) := by decide +kernel
theorem dX7_isExpressionText_60 : decode cX7_isExpressionText 60 = .ok (.aload_n 0, 1) := by decide +kernel
theorem dX7_isExpressionText_61 : decode cX7_isExpressionText 61 = .ok (.getfield 35, 3) := by decide +kernel
theorem dX7_isExpressionText_64 : decode cX7_isExpressionText 64 = .ok (.iconst 0, 1) := by decide +kernel
theorem dX7_isExpressionText_65 : decode cX7_isExpressionText 65 = .ok (.iconst 0, 1) := by decide +kernel
theorem dX7_isExpressionText_66 : decode cX7_isExpressionText 66 = .ok (.bastore, 1) := by decide +kernel
theorem dX7_isExpressionText_67 : decode cX7_isExpressionText 67 = .ok (.aload_n 0, 1) := by decide +kernel
theorem dX7_isExpressionText_68 : decode cX7_isExpressionText 68 = .ok (.getfield 42, 3) := by decide +kernel
theorem dX7_isExpressionText_71 : decode cX7_isExpressionText 71 = .ok (.iconst 0, 1) := by decide +kernel
theorem dX7_isExpressionText_72 : decode cX7_isExpressionText 72 = .ok (.iconst 0, 1) := by decide +kernel
theorem dX7_isExpressionText_73 : decode cX7_isExpressionText 73 = .ok (.bastore, 1) := by decide +kernel
theorem dX7_isExpressionText_74 : decode cX7_isExpressionText 74 = .ok (.aload_n 0, 1) := by decide +kernel
theorem dX7_isExpressionText_75 : decode cX7_isExpressionText 75 = .ok (.invokevirtual 167, 3) := by decide +kernel
theorem dX7_isExpressionText_78 : decode cX7_isExpressionText 78 = .ok (.ifCond .eq 10, 3) := by decide +kernel
theorem dX7_isExpressionText_81 : decode cX7_isExpressionText 81 = .ok (.aload_n 0, 1) := by decide +kernel
theorem dX7_isExpressionText_82 : decode cX7_isExpressionText 82 = .ok (.invokevirtual 170, 3) := by decide +kernel
theorem dX7_isExpressionText_85 : decode cX7_isExpressionText 85 = .ok (.ifCond .ne 5, 3) := by decide +kernel
theorem dX7_isExpressionText_88 : decode cX7_isExpressionText 88 = .ok (.iconst 0, 1) := by decide +kernel
theorem dX7_isExpressionText_89 : decode cX7_isExpressionText 89 = .ok (.ireturn, 1) := by decide +kernel
theorem dX7_isExpressionText_90 : decode cX7_isExpressionText 90 = .ok (.aload_n 0, 1) := by decide +kernel
theorem dX7_isExpressionText_91 : decode cX7_isExpressionText 91 = .ok (.getfield 152, 3) := by decide +kernel
theorem dX7_isExpressionText_94 : decode cX7_isExpressionText 94 = .ok (.ifCond .le 35, 3) := by decide +kernel
theorem dX7_isExpressionText_97 : decode cX7_isExpressionText 97 = .ok (.aload_n 0, 1) := by decide +kernel
theorem dX7_isExpressionText_98 : decode cX7_isExpressionText 98 = .ok (.bipush 41, 2) := by decide +kernel
theorem dX7_isExpressionText_100 : decode cX7_isExpressionText 100 = .ok (.invokevirtual 146, 3) := by decide +kernel
theorem dX7_isExpressionText_103 : decode cX7_isExpressionText 103 = .ok (.ifCond .eq 26, 3) := by decide +kernel
theorem dX7_isExpressionText_106 : decode cX7_isExpressionText 106 = .ok (.aload_n 0, 1) := by decide +kernel
theorem dX7_isExpressionText_107 : decode cX7_isExpressionText 107 = .ok (.invokevirtual 173, 3) := by decide +kernel
theorem dX7_isExpressionText_110 : decode cX7_isExpressionText 110 = .ok (.aload_n 0, 1) := by decide +kernel
theorem dX7_isExpressionText_111 : decode cX7_isExpressionText 111 = .ok (.dup, 1) := by decide +kernel
theorem dX7_isExpressionText_112 : decode cX7_isExpressionText 112 = .ok (.getfield 152, 3) := by decide +kernel
theorem dX7_isExpressionText_115 : decode cX7_isExpressionText 115 = .ok (.iconst 1, 1) := by decide +kernel
theorem dX7_isExpressionText_116 : decode cX7_isExpressionText 116 = .ok (.isub, 1) := by decide +kernel
theorem dX7_isExpressionText_117 : decode cX7_isExpressionText 117 = .ok (.putfield 152, 3) := by decide +kernel
theorem dX7_isExpressionText_120 : decode cX7_isExpressionText 120 = .ok (.aload_n 0, 1) := by decide +kernel
theorem dX7_isExpressionText_121 : decode cX7_isExpressionText 121 = .ok (.invokevirtual 170, 3) := by decide +kernel
theorem dX7_isExpressionText_124 : decode cX7_isExpressionText 124 = .ok (.ifCond .ne (-34), 3) := by decide +kernel
theorem dX7_isExpressionText_127 : decode cX7_isExpressionText 127 = .ok (.iconst 0, 1) := by decide +kernel
theorem dX7_isExpressionText_128 : decode cX7_isExpressionText 128 = .ok (.ireturn, 1) := by decide +kernel
theorem dX7_isExpressionText_129 : decode cX7_isExpressionText 129 = .ok (.aload_n 0, 1) := by decide +kernel
theorem dX7_isExpressionText_130 : decode cX7_isExpressionText 130 = .ok (.getfield 85, 3) := by decide +kernel
theorem dX7_isExpressionText_133 : decode cX7_isExpressionText 133 = .ok (.aload_n 0, 1) := by decide +kernel
theorem dX7_isExpressionText_134 : decode cX7_isExpressionText 134 = .ok (.getfield 131, 3) := by decide +kernel
theorem dX7_isExpressionText_137 : decode cX7_isExpressionText 137 = .ok (.if_icmp .ne 27, 3) := by decide +kernel
theorem dX7_isExpressionText_140 : decode cX7_isExpressionText 140 = .ok (.aload_n 0, 1) := by decide +kernel
theorem dX7_isExpressionText_141 : decode cX7_isExpressionText 141 = .ok (.getfield 152, 3) := by decide +kernel
theorem dX7_isExpressionText_144 : decode cX7_isExpressionText 144 = .ok (.ifCond .ne 7, 3) := by decide +kernel
theorem dX7_isExpressionText_147 : decode cX7_isExpressionText 147 = .ok (.aload_n 0, 1) := by decide +kernel
theorem dX7_isExpressionText_148 : decode cX7_isExpressionText 148 = .ok (.invokevirtual 173, 3) := by decide +kernel
theorem dX7_isExpressionText_151 : decode cX7_isExpressionText 151 = .ok (.aload_n 0, 1) := by decide +kernel
theorem dX7_isExpressionText_152 : decode cX7_isExpressionText 152 = .ok (.getfield 152, 3) := by decide +kernel
theorem dX7_isExpressionText_155 : decode cX7_isExpressionText 155 = .ok (.ifCond .ne 7, 3) := by decide +kernel
theorem dX7_isExpressionText_158 : decode cX7_isExpressionText 158 = .ok (.iconst 1, 1) := by decide +kernel
theorem dX7_isExpressionText_159 : decode cX7_isExpressionText 159 = .ok (.goto 4, 3) := by decide +kernel
theorem dX7_isExpressionText_162 : decode cX7_isExpressionText 162 = .ok (.iconst 0, 1) := by decide +kernel
theorem dX7_isExpressionText_163 : decode cX7_isExpressionText 163 = .ok (.ireturn, 1) := by decide +kernel
theorem dX7_isExpressionText_164 : decode cX7_isExpressionText 164 = .ok (.aload_n 0, 1) := by decide +kernel
theorem dX7_isExpressionText_165 : decode cX7_isExpressionText 165 = .ok (.bipush 46, 2) := by decide +kernel
theorem dX7_isExpressionText_167 : decode cX7_isExpressionText 167 = .ok (.invokevirtual 146, 3) := by decide +kernel
theorem dX7_isExpressionText_170 : decode cX7_isExpressionText 170 = .ok (.ifCond .eq 10, 3) := by decide +kernel
theorem dX7_isExpressionText_173 : decode cX7_isExpressionText 173 = .ok (.aload_n 0, 1) := by decide +kernel
theorem dX7_isExpressionText_174 : decode cX7_isExpressionText 174 = .ok (.invokevirtual 155, 3) := by decide +kernel
theorem dX7_isExpressionText_177 : decode cX7_isExpressionText 177 = .ok (.goto (-103), 3) := by decide +kernel
theorem dX7_isExpressionText_180 : decode cX7_isExpressionText 180 = .ok (.aload_n 0, 1) := by decide +kernel
theorem dX7_isExpressionText_181 : decode cX7_isExpressionText 181 = .ok (.bipush 47, 2) := by decide +kernel
theorem dX7_isExpressionText_183 : decode cX7_isExpressionText 183 = .ok (.invokevirtual 146, 3) := by decide +kernel
theorem dX7_isExpressionText_186 : decode cX7_isExpressionText 186 = .ok (.ifCond .eq 10, 3) := by decide +kernel
theorem dX7_isExpressionText_189 : decode cX7_isExpressionText 189 = .ok (.aload_n 0, 1) := by decide +kernel
theorem dX7_isExpressionText_190 : decode cX7_isExpressionText 190 = .ok (.invokevirtual 173, 3) := by decide +kernel
theorem dX7_isExpressionText_193 : decode cX7_isExpressionText 193 = .ok (.goto (-119), 3) := by decide +kernel
theorem dX7_isExpressionText_196 : decode cX7_isExpressionText 196 = .ok (.iconst 0, 1) := by decide +kernel
theorem dX7_isExpressionText_197 : decode cX7_isExpressionText 197 = .ok (.ireturn, 1) := by decide +kernel
theorem dX7_layers_0 : decode cX7_layers 0 = .ok (.iconst 0, 1) := by decide +kernel
theorem dX7_layers_1 : decode cX7_layers 1 = .ok (.istore_n 1, 1) := by decide +kernel
theorem dX7_layers_2 : decode cX7_layers 2 = .ok (.iconst 0, 1) := by decide +kernel
theorem dX7_layers_3 : decode cX7_layers 3 = .ok (.istore_n 2, 1) := by decide +kernel
theorem dX7_layers_4 : decode cX7_layers 4 = .ok (.iload_n 2, 1) := by decide +kernel
theorem dX7_layers_5 : decode cX7_layers 5 = .ok (.bipush 6, 2) := by decide +kernel
theorem dX7_layers_7 : decode cX7_layers 7 = .ok (.if_icmp .ge 22, 3) := by decide +kernel
theorem dX7_layers_10 : decode cX7_layers 10 = .ok (.iload_n 1, 1) := by decide +kernel
theorem dX7_layers_11 : decode cX7_layers 11 = .ok (.aload_n 0, 1) := by decide +kernel
theorem dX7_layers_12 : decode cX7_layers 12 = .ok (.getfield 7, 3) := by decide +kernel
theorem dX7_layers_15 : decode cX7_layers 15 = .ok (.sipush 408, 3) := by decide +kernel
theorem dX7_layers_18 : decode cX7_layers 18 = .ok (.iload_n 2, 1) := by decide +kernel
theorem dX7_layers_19 : decode cX7_layers 19 = .ok (.iadd, 1) := by decide +kernel
theorem dX7_layers_20 : decode cX7_layers 20 = .ok (.iaload, 1) := by decide +kernel
theorem dX7_layers_21 : decode cX7_layers 21 = .ok (.iadd, 1) := by decide +kernel
theorem dX7_layers_22 : decode cX7_layers 22 = .ok (.istore_n 1, 1) := by decide +kernel
theorem dX7_layers_23 : decode cX7_layers 23 = .ok (.iinc 2 1, 3) := by decide +kernel
theorem dX7_layers_26 : decode cX7_layers 26 = .ok (.goto (-22), 3) := by decide +kernel
theorem dX7_layers_29 : decode cX7_layers 29 = .ok (.iload_n 1, 1) := by decide +kernel
theorem dX7_layers_30 : decode cX7_layers 30 = .ok (.ireturn, 1) := by decide +kernel
theorem dX7_undo_0 : decode cX7_undo 0 = .ok (.aload_n 0, 1) := by decide +kernel
theorem dX7_undo_1 : decode cX7_undo 1 = .ok (.getfield 59, 3) := by decide +kernel
theorem dX7_undo_4 : decode cX7_undo 4 = .ok (.ifCond .ne 6, 3) := by decide +kernel
theorem dX7_undo_7 : decode cX7_undo 7 = .ok (.bipush (-5), 2) := by decide +kernel
theorem dX7_undo_9 : decode cX7_undo 9 = .ok (.ireturn, 1) := by decide +kernel
theorem dX7_undo_10 : decode cX7_undo 10 = .ok (.aload_n 0, 1) := by decide +kernel
theorem dX7_undo_11 : decode cX7_undo 11 = .ok (.dup, 1) := by decide +kernel
theorem dX7_undo_12 : decode cX7_undo 12 = .ok (.getfield 59, 3) := by decide +kernel
theorem dX7_undo_15 : decode cX7_undo 15 = .ok (.iconst 1, 1) := by decide +kernel
theorem dX7_undo_16 : decode cX7_undo 16 = .ok (.isub, 1) := by decide +kernel
theorem dX7_undo_17 : decode cX7_undo 17 = .ok (.putfield 59, 3) := by decide +kernel
theorem dX7_undo_20 : decode cX7_undo 20 = .ok (.iconst 0, 1) := by decide +kernel
theorem dX7_undo_21 : decode cX7_undo 21 = .ok (.istore_n 1, 1) := by decide +kernel
theorem dX7_undo_22 : decode cX7_undo 22 = .ok (.iload_n 1, 1) := by decide +kernel
theorem dX7_undo_23 : decode cX7_undo 23 = .ok (.sipush 514, 3) := by decide +kernel
theorem dX7_undo_26 : decode cX7_undo 26 = .ok (.if_icmp .ge 30, 3) := by decide +kernel
theorem dX7_undo_29 : decode cX7_undo 29 = .ok (.aload_n 0, 1) := by decide +kernel
theorem dX7_undo_30 : decode cX7_undo 30 = .ok (.getfield 7, 3) := by decide +kernel
theorem dX7_undo_33 : decode cX7_undo 33 = .ok (.iload_n 1, 1) := by decide +kernel
theorem dX7_undo_34 : decode cX7_undo 34 = .ok (.aload_n 0, 1) := by decide +kernel
theorem dX7_undo_35 : decode cX7_undo 35 = .ok (.getfield 13, 3) := by decide +kernel
theorem dX7_undo_38 : decode cX7_undo 38 = .ok (.sipush 514, 3) := by decide +kernel
theorem dX7_undo_41 : decode cX7_undo 41 = .ok (.aload_n 0, 1) := by decide +kernel
theorem dX7_undo_42 : decode cX7_undo 42 = .ok (.getfield 59, 3) := by decide +kernel
theorem dX7_undo_45 : decode cX7_undo 45 = .ok (.imul, 1) := by decide +kernel
theorem dX7_undo_46 : decode cX7_undo 46 = .ok (.iload_n 1, 1) := by decide +kernel
theorem dX7_undo_47 : decode cX7_undo 47 = .ok (.iadd, 1) := by decide +kernel
theorem dX7_undo_48 : decode cX7_undo 48 = .ok (.iaload, 1) := by decide +kernel
theorem dX7_undo_49 : decode cX7_undo 49 = .ok (.iastore, 1) := by decide +kernel
theorem dX7_undo_50 : decode cX7_undo 50 = .ok (.iinc 1 1, 3) := by decide +kernel
theorem dX7_undo_53 : decode cX7_undo 53 = .ok (.goto (-31), 3) := by decide +kernel
theorem dX7_undo_56 : decode cX7_undo 56 = .ok (.aload_n 0, 1) := by decide +kernel
theorem dX7_undo_57 : decode cX7_undo 57 = .ok (.getfield 59, 3) := by decide +kernel
theorem dX7_undo_60 : decode cX7_undo 60 = .ok (.ireturn, 1) := by decide +kernel
theorem dX7_keep_0 : decode cX7_keep 0 = .ok (.iconst 0, 1) := by decide +kernel
theorem dX7_keep_1 : decode cX7_keep 1 = .ok (.istore_n 1, 1) := by decide +kernel
theorem dX7_keep_2 : decode cX7_keep 2 = .ok (.iload_n 1, 1) := by decide +kernel
theorem dX7_keep_3 : decode cX7_keep 3 = .ok (.sipush 514, 3) := by decide +kernel
theorem dX7_keep_6 : decode cX7_keep 6 = .ok (.if_icmp .ge 21, 3) := by decide +kernel
theorem dX7_keep_9 : decode cX7_keep 9 = .ok (.aload_n 0, 1) := by decide +kernel
theorem dX7_keep_10 : decode cX7_keep 10 = .ok (.getfield 16, 3) := by decide +kernel
theorem dX7_keep_13 : decode cX7_keep 13 = .ok (.iload_n 1, 1) := by decide +kernel
theorem dX7_keep_14 : decode cX7_keep 14 = .ok (.aload_n 0, 1) := by decide +kernel
theorem dX7_keep_15 : decode cX7_keep 15 = .ok (.getfield 7, 3) := by decide +kernel
theorem dX7_keep_18 : decode cX7_keep 18 = .ok (.iload_n 1, 1) := by decide +kernel
theorem dX7_keep_19 : decode cX7_keep 19 = .ok (.iaload, 1) := by decide +kernel
theorem dX7_keep_20 : decode cX7_keep 20 = .ok (.iastore, 1) := by decide +kernel
theorem dX7_keep_21 : decode cX7_keep 21 = .ok (.iinc 1 1, 3) := by decide +kernel
theorem dX7_keep_24 : decode cX7_keep 24 = .ok (.goto (-22), 3) := by decide +kernel
theorem dX7_keep_27 : decode cX7_keep 27 = .ok (.aload_n 0, 1) := by decide +kernel
theorem dX7_keep_28 : decode cX7_keep 28 = .ok (.iconst 1, 1) := by decide +kernel
theorem dX7_keep_29 : decode cX7_keep 29 = .ok (.putfield 176, 3) := by decide +kernel
theorem dX7_keep_32 : decode cX7_keep 32 = .ok (.aload_n 0, 1) := by decide +kernel
theorem dX7_keep_33 : decode cX7_keep 33 = .ok (.invokevirtual 180, 3) := by decide +kernel
theorem dX7_keep_36 : decode cX7_keep 36 = .ok (.ireturn, 1) := by decide +kernel
theorem dX7_restore_0 : decode cX7_restore 0 = .ok (.aload_n 0, 1) := by decide +kernel
theorem dX7_restore_1 : decode cX7_restore 1 = .ok (.getfield 176, 3) := by decide +kernel
theorem dX7_restore_4 : decode cX7_restore 4 = .ok (.ifCond .ne 6, 3) := by decide +kernel
theorem dX7_restore_7 : decode cX7_restore 7 = .ok (.bipush (-5), 2) := by decide +kernel
theorem dX7_restore_9 : decode cX7_restore 9 = .ok (.ireturn, 1) := by decide +kernel
theorem dX7_restore_10 : decode cX7_restore 10 = .ok (.aload_n 0, 1) := by decide +kernel
theorem dX7_restore_11 : decode cX7_restore 11 = .ok (.invokevirtual 88, 3) := by decide +kernel
theorem dX7_restore_14 : decode cX7_restore 14 = .ok (.iconst 0, 1) := by decide +kernel
theorem dX7_restore_15 : decode cX7_restore 15 = .ok (.istore_n 1, 1) := by decide +kernel
theorem dX7_restore_16 : decode cX7_restore 16 = .ok (.iload_n 1, 1) := by decide +kernel
theorem dX7_restore_17 : decode cX7_restore 17 = .ok (.sipush 514, 3) := by decide +kernel
theorem dX7_restore_20 : decode cX7_restore 20 = .ok (.if_icmp .ge 21, 3) := by decide +kernel
theorem dX7_restore_23 : decode cX7_restore 23 = .ok (.aload_n 0, 1) := by decide +kernel
theorem dX7_restore_24 : decode cX7_restore 24 = .ok (.getfield 7, 3) := by decide +kernel
theorem dX7_restore_27 : decode cX7_restore 27 = .ok (.iload_n 1, 1) := by decide +kernel
theorem dX7_restore_28 : decode cX7_restore 28 = .ok (.aload_n 0, 1) := by decide +kernel
theorem dX7_restore_29 : decode cX7_restore 29 = .ok (.getfield 16, 3) := by decide +kernel
theorem dX7_restore_32 : decode cX7_restore 32 = .ok (.iload_n 1, 1) := by decide +kernel
theorem dX7_restore_33 : decode cX7_restore 33 = .ok (.iaload, 1) := by decide +kernel
theorem dX7_restore_34 : decode cX7_restore 34 = .ok (.iastore, 1) := by decide +kernel
theorem dX7_restore_35 : decode cX7_restore 35 = .ok (.iinc 1 1, 3) := by decide +kernel
theorem dX7_restore_38 : decode cX7_restore 38 = .ok (.goto (-22), 3) := by decide +kernel
theorem dX7_restore_41 : decode cX7_restore 41 = .ok (.aload_n 0, 1) := by decide +kernel
theorem dX7_restore_42 : decode cX7_restore 42 = .ok (.invokevirtual 180, 3) := by decide +kernel
theorem dX7_restore_45 : decode cX7_restore 45 = .ok (.ireturn, 1) := by decide +kernel
theorem dX7_get_0 : decode cX7_get 0 = .ok (.iload_n 1, 1) := by decide +kernel
theorem dX7_get_1 : decode cX7_get 1 = .ok (.invokestatic 55, 3) := by decide +kernel
theorem dX7_get_4 : decode cX7_get 4 = .ok (.ifCond .ne 10, 3) := by decide +kernel
theorem dX7_get_7 : decode cX7_get 7 = .ok (.iload_n 2, 1) := by decide +kernel
theorem dX7_get_8 : decode cX7_get 8 = .ok (.invokestatic 106, 3) := by decide +kernel
theorem dX7_get_11 : decode cX7_get 11 = .ok (.ifCond .eq 5, 3) := by decide +kernel
theorem dX7_get_14 : decode cX7_get 14 = .ok (.iconst (-1), 1) := by decide +kernel
theorem dX7_get_15 : decode cX7_get 15 = .ok (.ireturn, 1) := by decide +kernel
theorem dX7_get_16 : decode cX7_get 16 = .ok (.aload_n 0, 1) := by decide +kernel
theorem dX7_get_17 : decode cX7_get 17 = .ok (.iload_n 1, 1) := by decide +kernel
theorem dX7_get_18 : decode cX7_get 18 = .ok (.iload_n 2, 1) := by decide +kernel
theorem dX7_get_19 : decode cX7_get 19 = .ok (.invokevirtual 75, 3) := by decide +kernel
theorem dX7_get_22 : decode cX7_get 22 = .ok (.istore_n 3, 1) := by decide +kernel
theorem dX7_get_23 : decode cX7_get 23 = .ok (.iload_n 3, 1) := by decide +kernel
theorem dX7_get_24 : decode cX7_get 24 = .ok (.bipush 16, 2) := by decide +kernel
theorem dX7_get_26 : decode cX7_get 26 = .ok (.if_icmp .ne 8, 3) := by decide +kernel
theorem dX7_get_29 : decode cX7_get 29 = .ok (.bipush (-5), 2) := by decide +kernel
theorem dX7_get_31 : decode cX7_get 31 = .ok (.goto 4, 3) := by decide +kernel
theorem dX7_get_34 : decode cX7_get 34 = .ok (.iload_n 3, 1) := by decide +kernel
theorem dX7_get_35 : decode cX7_get 35 = .ok (.ireturn, 1) := by decide +kernel
theorem dX7_tells_0 : decode cX7_tells 0 = .ok (.iload_n 1, 1) := by decide +kernel
theorem dX7_tells_1 : decode cX7_tells 1 = .ok (.invokestatic 55, 3) := by decide +kernel
theorem dX7_tells_4 : decode cX7_tells 4 = .ok (.ifCond .ne 10, 3) := by decide +kernel
theorem dX7_tells_7 : decode cX7_tells 7 = .ok (.iload_n 2, 1) := by decide +kernel
theorem dX7_tells_8 : decode cX7_tells 8 = .ok (.invokestatic 106, 3) := by decide +kernel
theorem dX7_tells_11 : decode cX7_tells 11 = .ok (.ifCond .eq 7, 3) := by decide +kernel
theorem dX7_tells_14 : decode cX7_tells 14 = .ok (.iconst (-1), 1) := by decide +kernel
theorem dX7_tells_15 : decode cX7_tells 15 = .ok (.goto 9, 3) := by decide +kernel
theorem dX7_tells_18 : decode cX7_tells 18 = .ok (.aload_n 0, 1) := by decide +kernel
theorem dX7_tells_19 : decode cX7_tells 19 = .ok (.iload_n 1, 1) := by decide +kernel
theorem dX7_tells_20 : decode cX7_tells 20 = .ok (.iload_n 2, 1) := by decide +kernel
theorem dX7_tells_21 : decode cX7_tells 21 = .ok (.invokevirtual 71, 3) := by decide +kernel
theorem dX7_tells_24 : decode cX7_tells 24 = .ok (.ireturn, 1) := by decide +kernel
theorem dX7_returns_0 : decode cX7_returns 0 = .ok (.iconst 1, 1) := by decide +kernel
theorem dX7_returns_1 : decode cX7_returns 1 = .ok (.iload_n 2, 1) := by decide +kernel
theorem dX7_returns_2 : decode cX7_returns 2 = .ok (.ishl, 1) := by decide +kernel
theorem dX7_returns_3 : decode cX7_returns 3 = .ok (.istore_n 3, 1) := by decide +kernel
theorem dX7_returns_4 : decode cX7_returns 4 = .ok (.aload_n 0, 1) := by decide +kernel
theorem dX7_returns_5 : decode cX7_returns 5 = .ok (.iload_n 1, 1) := by decide +kernel
theorem dX7_returns_6 : decode cX7_returns 6 = .ok (.iload_n 2, 1) := by decide +kernel
theorem dX7_returns_7 : decode cX7_returns 7 = .ok (.invokevirtual 75, 3) := by decide +kernel
theorem dX7_returns_10 : decode cX7_returns 10 = .ok (.istore 4, 2) := by decide +kernel
theorem dX7_returns_12 : decode cX7_returns 12 = .ok (.iconst 1, 1) := by decide +kernel
theorem dX7_returns_13 : decode cX7_returns 13 = .ok (.istore 5, 2) := by decide +kernel
theorem dX7_returns_15 : decode cX7_returns 15 = .ok (.iload 4, 2) := by decide +kernel
theorem dX7_returns_17 : decode cX7_returns 17 = .ok (.bipush 16, 2) := by decide +kernel
theorem dX7_returns_19 : decode cX7_returns 19 = .ok (.if_icmp .eq 34, 3) := by decide +kernel
theorem dX7_returns_22 : decode cX7_returns 22 = .ok (.iload_n 3, 1) := by decide +kernel
theorem dX7_returns_23 : decode cX7_returns 23 = .ok (.iload 4, 2) := by decide +kernel
theorem dX7_returns_25 : decode cX7_returns 25 = .ok (.ishr, 1) := by decide +kernel
theorem dX7_returns_26 : decode cX7_returns 26 = .ok (.iconst 1, 1) := by decide +kernel
theorem dX7_returns_27 : decode cX7_returns 27 = .ok (.iand, 1) := by decide +kernel
theorem dX7_returns_28 : decode cX7_returns 28 = .ok (.ifCond .ne 25, 3) := by decide +kernel
theorem dX7_returns_31 : decode cX7_returns 31 = .ok (.iload_n 3, 1) := by decide +kernel
theorem dX7_returns_32 : decode cX7_returns 32 = .ok (.iconst 1, 1) := by decide +kernel
theorem dX7_returns_33 : decode cX7_returns 33 = .ok (.iload 4, 2) := by decide +kernel
theorem dX7_returns_35 : decode cX7_returns 35 = .ok (.ishl, 1) := by decide +kernel
theorem dX7_returns_36 : decode cX7_returns 36 = .ok (.ior, 1) := by decide +kernel
theorem dX7_returns_37 : decode cX7_returns 37 = .ok (.istore_n 3, 1) := by decide +kernel
theorem dX7_returns_38 : decode cX7_returns 38 = .ok (.aload_n 0, 1) := by decide +kernel
theorem dX7_returns_39 : decode cX7_returns 39 = .ok (.iload_n 1, 1) := by decide +kernel
theorem dX7_returns_40 : decode cX7_returns 40 = .ok (.iload 4, 2) := by decide +kernel
theorem dX7_returns_42 : decode cX7_returns 42 = .ok (.invokevirtual 75, 3) := by decide +kernel
theorem dX7_returns_45 : decode cX7_returns 45 = .ok (.istore 4, 2) := by decide +kernel
theorem dX7_returns_47 : decode cX7_returns 47 = .ok (.iinc 5 1, 3) := by decide +kernel
theorem dX7_returns_50 : decode cX7_returns 50 = .ok (.goto (-35), 3) := by decide +kernel
theorem dX7_returns_53 : decode cX7_returns 53 = .ok (.iload 4, 2) := by decide +kernel
theorem dX7_returns_55 : decode cX7_returns 55 = .ok (.bipush 16, 2) := by decide +kernel
theorem dX7_returns_57 : decode cX7_returns 57 = .ok (.if_icmp .ne 8, 3) := by decide +kernel
theorem dX7_returns_60 : decode cX7_returns 60 = .ok (.bipush (-5), 2) := by decide +kernel
theorem dX7_returns_62 : decode cX7_returns 62 = .ok (.goto 5, 3) := by decide +kernel
theorem dX7_returns_65 : decode cX7_returns 65 = .ok (.iload 5, 2) := by decide +kernel
theorem dX7_returns_67 : decode cX7_returns 67 = .ok (.ireturn, 1) := by decide +kernel
theorem dX7_walks_0 : decode cX7_walks 0 = .ok (.iload_n 2, 1) := by decide +kernel
theorem dX7_walks_1 : decode cX7_walks 1 = .ok (.istore 4, 2) := by decide +kernel
theorem dX7_walks_3 : decode cX7_walks 3 = .ok (.iconst 0, 1) := by decide +kernel
theorem dX7_walks_4 : decode cX7_walks 4 = .ok (.istore 5, 2) := by decide +kernel
theorem dX7_walks_6 : decode cX7_walks 6 = .ok (.iload 5, 2) := by decide +kernel
theorem dX7_walks_8 : decode cX7_walks 8 = .ok (.iload_n 3, 1) := by decide +kernel
theorem dX7_walks_9 : decode cX7_walks 9 = .ok (.if_icmp .ge 25, 3) := by decide +kernel
theorem dX7_walks_12 : decode cX7_walks 12 = .ok (.iload 4, 2) := by decide +kernel
theorem dX7_walks_14 : decode cX7_walks 14 = .ok (.bipush 16, 2) := by decide +kernel
theorem dX7_walks_16 : decode cX7_walks 16 = .ok (.if_icmp .eq 18, 3) := by decide +kernel
theorem dX7_walks_19 : decode cX7_walks 19 = .ok (.aload_n 0, 1) := by decide +kernel
theorem dX7_walks_20 : decode cX7_walks 20 = .ok (.iload_n 1, 1) := by decide +kernel
theorem dX7_walks_21 : decode cX7_walks 21 = .ok (.iload 4, 2) := by decide +kernel
theorem dX7_walks_23 : decode cX7_walks 23 = .ok (.invokevirtual 75, 3) := by decide +kernel
theorem dX7_walks_26 : decode cX7_walks 26 = .ok (.istore 4, 2) := by decide +kernel
theorem dX7_walks_28 : decode cX7_walks 28 = .ok (.iinc 5 1, 3) := by decide +kernel
theorem dX7_walks_31 : decode cX7_walks 31 = .ok (.goto (-25), 3) := by decide +kernel
theorem dX7_walks_34 : decode cX7_walks 34 = .ok (.iload 4, 2) := by decide +kernel
theorem dX7_walks_36 : decode cX7_walks 36 = .ok (.ireturn, 1) := by decide +kernel
theorem dX7_cycle_0 : decode cX7_cycle 0 = .ok (.aload_n 0, 1) := by decide +kernel
theorem dX7_cycle_1 : decode cX7_cycle 1 = .ok (.iload_n 1, 1) := by decide +kernel
theorem dX7_cycle_2 : decode cX7_cycle 2 = .ok (.iload_n 2, 1) := by decide +kernel
theorem dX7_cycle_3 : decode cX7_cycle 3 = .ok (.invokevirtual 184, 3) := by decide +kernel
theorem dX7_cycle_6 : decode cX7_cycle 6 = .ok (.istore_n 3, 1) := by decide +kernel
theorem dX7_cycle_7 : decode cX7_cycle 7 = .ok (.iload_n 3, 1) := by decide +kernel
theorem dX7_cycle_8 : decode cX7_cycle 8 = .ok (.bipush (-5), 2) := by decide +kernel
theorem dX7_cycle_10 : decode cX7_cycle 10 = .ok (.if_icmp .eq 18, 3) := by decide +kernel
theorem dX7_cycle_13 : decode cX7_cycle 13 = .ok (.aload_n 0, 1) := by decide +kernel
theorem dX7_cycle_14 : decode cX7_cycle 14 = .ok (.iload_n 1, 1) := by decide +kernel
theorem dX7_cycle_15 : decode cX7_cycle 15 = .ok (.iload_n 2, 1) := by decide +kernel
theorem dX7_cycle_16 : decode cX7_cycle 16 = .ok (.iload_n 3, 1) := by decide +kernel
theorem dX7_cycle_17 : decode cX7_cycle 17 = .ok (.invokevirtual 187, 3) := by decide +kernel
theorem dX7_cycle_20 : decode cX7_cycle 20 = .ok (.iload_n 2, 1) := by decide +kernel
theorem dX7_cycle_21 : decode cX7_cycle 21 = .ok (.if_icmp .ne 7, 3) := by decide +kernel
theorem dX7_cycle_24 : decode cX7_cycle 24 = .ok (.iload_n 3, 1) := by decide +kernel
theorem dX7_cycle_25 : decode cX7_cycle 25 = .ok (.goto 4, 3) := by decide +kernel
theorem dX7_cycle_28 : decode cX7_cycle 28 = .ok (.iconst 0, 1) := by decide +kernel
theorem dX7_cycle_29 : decode cX7_cycle 29 = .ok (.ireturn, 1) := by decide +kernel
theorem dX7_set_0 : decode cX7_set 0 = .ok (.iconst 0, 1) := by decide +kernel
theorem dX7_set_1 : decode cX7_set 1 = .ok (.istore_n 3, 1) := by decide +kernel
theorem dX7_set_2 : decode cX7_set 2 = .ok (.iconst 0, 1) := by decide +kernel
theorem dX7_set_3 : decode cX7_set 3 = .ok (.istore 4, 2) := by decide +kernel
theorem dX7_set_5 : decode cX7_set 5 = .ok (.iload 4, 2) := by decide +kernel
theorem dX7_set_7 : decode cX7_set 7 = .ok (.bipush 16, 2) := by decide +kernel
theorem dX7_set_9 : decode cX7_set 9 = .ok (.if_icmp .ge 91, 3) := by decide +kernel
theorem dX7_set_12 : decode cX7_set 12 = .ok (.aload_n 0, 1) := by decide +kernel
theorem dX7_set_13 : decode cX7_set 13 = .ok (.iload_n 1, 1) := by decide +kernel
theorem dX7_set_14 : decode cX7_set 14 = .ok (.iload 4, 2) := by decide +kernel
theorem dX7_set_16 : decode cX7_set 16 = .ok (.invokevirtual 75, 3) := by decide +kernel
theorem dX7_set_19 : decode cX7_set 19 = .ok (.istore 5, 2) := by decide +kernel
theorem dX7_set_21 : decode cX7_set 21 = .ok (.iload_n 2, 1) := by decide +kernel
theorem dX7_set_22 : decode cX7_set 22 = .ok (.iconst 3, 1) := by decide +kernel
theorem dX7_set_23 : decode cX7_set 23 = .ok (.if_icmp .ne 24, 3) := by decide +kernel
theorem dX7_set_26 : decode cX7_set 26 = .ok (.iload_n 3, 1) := by decide +kernel
theorem dX7_set_27 : decode cX7_set 27 = .ok (.iload 5, 2) := by decide +kernel
theorem dX7_set_29 : decode cX7_set 29 = .ok (.bipush 16, 2) := by decide +kernel
theorem dX7_set_31 : decode cX7_set 31 = .ok (.if_icmp .ne 7, 3) := by decide +kernel
theorem dX7_set_34 : decode cX7_set 34 = .ok (.iconst 0, 1) := by decide +kernel
theorem dX7_set_35 : decode cX7_set 35 = .ok (.goto 7, 3) := by decide +kernel
theorem dX7_set_38 : decode cX7_set 38 = .ok (.iconst 1, 1) := by decide +kernel
theorem dX7_set_39 : decode cX7_set 39 = .ok (.iload 5, 2) := by decide +kernel
theorem dX7_set_41 : decode cX7_set 41 = .ok (.ishl, 1) := by decide +kernel
theorem dX7_set_42 : decode cX7_set 42 = .ok (.ior, 1) := by decide +kernel
theorem dX7_set_43 : decode cX7_set 43 = .ok (.istore_n 3, 1) := by decide +kernel
theorem dX7_set_44 : decode cX7_set 44 = .ok (.goto 50, 3) := by decide +kernel
theorem dX7_set_47 : decode cX7_set 47 = .ok (.iload_n 2, 1) := by decide +kernel
theorem dX7_set_48 : decode cX7_set 48 = .ok (.iconst 2, 1) := by decide +kernel
theorem dX7_set_49 : decode cX7_set 49 = .ok (.if_icmp .ne 10, 3) := by decide +kernel
theorem dX7_set_52 : decode cX7_set 52 = .ok (.iload 5, 2) := by decide +kernel
theorem dX7_set_54 : decode cX7_set 54 = .ok (.bipush 16, 2) := by decide +kernel
theorem dX7_set_56 : decode cX7_set 56 = .ok (.if_icmp .eq 31, 3) := by decide +kernel
theorem dX7_set_59 : decode cX7_set 59 = .ok (.iload_n 2, 1) := by decide +kernel
theorem dX7_set_60 : decode cX7_set 60 = .ok (.iconst 5, 1) := by decide +kernel
theorem dX7_set_61 : decode cX7_set 61 = .ok (.if_icmp .ne 10, 3) := by decide +kernel
theorem dX7_set_64 : decode cX7_set 64 = .ok (.iload 5, 2) := by decide +kernel
theorem dX7_set_66 : decode cX7_set 66 = .ok (.iload 4, 2) := by decide +kernel
theorem dX7_set_68 : decode cX7_set 68 = .ok (.if_icmp .eq 19, 3) := by decide +kernel
theorem dX7_set_71 : decode cX7_set 71 = .ok (.iload_n 2, 1) := by decide +kernel
theorem dX7_set_72 : decode cX7_set 72 = .ok (.bipush 7, 2) := by decide +kernel
theorem dX7_set_74 : decode cX7_set 74 = .ok (.if_icmp .ne 20, 3) := by decide +kernel
theorem dX7_set_77 : decode cX7_set 77 = .ok (.aload_n 0, 1) := by decide +kernel
theorem dX7_set_78 : decode cX7_set 78 = .ok (.iload_n 1, 1) := by decide +kernel
theorem dX7_set_79 : decode cX7_set 79 = .ok (.iload 4, 2) := by decide +kernel
theorem dX7_set_81 : decode cX7_set 81 = .ok (.invokevirtual 190, 3) := by decide +kernel
theorem dX7_set_84 : decode cX7_set 84 = .ok (.ifCond .le 10, 3) := by decide +kernel
theorem dX7_set_87 : decode cX7_set 87 = .ok (.iload_n 3, 1) := by decide +kernel
theorem dX7_set_88 : decode cX7_set 88 = .ok (.iconst 1, 1) := by decide +kernel
theorem dX7_set_89 : decode cX7_set 89 = .ok (.iload 4, 2) := by decide +kernel
theorem dX7_set_91 : decode cX7_set 91 = .ok (.ishl, 1) := by decide +kernel
theorem dX7_set_92 : decode cX7_set 92 = .ok (.ior, 1) := by decide +kernel
theorem dX7_set_93 : decode cX7_set 93 = .ok (.istore_n 3, 1) := by decide +kernel
theorem dX7_set_94 : decode cX7_set 94 = .ok (.iinc 4 1, 3) := by decide +kernel
theorem dX7_set_97 : decode cX7_set 97 = .ok (.goto (-92), 3) := by decide +kernel
theorem dX7_set_100 : decode cX7_set 100 = .ok (.iload_n 3, 1) := by decide +kernel
theorem dX7_set_101 : decode cX7_set 101 = .ok (.ireturn, 1) := by decide +kernel
theorem dX7_onLayers_0 : decode cX7_onLayers 0 = .ok (.iconst 0, 1) := by decide +kernel
theorem dX7_onLayers_1 : decode cX7_onLayers 1 = .ok (.istore_n 2, 1) := by decide +kernel
theorem dX7_onLayers_2 : decode cX7_onLayers 2 = .ok (.iconst 0, 1) := by decide +kernel
theorem dX7_onLayers_3 : decode cX7_onLayers 3 = .ok (.istore_n 3, 1) := by decide +kernel
theorem dX7_onLayers_4 : decode cX7_onLayers 4 = .ok (.iload_n 3, 1) := by decide +kernel
theorem dX7_onLayers_5 : decode cX7_onLayers 5 = .ok (.aload_n 0, 1) := by decide +kernel
theorem dX7_onLayers_6 : decode cX7_onLayers 6 = .ok (.getfield 7, 3) := by decide +kernel
theorem dX7_onLayers_9 : decode cX7_onLayers 9 = .ok (.sipush 408, 3) := by decide +kernel
theorem dX7_onLayers_12 : decode cX7_onLayers 12 = .ok (.iload_n 1, 1) := by decide +kernel
theorem dX7_onLayers_13 : decode cX7_onLayers 13 = .ok (.iadd, 1) := by decide +kernel
theorem dX7_onLayers_14 : decode cX7_onLayers 14 = .ok (.iaload, 1) := by decide +kernel
theorem dX7_onLayers_15 : decode cX7_onLayers 15 = .ok (.if_icmp .ge 26, 3) := by decide +kernel
theorem dX7_onLayers_18 : decode cX7_onLayers 18 = .ok (.iload_n 2, 1) := by decide +kernel
theorem dX7_onLayers_19 : decode cX7_onLayers 19 = .ok (.aload_n 0, 1) := by decide +kernel
theorem dX7_onLayers_20 : decode cX7_onLayers 20 = .ok (.iload_n 1, 1) := by decide +kernel
theorem dX7_onLayers_21 : decode cX7_onLayers 21 = .ok (.iload_n 3, 1) := by decide +kernel
theorem dX7_onLayers_22 : decode cX7_onLayers 22 = .ok (.invokevirtual 63, 3) := by decide +kernel
theorem dX7_onLayers_25 : decode cX7_onLayers 25 = .ok (.ifCond .eq 7, 3) := by decide +kernel
theorem dX7_onLayers_28 : decode cX7_onLayers 28 = .ok (.iconst 1, 1) := by decide +kernel
theorem dX7_onLayers_29 : decode cX7_onLayers 29 = .ok (.goto 4, 3) := by decide +kernel
theorem dX7_onLayers_32 : decode cX7_onLayers 32 = .ok (.iconst 0, 1) := by decide +kernel
theorem dX7_onLayers_33 : decode cX7_onLayers 33 = .ok (.iadd, 1) := by decide +kernel
theorem dX7_onLayers_34 : decode cX7_onLayers 34 = .ok (.istore_n 2, 1) := by decide +kernel
theorem dX7_onLayers_35 : decode cX7_onLayers 35 = .ok (.iinc 3 1, 3) := by decide +kernel
theorem dX7_onLayers_38 : decode cX7_onLayers 38 = .ok (.goto (-34), 3) := by decide +kernel
theorem dX7_onLayers_41 : decode cX7_onLayers 41 = .ok (.iload_n 2, 1) := by decide +kernel
theorem dX7_onLayers_42 : decode cX7_onLayers 42 = .ok (.ireturn, 1) := by decide +kernel
theorem dX7_longest_0 : decode cX7_longest 0 = .ok (.iconst 0, 1) := by decide +kernel
theorem dX7_longest_1 : decode cX7_longest 1 = .ok (.istore_n 2, 1) := by decide +kernel
theorem dX7_longest_2 : decode cX7_longest 2 = .ok (.iconst 0, 1) := by decide +kernel
theorem dX7_longest_3 : decode cX7_longest 3 = .ok (.istore_n 3, 1) := by decide +kernel
theorem dX7_longest_4 : decode cX7_longest 4 = .ok (.iload_n 3, 1) := by decide +kernel
theorem dX7_longest_5 : decode cX7_longest 5 = .ok (.bipush 16, 2) := by decide +kernel
theorem dX7_longest_7 : decode cX7_longest 7 = .ok (.if_icmp .ge 30, 3) := by decide +kernel
theorem dX7_longest_10 : decode cX7_longest 10 = .ok (.aload_n 0, 1) := by decide +kernel
theorem dX7_longest_11 : decode cX7_longest 11 = .ok (.iload_n 1, 1) := by decide +kernel
theorem dX7_longest_12 : decode cX7_longest 12 = .ok (.iload_n 3, 1) := by decide +kernel
theorem dX7_longest_13 : decode cX7_longest 13 = .ok (.invokevirtual 190, 3) := by decide +kernel
theorem dX7_longest_16 : decode cX7_longest 16 = .ok (.istore 4, 2) := by decide +kernel
theorem dX7_longest_18 : decode cX7_longest 18 = .ok (.iload 4, 2) := by decide +kernel
theorem dX7_longest_20 : decode cX7_longest 20 = .ok (.iload_n 2, 1) := by decide +kernel
theorem dX7_longest_21 : decode cX7_longest 21 = .ok (.if_icmp .le 8, 3) := by decide +kernel
theorem dX7_longest_24 : decode cX7_longest 24 = .ok (.iload 4, 2) := by decide +kernel
theorem dX7_longest_26 : decode cX7_longest 26 = .ok (.goto 4, 3) := by decide +kernel
theorem dX7_longest_29 : decode cX7_longest 29 = .ok (.iload_n 2, 1) := by decide +kernel
theorem dX7_longest_30 : decode cX7_longest 30 = .ok (.istore_n 2, 1) := by decide +kernel
theorem dX7_longest_31 : decode cX7_longest 31 = .ok (.iinc 3 1, 3) := by decide +kernel
theorem dX7_longest_34 : decode cX7_longest 34 = .ok (.goto (-30), 3) := by decide +kernel
theorem dX7_longest_37 : decode cX7_longest 37 = .ok (.iload_n 2, 1) := by decide +kernel
theorem dX7_longest_38 : decode cX7_longest 38 = .ok (.ireturn, 1) := by decide +kernel
theorem dX7_map_0 : decode cX7_map 0 = .ok (.iload_n 1, 1) := by decide +kernel
theorem dX7_map_1 : decode cX7_map 1 = .ok (.invokestatic 55, 3) := by decide +kernel
theorem dX7_map_4 : decode cX7_map 4 = .ok (.ifCond .eq 5, 3) := by decide +kernel
theorem dX7_map_7 : decode cX7_map 7 = .ok (.iconst (-1), 1) := by decide +kernel
theorem dX7_map_8 : decode cX7_map 8 = .ok (.ireturn, 1) := by decide +kernel
theorem dX7_map_9 : decode cX7_map 9 = .ok (.iload_n 2, 1) := by decide +kernel
theorem dX7_map_10 : decode cX7_map 10 = .ok (.tableswitch 116 0 8 #[50, 61, 67, 67, 74, 67, 104, 67, 110], 50) := by decide +kernel
theorem dX7_map_60 : decode cX7_map 60 = .ok (.aload_n 0, 1) := by decide +kernel
theorem dX7_map_61 : decode cX7_map 61 = .ok (.getfield 7, 3) := by decide +kernel
theorem dX7_map_64 : decode cX7_map 64 = .ok (.sipush 408, 3) := by decide +kernel
theorem dX7_map_67 : decode cX7_map 67 = .ok (.iload_n 1, 1) := by decide +kernel
theorem dX7_map_68 : decode cX7_map 68 = .ok (.iadd, 1) := by decide +kernel
theorem dX7_map_69 : decode cX7_map 69 = .ok (.iaload, 1) := by decide +kernel
theorem dX7_map_70 : decode cX7_map 70 = .ok (.ireturn, 1) := by decide +kernel
theorem dX7_map_71 : decode cX7_map 71 = .ok (.aload_n 0, 1) := by decide +kernel
theorem dX7_map_72 : decode cX7_map 72 = .ok (.iload_n 1, 1) := by decide +kernel
theorem dX7_map_73 : decode cX7_map 73 = .ok (.invokevirtual 193, 3) := by decide +kernel
theorem dX7_map_76 : decode cX7_map 76 = .ok (.ireturn, 1) := by decide +kernel
theorem dX7_map_77 : decode cX7_map 77 = .ok (.aload_n 0, 1) := by decide +kernel
theorem dX7_map_78 : decode cX7_map 78 = .ok (.iload_n 1, 1) := by decide +kernel
theorem dX7_map_79 : decode cX7_map 79 = .ok (.iload_n 2, 1) := by decide +kernel
theorem dX7_map_80 : decode cX7_map 80 = .ok (.invokevirtual 196, 3) := by decide +kernel
theorem dX7_map_83 : decode cX7_map 83 = .ok (.ireturn, 1) := by decide +kernel
theorem dX7_map_84 : decode cX7_map 84 = .ok (.aload_n 0, 1) := by decide +kernel
theorem dX7_map_85 : decode cX7_map 85 = .ok (.iload_n 1, 1) := by decide +kernel
theorem dX7_map_86 : decode cX7_map 86 = .ok (.iconst 3, 1) := by decide +kernel
theorem dX7_map_87 : decode cX7_map 87 = .ok (.invokevirtual 196, 3) := by decide +kernel
theorem dX7_map_90 : decode cX7_map 90 = .ok (.invokestatic 119, 3) := by decide +kernel
theorem dX7_map_93 : decode cX7_map 93 = .ok (.aload_n 0, 1) := by decide +kernel
theorem dX7_map_94 : decode cX7_map 94 = .ok (.iload_n 1, 1) := by decide +kernel
theorem dX7_map_95 : decode cX7_map 95 = .ok (.iconst 2, 1) := by decide +kernel
theorem dX7_map_96 : decode cX7_map 96 = .ok (.invokevirtual 196, 3) := by decide +kernel
theorem dX7_map_99 : decode cX7_map 99 = .ok (.invokestatic 119, 3) := by decide +kernel
theorem dX7_map_102 : decode cX7_map 102 = .ok (.iadd, 1) := by decide +kernel
theorem dX7_map_103 : decode cX7_map 103 = .ok (.bipush 16, 2) := by decide +kernel
theorem dX7_map_105 : decode cX7_map 105 = .ok (.if_icmp .ne 7, 3) := by decide +kernel
theorem dX7_map_108 : decode cX7_map 108 = .ok (.iconst 1, 1) := by decide +kernel
theorem dX7_map_109 : decode cX7_map 109 = .ok (.goto 4, 3) := by decide +kernel
theorem dX7_map_112 : decode cX7_map 112 = .ok (.iconst 0, 1) := by decide +kernel
theorem dX7_map_113 : decode cX7_map 113 = .ok (.ireturn, 1) := by decide +kernel
theorem dX7_map_114 : decode cX7_map 114 = .ok (.aload_n 0, 1) := by decide +kernel
theorem dX7_map_115 : decode cX7_map 115 = .ok (.iload_n 1, 1) := by decide +kernel
theorem dX7_map_116 : decode cX7_map 116 = .ok (.invokevirtual 199, 3) := by decide +kernel
theorem dX7_map_119 : decode cX7_map 119 = .ok (.ireturn, 1) := by decide +kernel
theorem dX7_map_120 : decode cX7_map 120 = .ok (.aload_n 0, 1) := by decide +kernel
theorem dX7_map_121 : decode cX7_map 121 = .ok (.iload_n 1, 1) := by decide +kernel
theorem dX7_map_122 : decode cX7_map 122 = .ok (.invokevirtual 202, 3) := by decide +kernel
theorem dX7_map_125 : decode cX7_map 125 = .ok (.ireturn, 1) := by decide +kernel
theorem dX7_map_126 : decode cX7_map 126 = .ok (.bipush (-2), 2) := by decide +kernel
theorem dX7_map_128 : decode cX7_map 128 = .ok (.ireturn, 1) := by decide +kernel
theorem dX7_layer_0 : decode cX7_layer 0 = .ok (.aload_n 0, 1) := by decide +kernel
theorem dX7_layer_1 : decode cX7_layer 1 = .ok (.iload_n 1, 1) := by decide +kernel
theorem dX7_layer_2 : decode cX7_layer 2 = .ok (.iload_n 2, 1) := by decide +kernel
theorem dX7_layer_3 : decode cX7_layer 3 = .ok (.invokevirtual 91, 3) := by decide +kernel
theorem dX7_layer_6 : decode cX7_layer 6 = .ok (.ifCond .eq 5, 3) := by decide +kernel
theorem dX7_layer_9 : decode cX7_layer 9 = .ok (.iconst (-1), 1) := by decide +kernel
theorem dX7_layer_10 : decode cX7_layer 10 = .ok (.ireturn, 1) := by decide +kernel
theorem dX7_layer_11 : decode cX7_layer 11 = .ok (.iload_n 3, 1) := by decide +kernel
theorem dX7_layer_12 : decode cX7_layer 12 = .ok (.tableswitch 71 0 3 #[32, 40, 55, 63], 32) := by decide +kernel
theorem dX7_layer_44 : decode cX7_layer 44 = .ok (.aload_n 0, 1) := by decide +kernel
theorem dX7_layer_45 : decode cX7_layer 45 = .ok (.iload_n 1, 1) := by decide +kernel
theorem dX7_layer_46 : decode cX7_layer 46 = .ok (.iload_n 2, 1) := by decide +kernel
theorem dX7_layer_47 : decode cX7_layer 47 = .ok (.iconst 0, 1) := by decide +kernel
theorem dX7_layer_48 : decode cX7_layer 48 = .ok (.invokevirtual 78, 3) := by decide +kernel
theorem dX7_layer_51 : decode cX7_layer 51 = .ok (.ireturn, 1) := by decide +kernel
theorem dX7_layer_52 : decode cX7_layer 52 = .ok (.aload_n 0, 1) := by decide +kernel
theorem dX7_layer_53 : decode cX7_layer 53 = .ok (.iload_n 1, 1) := by decide +kernel
theorem dX7_layer_54 : decode cX7_layer 54 = .ok (.iload_n 2, 1) := by decide +kernel
theorem dX7_layer_55 : decode cX7_layer 55 = .ok (.invokevirtual 63, 3) := by decide +kernel
theorem dX7_layer_58 : decode cX7_layer 58 = .ok (.ifCond .eq 7, 3) := by decide +kernel
theorem dX7_layer_61 : decode cX7_layer 61 = .ok (.iconst 1, 1) := by decide +kernel
theorem dX7_layer_62 : decode cX7_layer 62 = .ok (.goto 4, 3) := by decide +kernel
theorem dX7_layer_65 : decode cX7_layer 65 = .ok (.iconst 0, 1) := by decide +kernel
theorem dX7_layer_66 : decode cX7_layer 66 = .ok (.ireturn, 1) := by decide +kernel
theorem dX7_layer_67 : decode cX7_layer 67 = .ok (.aload_n 0, 1) := by decide +kernel
theorem dX7_layer_68 : decode cX7_layer 68 = .ok (.iload_n 1, 1) := by decide +kernel
theorem dX7_layer_69 : decode cX7_layer 69 = .ok (.iload_n 2, 1) := by decide +kernel
theorem dX7_layer_70 : decode cX7_layer 70 = .ok (.iconst 2, 1) := by decide +kernel
theorem dX7_layer_71 : decode cX7_layer 71 = .ok (.invokevirtual 78, 3) := by decide +kernel
theorem dX7_layer_74 : decode cX7_layer 74 = .ok (.ireturn, 1) := by decide +kernel
theorem dX7_layer_75 : decode cX7_layer 75 = .ok (.aload_n 0, 1) := by decide +kernel
theorem dX7_layer_76 : decode cX7_layer 76 = .ok (.iload_n 1, 1) := by decide +kernel
theorem dX7_layer_77 : decode cX7_layer 77 = .ok (.iload_n 2, 1) := by decide +kernel
theorem dX7_layer_78 : decode cX7_layer 78 = .ok (.iconst 1, 1) := by decide +kernel
theorem dX7_layer_79 : decode cX7_layer 79 = .ok (.invokevirtual 78, 3) := by decide +kernel
theorem dX7_layer_82 : decode cX7_layer 82 = .ok (.ireturn, 1) := by decide +kernel
theorem dX7_layer_83 : decode cX7_layer 83 = .ok (.bipush (-2), 2) := by decide +kernel
theorem dX7_layer_85 : decode cX7_layer 85 = .ok (.ireturn, 1) := by decide +kernel
theorem dX7_entry_0 : decode cX7_entry 0 = .ok (.aload_n 0, 1) := by decide +kernel
theorem dX7_entry_1 : decode cX7_entry 1 = .ok (.iload_n 1, 1) := by decide +kernel
theorem dX7_entry_2 : decode cX7_entry 2 = .ok (.iload_n 2, 1) := by decide +kernel
theorem dX7_entry_3 : decode cX7_entry 3 = .ok (.invokevirtual 91, 3) := by decide +kernel
theorem dX7_entry_6 : decode cX7_entry 6 = .ok (.ifCond .ne 10, 3) := by decide +kernel
theorem dX7_entry_9 : decode cX7_entry 9 = .ok (.iload_n 3, 1) := by decide +kernel
theorem dX7_entry_10 : decode cX7_entry 10 = .ok (.invokestatic 106, 3) := by decide +kernel
theorem dX7_entry_13 : decode cX7_entry 13 = .ok (.ifCond .eq 7, 3) := by decide +kernel
theorem dX7_entry_16 : decode cX7_entry 16 = .ok (.iconst (-1), 1) := by decide +kernel
theorem dX7_entry_17 : decode cX7_entry 17 = .ok (.goto 14, 3) := by decide +kernel
theorem dX7_entry_20 : decode cX7_entry 20 = .ok (.aload_n 0, 1) := by decide +kernel
theorem dX7_entry_21 : decode cX7_entry 21 = .ok (.getfield 7, 3) := by decide +kernel
theorem dX7_entry_24 : decode cX7_entry 24 = .ok (.iload_n 1, 1) := by decide +kernel
theorem dX7_entry_25 : decode cX7_entry 25 = .ok (.iload_n 2, 1) := by decide +kernel
theorem dX7_entry_26 : decode cX7_entry 26 = .ok (.iload_n 3, 1) := by decide +kernel
theorem dX7_entry_27 : decode cX7_entry 27 = .ok (.invokestatic 67, 3) := by decide +kernel
theorem dX7_entry_30 : decode cX7_entry 30 = .ok (.iaload, 1) := by decide +kernel
theorem dX7_entry_31 : decode cX7_entry 31 = .ok (.ireturn, 1) := by decide +kernel
theorem dX7_follow_0 : decode cX7_follow 0 = .ok (.iload_n 1, 1) := by decide +kernel
theorem dX7_follow_1 : decode cX7_follow 1 = .ok (.invokestatic 55, 3) := by decide +kernel
theorem dX7_follow_4 : decode cX7_follow 4 = .ok (.ifCond .ne 10, 3) := by decide +kernel
theorem dX7_follow_7 : decode cX7_follow 7 = .ok (.iload_n 2, 1) := by decide +kernel
theorem dX7_follow_8 : decode cX7_follow 8 = .ok (.invokestatic 106, 3) := by decide +kernel
theorem dX7_follow_11 : decode cX7_follow 11 = .ok (.ifCond .eq 5, 3) := by decide +kernel
theorem dX7_follow_14 : decode cX7_follow 14 = .ok (.iconst (-1), 1) := by decide +kernel
theorem dX7_follow_15 : decode cX7_follow 15 = .ok (.ireturn, 1) := by decide +kernel
theorem dX7_follow_16 : decode cX7_follow 16 = .ok (.iload_n 3, 1) := by decide +kernel
theorem dX7_follow_17 : decode cX7_follow 17 = .ok (.iconst 0, 1) := by decide +kernel
theorem dX7_follow_18 : decode cX7_follow 18 = .ok (.iconst 2, 1) := by decide +kernel
theorem dX7_follow_19 : decode cX7_follow 19 = .ok (.invokestatic 51, 3) := by decide +kernel
theorem dX7_follow_22 : decode cX7_follow 22 = .ok (.ifCond .ne 6, 3) := by decide +kernel
theorem dX7_follow_25 : decode cX7_follow 25 = .ok (.bipush (-2), 2) := by decide +kernel
theorem dX7_follow_27 : decode cX7_follow 27 = .ok (.ireturn, 1) := by decide +kernel
theorem dX7_follow_28 : decode cX7_follow 28 = .ok (.aload_n 0, 1) := by decide +kernel
theorem dX7_follow_29 : decode cX7_follow 29 = .ok (.iload_n 1, 1) := by decide +kernel
theorem dX7_follow_30 : decode cX7_follow 30 = .ok (.iload_n 2, 1) := by decide +kernel
theorem dX7_follow_31 : decode cX7_follow 31 = .ok (.invokevirtual 184, 3) := by decide +kernel
theorem dX7_follow_34 : decode cX7_follow 34 = .ok (.istore 4, 2) := by decide +kernel
theorem dX7_follow_36 : decode cX7_follow 36 = .ok (.iload_n 3, 1) := by decide +kernel
theorem dX7_follow_37 : decode cX7_follow 37 = .ok (.ifCond .ne 49, 3) := by decide +kernel
theorem dX7_follow_40 : decode cX7_follow 40 = .ok (.iconst 0, 1) := by decide +kernel
theorem dX7_follow_41 : decode cX7_follow 41 = .ok (.istore 5, 2) := by decide +kernel
theorem dX7_follow_43 : decode cX7_follow 43 = .ok (.iload 4, 2) := by decide +kernel
theorem dX7_follow_45 : decode cX7_follow 45 = .ok (.bipush (-5), 2) := by decide +kernel
theorem dX7_follow_47 : decode cX7_follow 47 = .ok (.if_icmp .ne 24, 3) := by decide +kernel
theorem dX7_follow_50 : decode cX7_follow 50 = .ok (.aload_n 0, 1) := by decide +kernel
theorem dX7_follow_51 : decode cX7_follow 51 = .ok (.iload_n 1, 1) := by decide +kernel
theorem dX7_follow_52 : decode cX7_follow 52 = .ok (.iload_n 2, 1) := by decide +kernel
theorem dX7_follow_53 : decode cX7_follow 53 = .ok (.iload 5, 2) := by decide +kernel
theorem dX7_follow_55 : decode cX7_follow 55 = .ok (.iconst 1, 1) := by decide +kernel
theorem dX7_follow_56 : decode cX7_follow 56 = .ok (.iadd, 1) := by decide +kernel
theorem dX7_follow_57 : decode cX7_follow 57 = .ok (.invokevirtual 187, 3) := by decide +kernel
theorem dX7_follow_60 : decode cX7_follow 60 = .ok (.bipush 16, 2) := by decide +kernel
theorem dX7_follow_62 : decode cX7_follow 62 = .ok (.if_icmp .eq 9, 3) := by decide +kernel
theorem dX7_follow_65 : decode cX7_follow 65 = .ok (.iinc 5 1, 3) := by decide +kernel
theorem dX7_follow_68 : decode cX7_follow 68 = .ok (.goto (-25), 3) := by decide +kernel
theorem dX7_follow_71 : decode cX7_follow 71 = .ok (.iload 4, 2) := by decide +kernel
theorem dX7_follow_73 : decode cX7_follow 73 = .ok (.bipush (-5), 2) := by decide +kernel
theorem dX7_follow_75 : decode cX7_follow 75 = .ok (.if_icmp .ne 8, 3) := by decide +kernel
theorem dX7_follow_78 : decode cX7_follow 78 = .ok (.iload 5, 2) := by decide +kernel
theorem dX7_follow_80 : decode cX7_follow 80 = .ok (.goto 5, 3) := by decide +kernel
theorem dX7_follow_83 : decode cX7_follow 83 = .ok (.bipush (-5), 2) := by decide +kernel
theorem dX7_follow_85 : decode cX7_follow 85 = .ok (.ireturn, 1) := by decide +kernel
theorem dX7_follow_86 : decode cX7_follow 86 = .ok (.iload 4, 2) := by decide +kernel
theorem dX7_follow_88 : decode cX7_follow 88 = .ok (.bipush (-5), 2) := by decide +kernel
theorem dX7_follow_90 : decode cX7_follow 90 = .ok (.if_icmp .eq 8, 3) := by decide +kernel
theorem dX7_follow_93 : decode cX7_follow 93 = .ok (.iload_n 3, 1) := by decide +kernel
theorem dX7_follow_94 : decode cX7_follow 94 = .ok (.iconst 1, 1) := by decide +kernel
theorem dX7_follow_95 : decode cX7_follow 95 = .ok (.if_icmp .ne 8, 3) := by decide +kernel
theorem dX7_follow_98 : decode cX7_follow 98 = .ok (.iload 4, 2) := by decide +kernel
theorem dX7_follow_100 : decode cX7_follow 100 = .ok (.goto 16, 3) := by decide +kernel
theorem dX7_follow_103 : decode cX7_follow 103 = .ok (.aload_n 0, 1) := by decide +kernel
theorem dX7_follow_104 : decode cX7_follow 104 = .ok (.iload_n 1, 1) := by decide +kernel
theorem dX7_follow_105 : decode cX7_follow 105 = .ok (.aload_n 0, 1) := by decide +kernel
theorem dX7_follow_106 : decode cX7_follow 106 = .ok (.iload_n 1, 1) := by decide +kernel
theorem dX7_follow_107 : decode cX7_follow 107 = .ok (.iload_n 2, 1) := by decide +kernel
theorem dX7_follow_108 : decode cX7_follow 108 = .ok (.iload 4, 2) := by decide +kernel
theorem dX7_follow_110 : decode cX7_follow 110 = .ok (.invokevirtual 187, 3) := by decide +kernel
theorem dX7_follow_113 : decode cX7_follow 113 = .ok (.invokevirtual 190, 3) := by decide +kernel
theorem dX7_follow_116 : decode cX7_follow 116 = .ok (.ireturn, 1) := by decide +kernel
theorem dX7_after_0 : decode cX7_after 0 = .ok (.iload_n 1, 1) := by decide +kernel
theorem dX7_after_1 : decode cX7_after 1 = .ok (.invokestatic 55, 3) := by decide +kernel
theorem dX7_after_4 : decode cX7_after 4 = .ok (.ifCond .ne 10, 3) := by decide +kernel
theorem dX7_after_7 : decode cX7_after 7 = .ok (.iload_n 2, 1) := by decide +kernel
theorem dX7_after_8 : decode cX7_after 8 = .ok (.invokestatic 106, 3) := by decide +kernel
theorem dX7_after_11 : decode cX7_after 11 = .ok (.ifCond .eq 5, 3) := by decide +kernel
theorem dX7_after_14 : decode cX7_after 14 = .ok (.iconst (-1), 1) := by decide +kernel
theorem dX7_after_15 : decode cX7_after 15 = .ok (.ireturn, 1) := by decide +kernel
theorem dX7_after_16 : decode cX7_after 16 = .ok (.iload_n 3, 1) := by decide +kernel
theorem dX7_after_17 : decode cX7_after 17 = .ok (.iconst 0, 1) := by decide +kernel
theorem dX7_after_18 : decode cX7_after 18 = .ok (.ldc 205, 2) := by decide +kernel
theorem dX7_after_20 : decode cX7_after 20 = .ok (.invokestatic 51, 3) := by decide +kernel
theorem dX7_after_23 : decode cX7_after 23 = .ok (.ifCond .ne 6, 3) := by decide +kernel
theorem dX7_after_26 : decode cX7_after 26 = .ok (.bipush (-2), 2) := by decide +kernel
theorem dX7_after_28 : decode cX7_after 28 = .ok (.ireturn, 1) := by decide +kernel
theorem dX7_after_29 : decode cX7_after 29 = .ok (.aload_n 0, 1) := by decide +kernel
theorem dX7_after_30 : decode cX7_after 30 = .ok (.iload_n 1, 1) := by decide +kernel
theorem dX7_after_31 : decode cX7_after 31 = .ok (.iload_n 2, 1) := by decide +kernel
theorem dX7_after_32 : decode cX7_after 32 = .ok (.iload_n 3, 1) := by decide +kernel
theorem dX7_after_33 : decode cX7_after 33 = .ok (.bipush 16, 2) := by decide +kernel
theorem dX7_after_35 : decode cX7_after 35 = .ok (.if_icmp .ge 7, 3) := by decide +kernel
theorem dX7_after_38 : decode cX7_after 38 = .ok (.iload_n 3, 1) := by decide +kernel
theorem dX7_after_39 : decode cX7_after 39 = .ok (.goto 5, 3) := by decide +kernel
theorem dX7_after_42 : decode cX7_after 42 = .ok (.bipush 16, 2) := by decide +kernel
theorem dX7_after_44 : decode cX7_after 44 = .ok (.invokevirtual 187, 3) := by decide +kernel
theorem dX7_after_47 : decode cX7_after 47 = .ok (.istore 4, 2) := by decide +kernel
theorem dX7_after_49 : decode cX7_after 49 = .ok (.iload 4, 2) := by decide +kernel
theorem dX7_after_51 : decode cX7_after 51 = .ok (.bipush 16, 2) := by decide +kernel
theorem dX7_after_53 : decode cX7_after 53 = .ok (.if_icmp .eq 30, 3) := by decide +kernel
theorem dX7_after_56 : decode cX7_after 56 = .ok (.iload_n 3, 1) := by decide +kernel
theorem dX7_after_57 : decode cX7_after 57 = .ok (.bipush 16, 2) := by decide +kernel
theorem dX7_after_59 : decode cX7_after 59 = .ok (.if_icmp .le 24, 3) := by decide +kernel
theorem dX7_after_62 : decode cX7_after 62 = .ok (.aload_n 0, 1) := by decide +kernel
theorem dX7_after_63 : decode cX7_after 63 = .ok (.iload_n 1, 1) := by decide +kernel
theorem dX7_after_64 : decode cX7_after 64 = .ok (.iload 4, 2) := by decide +kernel
theorem dX7_after_66 : decode cX7_after 66 = .ok (.iload_n 3, 1) := by decide +kernel
theorem dX7_after_67 : decode cX7_after 67 = .ok (.bipush 16, 2) := by decide +kernel
theorem dX7_after_69 : decode cX7_after 69 = .ok (.isub, 1) := by decide +kernel
theorem dX7_after_70 : decode cX7_after 70 = .ok (.aload_n 0, 1) := by decide +kernel
theorem dX7_after_71 : decode cX7_after 71 = .ok (.iload_n 1, 1) := by decide +kernel
theorem dX7_after_72 : decode cX7_after 72 = .ok (.iload 4, 2) := by decide +kernel
theorem dX7_after_74 : decode cX7_after 74 = .ok (.invokevirtual 190, 3) := by decide +kernel
theorem dX7_after_77 : decode cX7_after 77 = .ok (.irem, 1) := by decide +kernel
theorem dX7_after_78 : decode cX7_after 78 = .ok (.invokevirtual 187, 3) := by decide +kernel
theorem dX7_after_81 : decode cX7_after 81 = .ok (.istore 4, 2) := by decide +kernel
theorem dX7_after_83 : decode cX7_after 83 = .ok (.iload 4, 2) := by decide +kernel
theorem dX7_after_85 : decode cX7_after 85 = .ok (.bipush 16, 2) := by decide +kernel
theorem dX7_after_87 : decode cX7_after 87 = .ok (.if_icmp .ne 8, 3) := by decide +kernel
theorem dX7_after_90 : decode cX7_after 90 = .ok (.bipush (-5), 2) := by decide +kernel
theorem dX7_after_92 : decode cX7_after 92 = .ok (.goto 5, 3) := by decide +kernel
theorem dX7_after_95 : decode cX7_after 95 = .ok (.iload 4, 2) := by decide +kernel
theorem dX7_after_97 : decode cX7_after 97 = .ok (.ireturn, 1) := by decide +kernel
theorem dX7_gives_0 : decode cX7_gives 0 = .ok (.iload_n 1, 1) := by decide +kernel
theorem dX7_gives_1 : decode cX7_gives 1 = .ok (.invokestatic 106, 3) := by decide +kernel
theorem dX7_gives_4 : decode cX7_gives 4 = .ok (.ifCond .eq 5, 3) := by decide +kernel
theorem dX7_gives_7 : decode cX7_gives 7 = .ok (.iconst (-1), 1) := by decide +kernel
theorem dX7_gives_8 : decode cX7_gives 8 = .ok (.ireturn, 1) := by decide +kernel
theorem dX7_gives_9 : decode cX7_gives 9 = .ok (.aload_n 0, 1) := by decide +kernel
theorem dX7_gives_10 : decode cX7_gives 10 = .ok (.invokevirtual 113, 3) := by decide +kernel
theorem dX7_gives_13 : decode cX7_gives 13 = .ok (.ifCond .ne 11, 3) := by decide +kernel
theorem dX7_gives_16 : decode cX7_gives 16 = .ok (.bipush (-100), 2) := by decide +kernel
theorem dX7_gives_18 : decode cX7_gives 18 = .ok (.aload_n 0, 1) := by decide +kernel
theorem dX7_gives_19 : decode cX7_gives 19 = .ok (.getfield 85, 3) := by decide +kernel
theorem dX7_gives_22 : decode cX7_gives 22 = .ok (.isub, 1) := by decide +kernel
theorem dX7_gives_23 : decode cX7_gives 23 = .ok (.ireturn, 1) := by decide +kernel
theorem dX7_gives_24 : decode cX7_gives 24 = .ok (.aload_n 0, 1) := by decide +kernel
theorem dX7_gives_25 : decode cX7_gives 25 = .ok (.getfield 29, 3) := by decide +kernel
theorem dX7_gives_28 : decode cX7_gives 28 = .ok (.iload_n 1, 1) := by decide +kernel
theorem dX7_gives_29 : decode cX7_gives 29 = .ok (.iaload, 1) := by decide +kernel
theorem dX7_gives_30 : decode cX7_gives 30 = .ok (.bipush 16, 2) := by decide +kernel
theorem dX7_gives_32 : decode cX7_gives 32 = .ok (.if_icmp .ne 8, 3) := by decide +kernel
theorem dX7_gives_35 : decode cX7_gives 35 = .ok (.bipush (-5), 2) := by decide +kernel
theorem dX7_gives_37 : decode cX7_gives 37 = .ok (.goto 9, 3) := by decide +kernel
theorem dX7_gives_40 : decode cX7_gives 40 = .ok (.aload_n 0, 1) := by decide +kernel
theorem dX7_gives_41 : decode cX7_gives 41 = .ok (.getfield 29, 3) := by decide +kernel
theorem dX7_gives_44 : decode cX7_gives 44 = .ok (.iload_n 1, 1) := by decide +kernel
theorem dX7_gives_45 : decode cX7_gives 45 = .ok (.iaload, 1) := by decide +kernel
theorem dX7_gives_46 : decode cX7_gives 46 = .ok (.ireturn, 1) := by decide +kernel
theorem dX7_apart_0 : decode cX7_apart 0 = .ok (.iconst 0, 1) := by decide +kernel
theorem dX7_apart_1 : decode cX7_apart 1 = .ok (.istore_n 3, 1) := by decide +kernel
theorem dX7_apart_2 : decode cX7_apart 2 = .ok (.iconst 0, 1) := by decide +kernel
theorem dX7_apart_3 : decode cX7_apart 3 = .ok (.istore 4, 2) := by decide +kernel
theorem dX7_apart_5 : decode cX7_apart 5 = .ok (.iload 4, 2) := by decide +kernel
theorem dX7_apart_7 : decode cX7_apart 7 = .ok (.bipush 16, 2) := by decide +kernel
theorem dX7_apart_9 : decode cX7_apart 9 = .ok (.if_icmp .ge 37, 3) := by decide +kernel
theorem dX7_apart_12 : decode cX7_apart 12 = .ok (.iload_n 3, 1) := by decide +kernel
theorem dX7_apart_13 : decode cX7_apart 13 = .ok (.aload_n 0, 1) := by decide +kernel
theorem dX7_apart_14 : decode cX7_apart 14 = .ok (.iload_n 1, 1) := by decide +kernel
theorem dX7_apart_15 : decode cX7_apart 15 = .ok (.iload 4, 2) := by decide +kernel
theorem dX7_apart_17 : decode cX7_apart 17 = .ok (.invokevirtual 75, 3) := by decide +kernel
theorem dX7_apart_20 : decode cX7_apart 20 = .ok (.aload_n 0, 1) := by decide +kernel
theorem dX7_apart_21 : decode cX7_apart 21 = .ok (.iload_n 2, 1) := by decide +kernel
theorem dX7_apart_22 : decode cX7_apart 22 = .ok (.iload 4, 2) := by decide +kernel
theorem dX7_apart_24 : decode cX7_apart 24 = .ok (.invokevirtual 75, 3) := by decide +kernel
theorem dX7_apart_27 : decode cX7_apart 27 = .ok (.if_icmp .ne 7, 3) := by decide +kernel
theorem dX7_apart_30 : decode cX7_apart 30 = .ok (.iconst 0, 1) := by decide +kernel
theorem dX7_apart_31 : decode cX7_apart 31 = .ok (.goto 7, 3) := by decide +kernel
theorem dX7_apart_34 : decode cX7_apart 34 = .ok (.iconst 1, 1) := by decide +kernel
theorem dX7_apart_35 : decode cX7_apart 35 = .ok (.iload 4, 2) := by decide +kernel
theorem dX7_apart_37 : decode cX7_apart 37 = .ok (.ishl, 1) := by decide +kernel
theorem dX7_apart_38 : decode cX7_apart 38 = .ok (.ior, 1) := by decide +kernel
theorem dX7_apart_39 : decode cX7_apart 39 = .ok (.istore_n 3, 1) := by decide +kernel
theorem dX7_apart_40 : decode cX7_apart 40 = .ok (.iinc 4 1, 3) := by decide +kernel
theorem dX7_apart_43 : decode cX7_apart 43 = .ok (.goto (-38), 3) := by decide +kernel
theorem dX7_apart_46 : decode cX7_apart 46 = .ok (.iload_n 3, 1) := by decide +kernel
theorem dX7_apart_47 : decode cX7_apart 47 = .ok (.ireturn, 1) := by decide +kernel
theorem dX7_differ_0 : decode cX7_differ 0 = .ok (.iload_n 1, 1) := by decide +kernel
theorem dX7_differ_1 : decode cX7_differ 1 = .ok (.invokestatic 55, 3) := by decide +kernel
theorem dX7_differ_4 : decode cX7_differ 4 = .ok (.ifCond .ne 10, 3) := by decide +kernel
theorem dX7_differ_7 : decode cX7_differ 7 = .ok (.iload_n 2, 1) := by decide +kernel
theorem dX7_differ_8 : decode cX7_differ 8 = .ok (.invokestatic 55, 3) := by decide +kernel
theorem dX7_differ_11 : decode cX7_differ 11 = .ok (.ifCond .eq 7, 3) := by decide +kernel
theorem dX7_differ_14 : decode cX7_differ 14 = .ok (.iconst (-1), 1) := by decide +kernel
theorem dX7_differ_15 : decode cX7_differ 15 = .ok (.goto 9, 3) := by decide +kernel
theorem dX7_differ_18 : decode cX7_differ 18 = .ok (.aload_n 0, 1) := by decide +kernel
theorem dX7_differ_19 : decode cX7_differ 19 = .ok (.iload_n 1, 1) := by decide +kernel
theorem dX7_differ_20 : decode cX7_differ 20 = .ok (.iload_n 2, 1) := by decide +kernel
theorem dX7_differ_21 : decode cX7_differ 21 = .ok (.invokevirtual 206, 3) := by decide +kernel
theorem dX7_differ_24 : decode cX7_differ 24 = .ok (.ireturn, 1) := by decide +kernel
theorem dX7_probes_0 : decode cX7_probes 0 = .ok (.iload_n 1, 1) := by decide +kernel
theorem dX7_probes_1 : decode cX7_probes 1 = .ok (.iconst 1, 1) := by decide +kernel
theorem dX7_probes_2 : decode cX7_probes 2 = .ok (.bipush 63, 2) := by decide +kernel
theorem dX7_probes_4 : decode cX7_probes 4 = .ok (.invokestatic 51, 3) := by decide +kernel
theorem dX7_probes_7 : decode cX7_probes 7 = .ok (.ifCond .ne 6, 3) := by decide +kernel
theorem dX7_probes_10 : decode cX7_probes 10 = .ok (.bipush (-2), 2) := by decide +kernel
theorem dX7_probes_12 : decode cX7_probes 12 = .ok (.ireturn, 1) := by decide +kernel
theorem dX7_probes_13 : decode cX7_probes 13 = .ok (.iconst 0, 1) := by decide +kernel
theorem dX7_probes_14 : decode cX7_probes 14 = .ok (.istore_n 2, 1) := by decide +kernel
theorem dX7_probes_15 : decode cX7_probes 15 = .ok (.iconst 0, 1) := by decide +kernel
theorem dX7_probes_16 : decode cX7_probes 16 = .ok (.istore_n 3, 1) := by decide +kernel
theorem dX7_probes_17 : decode cX7_probes 17 = .ok (.iload_n 3, 1) := by decide +kernel
theorem dX7_probes_18 : decode cX7_probes 18 = .ok (.bipush 6, 2) := by decide +kernel
theorem dX7_probes_20 : decode cX7_probes 20 = .ok (.if_icmp .ge 72, 3) := by decide +kernel
theorem dX7_probes_23 : decode cX7_probes 23 = .ok (.iconst 0, 1) := by decide +kernel
theorem dX7_probes_24 : decode cX7_probes 24 = .ok (.istore 4, 2) := by decide +kernel
theorem dX7_probes_26 : decode cX7_probes 26 = .ok (.iload 4, 2) := by decide +kernel
theorem dX7_probes_28 : decode cX7_probes 28 = .ok (.iload_n 3, 1) := by decide +kernel
theorem dX7_probes_29 : decode cX7_probes 29 = .ok (.if_icmp .ge 57, 3) := by decide +kernel
theorem dX7_probes_32 : decode cX7_probes 32 = .ok (.iload_n 1, 1) := by decide +kernel
theorem dX7_probes_33 : decode cX7_probes 33 = .ok (.iload_n 3, 1) := by decide +kernel
theorem dX7_probes_34 : decode cX7_probes 34 = .ok (.ishr, 1) := by decide +kernel
theorem dX7_probes_35 : decode cX7_probes 35 = .ok (.iconst 1, 1) := by decide +kernel
theorem dX7_probes_36 : decode cX7_probes 36 = .ok (.iand, 1) := by decide +kernel
theorem dX7_probes_37 : decode cX7_probes 37 = .ok (.iconst 1, 1) := by decide +kernel
theorem dX7_probes_38 : decode cX7_probes 38 = .ok (.if_icmp .ne 23, 3) := by decide +kernel
theorem dX7_probes_41 : decode cX7_probes 41 = .ok (.iload_n 1, 1) := by decide +kernel
theorem dX7_probes_42 : decode cX7_probes 42 = .ok (.iload 4, 2) := by decide +kernel
theorem dX7_probes_44 : decode cX7_probes 44 = .ok (.ishr, 1) := by decide +kernel
theorem dX7_probes_45 : decode cX7_probes 45 = .ok (.iconst 1, 1) := by decide +kernel
theorem dX7_probes_46 : decode cX7_probes 46 = .ok (.iand, 1) := by decide +kernel
theorem dX7_probes_47 : decode cX7_probes 47 = .ok (.iconst 1, 1) := by decide +kernel
theorem dX7_probes_48 : decode cX7_probes 48 = .ok (.if_icmp .ne 13, 3) := by decide +kernel
theorem dX7_probes_51 : decode cX7_probes 51 = .ok (.aload_n 0, 1) := by decide +kernel
theorem dX7_probes_52 : decode cX7_probes 52 = .ok (.iload_n 3, 1) := by decide +kernel
theorem dX7_probes_53 : decode cX7_probes 53 = .ok (.iload 4, 2) := by decide +kernel
theorem dX7_probes_55 : decode cX7_probes 55 = .ok (.invokevirtual 206, 3) := by decide +kernel
theorem dX7_probes_58 : decode cX7_probes 58 = .ok (.goto 4, 3) := by decide +kernel
theorem dX7_probes_61 : decode cX7_probes 61 = .ok (.iconst 0, 1) := by decide +kernel
theorem dX7_probes_62 : decode cX7_probes 62 = .ok (.istore 5, 2) := by decide +kernel
theorem dX7_probes_64 : decode cX7_probes 64 = .ok (.iload 5, 2) := by decide +kernel
theorem dX7_probes_66 : decode cX7_probes 66 = .ok (.ifCond .eq 14, 3) := by decide +kernel
theorem dX7_probes_69 : decode cX7_probes 69 = .ok (.aload_n 0, 1) := by decide +kernel
theorem dX7_probes_70 : decode cX7_probes 70 = .ok (.getfield 48, 3) := by decide +kernel
theorem dX7_probes_73 : decode cX7_probes 73 = .ok (.iload_n 2, 1) := by decide +kernel
theorem dX7_probes_74 : decode cX7_probes 74 = .ok (.iload 5, 2) := by decide +kernel
theorem dX7_probes_76 : decode cX7_probes 76 = .ok (.iastore, 1) := by decide +kernel
theorem dX7_probes_77 : decode cX7_probes 77 = .ok (.iinc 2 1, 3) := by decide +kernel
theorem dX7_probes_80 : decode cX7_probes 80 = .ok (.iinc 4 1, 3) := by decide +kernel
theorem dX7_probes_83 : decode cX7_probes 83 = .ok (.goto (-57), 3) := by decide +kernel
theorem dX7_probes_86 : decode cX7_probes 86 = .ok (.iinc 3 1, 3) := by decide +kernel
theorem dX7_probes_89 : decode cX7_probes 89 = .ok (.goto (-72), 3) := by decide +kernel
theorem dX7_probes_92 : decode cX7_probes 92 = .ok (.ldc 209, 2) := by decide +kernel
theorem dX7_probes_94 : decode cX7_probes 94 = .ok (.istore_n 3, 1) := by decide +kernel
theorem dX7_probes_95 : decode cX7_probes 95 = .ok (.bipush 16, 2) := by decide +kernel
theorem dX7_probes_97 : decode cX7_probes 97 = .ok (.istore 4, 2) := by decide +kernel
theorem dX7_probes_99 : decode cX7_probes 99 = .ok (.iconst 0, 1) := by decide +kernel
theorem dX7_probes_100 : decode cX7_probes 100 = .ok (.istore 5, 2) := by decide +kernel
theorem dX7_probes_102 : decode cX7_probes 102 = .ok (.iload 5, 2) := by decide +kernel
theorem dX7_probes_104 : decode cX7_probes 104 = .ok (.ldc 209, 2) := by decide +kernel
theorem dX7_probes_106 : decode cX7_probes 106 = .ok (.if_icmp .ge 63, 3) := by decide +kernel
theorem dX7_probes_109 : decode cX7_probes 109 = .ok (.iconst 0, 1) := by decide +kernel
theorem dX7_probes_110 : decode cX7_probes 110 = .ok (.istore 6, 2) := by decide +kernel
theorem dX7_probes_112 : decode cX7_probes 112 = .ok (.iload 6, 2) := by decide +kernel
theorem dX7_probes_114 : decode cX7_probes 114 = .ok (.iload_n 2, 1) := by decide +kernel
theorem dX7_probes_115 : decode cX7_probes 115 = .ok (.if_icmp .ge 22, 3) := by decide +kernel
theorem dX7_probes_118 : decode cX7_probes 118 = .ok (.aload_n 0, 1) := by decide +kernel
theorem dX7_probes_119 : decode cX7_probes 119 = .ok (.getfield 48, 3) := by decide +kernel
theorem dX7_probes_122 : decode cX7_probes 122 = .ok (.iload 6, 2) := by decide +kernel
theorem dX7_probes_124 : decode cX7_probes 124 = .ok (.iaload, 1) := by decide +kernel
theorem dX7_probes_125 : decode cX7_probes 125 = .ok (.iload 5, 2) := by decide +kernel
theorem dX7_probes_127 : decode cX7_probes 127 = .ok (.iand, 1) := by decide +kernel
theorem dX7_probes_128 : decode cX7_probes 128 = .ok (.ifCond .eq 9, 3) := by decide +kernel
theorem dX7_probes_131 : decode cX7_probes 131 = .ok (.iinc 6 1, 3) := by decide +kernel
theorem dX7_probes_134 : decode cX7_probes 134 = .ok (.goto (-22), 3) := by decide +kernel
theorem dX7_probes_137 : decode cX7_probes 137 = .ok (.iload 6, 2) := by decide +kernel
theorem dX7_probes_139 : decode cX7_probes 139 = .ok (.iload_n 2, 1) := by decide +kernel
theorem dX7_probes_140 : decode cX7_probes 140 = .ok (.if_icmp .ne 23, 3) := by decide +kernel
theorem dX7_probes_143 : decode cX7_probes 143 = .ok (.iload 5, 2) := by decide +kernel
theorem dX7_probes_145 : decode cX7_probes 145 = .ok (.invokestatic 119, 3) := by decide +kernel
theorem dX7_probes_148 : decode cX7_probes 148 = .ok (.iload 4, 2) := by decide +kernel
theorem dX7_probes_150 : decode cX7_probes 150 = .ok (.if_icmp .ge 13, 3) := by decide +kernel
theorem dX7_probes_153 : decode cX7_probes 153 = .ok (.iload 5, 2) := by decide +kernel
theorem dX7_probes_155 : decode cX7_probes 155 = .ok (.istore_n 3, 1) := by decide +kernel
theorem dX7_probes_156 : decode cX7_probes 156 = .ok (.iload 5, 2) := by decide +kernel
theorem dX7_probes_158 : decode cX7_probes 158 = .ok (.invokestatic 119, 3) := by decide +kernel
theorem dX7_probes_161 : decode cX7_probes 161 = .ok (.istore 4, 2) := by decide +kernel
theorem dX7_probes_163 : decode cX7_probes 163 = .ok (.iinc 5 1, 3) := by decide +kernel
theorem dX7_probes_166 : decode cX7_probes 166 = .ok (.goto (-64), 3) := by decide +kernel
theorem dX7_probes_169 : decode cX7_probes 169 = .ok (.iload_n 3, 1) := by decide +kernel
theorem dX7_probes_170 : decode cX7_probes 170 = .ok (.ireturn, 1) := by decide +kernel
theorem dX7_hidden_0 : decode cX7_hidden 0 = .ok (.iload_n 1, 1) := by decide +kernel
theorem dX7_hidden_1 : decode cX7_hidden 1 = .ok (.iconst 0, 1) := by decide +kernel
theorem dX7_hidden_2 : decode cX7_hidden 2 = .ok (.iconst 5, 1) := by decide +kernel
theorem dX7_hidden_3 : decode cX7_hidden 3 = .ok (.invokestatic 51, 3) := by decide +kernel
theorem dX7_hidden_6 : decode cX7_hidden 6 = .ok (.ifCond .ne 6, 3) := by decide +kernel
theorem dX7_hidden_9 : decode cX7_hidden 9 = .ok (.bipush (-2), 2) := by decide +kernel
theorem dX7_hidden_11 : decode cX7_hidden 11 = .ok (.ireturn, 1) := by decide +kernel
theorem dX7_hidden_12 : decode cX7_hidden 12 = .ok (.aload_n 0, 1) := by decide +kernel
theorem dX7_hidden_13 : decode cX7_hidden 13 = .ok (.getfield 7, 3) := by decide +kernel
theorem dX7_hidden_16 : decode cX7_hidden 16 = .ok (.sipush 415, 3) := by decide +kernel
theorem dX7_hidden_19 : decode cX7_hidden 19 = .ok (.iaload, 1) := by decide +kernel
theorem dX7_hidden_20 : decode cX7_hidden 20 = .ok (.ifCond .ne 6, 3) := by decide +kernel
theorem dX7_hidden_23 : decode cX7_hidden 23 = .ok (.bipush (-4), 2) := by decide +kernel
theorem dX7_hidden_25 : decode cX7_hidden 25 = .ok (.ireturn, 1) := by decide +kernel
theorem dX7_hidden_26 : decode cX7_hidden 26 = .ok (.iload_n 1, 1) := by decide +kernel
theorem dX7_hidden_27 : decode cX7_hidden 27 = .ok (.iconst 2, 1) := by decide +kernel
theorem dX7_hidden_28 : decode cX7_hidden 28 = .ok (.if_icmp .ge 14, 3) := by decide +kernel
theorem dX7_hidden_31 : decode cX7_hidden 31 = .ok (.aload_n 0, 1) := by decide +kernel
theorem dX7_hidden_32 : decode cX7_hidden 32 = .ok (.getfield 7, 3) := by decide +kernel
theorem dX7_hidden_35 : decode cX7_hidden 35 = .ok (.sipush 416, 3) := by decide +kernel
theorem dX7_hidden_38 : decode cX7_hidden 38 = .ok (.iload_n 1, 1) := by decide +kernel
theorem dX7_hidden_39 : decode cX7_hidden 39 = .ok (.iadd, 1) := by decide +kernel
theorem dX7_hidden_40 : decode cX7_hidden 40 = .ok (.iaload, 1) := by decide +kernel
theorem dX7_hidden_41 : decode cX7_hidden 41 = .ok (.ireturn, 1) := by decide +kernel
theorem dX7_hidden_42 : decode cX7_hidden 42 = .ok (.aload_n 0, 1) := by decide +kernel
theorem dX7_hidden_43 : decode cX7_hidden 43 = .ok (.invokevirtual 210, 3) := by decide +kernel
theorem dX7_hidden_46 : decode cX7_hidden 46 = .ok (.istore_n 2, 1) := by decide +kernel
theorem dX7_hidden_47 : decode cX7_hidden 47 = .ok (.iload_n 1, 1) := by decide +kernel
theorem dX7_hidden_48 : decode cX7_hidden 48 = .ok (.iconst 2, 1) := by decide +kernel
theorem dX7_hidden_49 : decode cX7_hidden 49 = .ok (.if_icmp .ne 13, 3) := by decide +kernel
theorem dX7_hidden_52 : decode cX7_hidden 52 = .ok (.iload_n 2, 1) := by decide +kernel
theorem dX7_hidden_53 : decode cX7_hidden 53 = .ok (.ifCond .eq 7, 3) := by decide +kernel
theorem dX7_hidden_56 : decode cX7_hidden 56 = .ok (.iconst 1, 1) := by decide +kernel
theorem dX7_hidden_57 : decode cX7_hidden 57 = .ok (.goto 4, 3) := by decide +kernel
theorem dX7_hidden_60 : decode cX7_hidden 60 = .ok (.iconst 0, 1) := by decide +kernel
theorem dX7_hidden_61 : decode cX7_hidden 61 = .ok (.ireturn, 1) := by decide +kernel
theorem dX7_hidden_62 : decode cX7_hidden 62 = .ok (.iload_n 2, 1) := by decide +kernel
theorem dX7_hidden_63 : decode cX7_hidden 63 = .ok (.ifCond .eq 6, 3) := by decide +kernel
theorem dX7_hidden_66 : decode cX7_hidden 66 = .ok (.bipush (-5), 2) := by decide +kernel
theorem dX7_hidden_68 : decode cX7_hidden 68 = .ok (.ireturn, 1) := by decide +kernel
theorem dX7_hidden_69 : decode cX7_hidden 69 = .ok (.aload_n 0, 1) := by decide +kernel
theorem dX7_hidden_70 : decode cX7_hidden 70 = .ok (.invokevirtual 213, 3) := by decide +kernel
theorem dX7_hidden_73 : decode cX7_hidden 73 = .ok (.istore_n 3, 1) := by decide +kernel
theorem dX7_hidden_74 : decode cX7_hidden 74 = .ok (.iload_n 1, 1) := by decide +kernel
theorem dX7_hidden_75 : decode cX7_hidden 75 = .ok (.iconst 3, 1) := by decide +kernel
theorem dX7_hidden_76 : decode cX7_hidden 76 = .ok (.if_icmp .ne 7, 3) := by decide +kernel
theorem dX7_hidden_79 : decode cX7_hidden 79 = .ok (.iload_n 3, 1) := by decide +kernel
theorem dX7_hidden_80 : decode cX7_hidden 80 = .ok (.goto 11, 3) := by decide +kernel
theorem dX7_hidden_83 : decode cX7_hidden 83 = .ok (.aload_n 0, 1) := by decide +kernel
theorem dX7_hidden_84 : decode cX7_hidden 84 = .ok (.iload_n 3, 1) := by decide +kernel
theorem dX7_hidden_85 : decode cX7_hidden 85 = .ok (.iconst 5, 1) := by decide +kernel
theorem dX7_hidden_86 : decode cX7_hidden 86 = .ok (.iload_n 1, 1) := by decide +kernel
theorem dX7_hidden_87 : decode cX7_hidden 87 = .ok (.isub, 1) := by decide +kernel
theorem dX7_hidden_88 : decode cX7_hidden 88 = .ok (.invokevirtual 128, 3) := by decide +kernel
theorem dX7_hidden_91 : decode cX7_hidden 91 = .ok (.ireturn, 1) := by decide +kernel
theorem dX7_split_0 : decode cX7_split 0 = .ok (.iload_n 1, 1) := by decide +kernel
theorem dX7_split_1 : decode cX7_split 1 = .ok (.invokestatic 106, 3) := by decide +kernel
theorem dX7_split_4 : decode cX7_split 4 = .ok (.ifCond .eq 5, 3) := by decide +kernel
theorem dX7_split_7 : decode cX7_split 7 = .ok (.iconst (-1), 1) := by decide +kernel
theorem dX7_split_8 : decode cX7_split 8 = .ok (.ireturn, 1) := by decide +kernel
theorem dX7_split_9 : decode cX7_split 9 = .ok (.iload_n 2, 1) := by decide +kernel
theorem dX7_split_10 : decode cX7_split 10 = .ok (.iconst 0, 1) := by decide +kernel
theorem dX7_split_11 : decode cX7_split 11 = .ok (.iconst 1, 1) := by decide +kernel
theorem dX7_split_12 : decode cX7_split 12 = .ok (.invokestatic 51, 3) := by decide +kernel
theorem dX7_split_15 : decode cX7_split 15 = .ok (.ifCond .ne 6, 3) := by decide +kernel
theorem dX7_split_18 : decode cX7_split 18 = .ok (.bipush (-2), 2) := by decide +kernel
theorem dX7_split_20 : decode cX7_split 20 = .ok (.ireturn, 1) := by decide +kernel
theorem dX7_split_21 : decode cX7_split 21 = .ok (.aload_n 0, 1) := by decide +kernel
theorem dX7_split_22 : decode cX7_split 22 = .ok (.getfield 7, 3) := by decide +kernel
theorem dX7_split_25 : decode cX7_split 25 = .ok (.sipush 415, 3) := by decide +kernel
theorem dX7_split_28 : decode cX7_split 28 = .ok (.iaload, 1) := by decide +kernel
theorem dX7_split_29 : decode cX7_split 29 = .ok (.ifCond .ne 8, 3) := by decide +kernel
theorem dX7_split_32 : decode cX7_split 32 = .ok (.bipush (-4), 2) := by decide +kernel
theorem dX7_split_34 : decode cX7_split 34 = .ok (.goto 9, 3) := by decide +kernel
theorem dX7_split_37 : decode cX7_split 37 = .ok (.aload_n 0, 1) := by decide +kernel
theorem dX7_split_38 : decode cX7_split 38 = .ok (.iload_n 1, 1) := by decide +kernel
theorem dX7_split_39 : decode cX7_split 39 = .ok (.iload_n 2, 1) := by decide +kernel
theorem dX7_split_40 : decode cX7_split 40 = .ok (.invokevirtual 128, 3) := by decide +kernel
theorem dX7_split_43 : decode cX7_split 43 = .ok (.ireturn, 1) := by decide +kernel
theorem dX7_allEntries_0 : decode cX7_allEntries 0 = .ok (.iconst 0, 1) := by decide +kernel
theorem dX7_allEntries_1 : decode cX7_allEntries 1 = .ok (.istore_n 2, 1) := by decide +kernel
theorem dX7_allEntries_2 : decode cX7_allEntries 2 = .ok (.iconst 0, 1) := by decide +kernel
theorem dX7_allEntries_3 : decode cX7_allEntries 3 = .ok (.istore_n 3, 1) := by decide +kernel
theorem dX7_allEntries_4 : decode cX7_allEntries 4 = .ok (.iload_n 3, 1) := by decide +kernel
theorem dX7_allEntries_5 : decode cX7_allEntries 5 = .ok (.bipush 6, 2) := by decide +kernel
theorem dX7_allEntries_7 : decode cX7_allEntries 7 = .ok (.if_icmp .ge 52, 3) := by decide +kernel
theorem dX7_allEntries_10 : decode cX7_allEntries 10 = .ok (.iconst 0, 1) := by decide +kernel
theorem dX7_allEntries_11 : decode cX7_allEntries 11 = .ok (.istore 4, 2) := by decide +kernel
theorem dX7_allEntries_13 : decode cX7_allEntries 13 = .ok (.iload 4, 2) := by decide +kernel
theorem dX7_allEntries_15 : decode cX7_allEntries 15 = .ok (.aload_n 0, 1) := by decide +kernel
theorem dX7_allEntries_16 : decode cX7_allEntries 16 = .ok (.getfield 7, 3) := by decide +kernel
theorem dX7_allEntries_19 : decode cX7_allEntries 19 = .ok (.sipush 408, 3) := by decide +kernel
theorem dX7_allEntries_22 : decode cX7_allEntries 22 = .ok (.iload_n 3, 1) := by decide +kernel
theorem dX7_allEntries_23 : decode cX7_allEntries 23 = .ok (.iadd, 1) := by decide +kernel
theorem dX7_allEntries_24 : decode cX7_allEntries 24 = .ok (.iaload, 1) := by decide +kernel
theorem dX7_allEntries_25 : decode cX7_allEntries 25 = .ok (.if_icmp .ge 28, 3) := by decide +kernel
theorem dX7_allEntries_28 : decode cX7_allEntries 28 = .ok (.iload_n 2, 1) := by decide +kernel
theorem dX7_allEntries_29 : decode cX7_allEntries 29 = .ok (.aload_n 0, 1) := by decide +kernel
theorem dX7_allEntries_30 : decode cX7_allEntries 30 = .ok (.iload_n 3, 1) := by decide +kernel
theorem dX7_allEntries_31 : decode cX7_allEntries 31 = .ok (.iload 4, 2) := by decide +kernel
theorem dX7_allEntries_33 : decode cX7_allEntries 33 = .ok (.iload_n 1, 1) := by decide +kernel
theorem dX7_allEntries_34 : decode cX7_allEntries 34 = .ok (.ifCond .eq 7, 3) := by decide +kernel
theorem dX7_allEntries_37 : decode cX7_allEntries 37 = .ok (.iconst 2, 1) := by decide +kernel
theorem dX7_allEntries_38 : decode cX7_allEntries 38 = .ok (.goto 4, 3) := by decide +kernel
theorem dX7_allEntries_41 : decode cX7_allEntries 41 = .ok (.iconst 0, 1) := by decide +kernel
theorem dX7_allEntries_42 : decode cX7_allEntries 42 = .ok (.invokevirtual 78, 3) := by decide +kernel
theorem dX7_allEntries_45 : decode cX7_allEntries 45 = .ok (.iadd, 1) := by decide +kernel
theorem dX7_allEntries_46 : decode cX7_allEntries 46 = .ok (.istore_n 2, 1) := by decide +kernel
theorem dX7_allEntries_47 : decode cX7_allEntries 47 = .ok (.iinc 4 1, 3) := by decide +kernel
theorem dX7_allEntries_50 : decode cX7_allEntries 50 = .ok (.goto (-37), 3) := by decide +kernel
theorem dX7_allEntries_53 : decode cX7_allEntries 53 = .ok (.iinc 3 1, 3) := by decide +kernel
theorem dX7_allEntries_56 : decode cX7_allEntries 56 = .ok (.goto (-52), 3) := by decide +kernel
theorem dX7_allEntries_59 : decode cX7_allEntries 59 = .ok (.iload_n 2, 1) := by decide +kernel
theorem dX7_allEntries_60 : decode cX7_allEntries 60 = .ok (.ireturn, 1) := by decide +kernel
theorem dX7_twins_0 : decode cX7_twins 0 = .ok (.iconst 0, 1) := by decide +kernel
theorem dX7_twins_1 : decode cX7_twins 1 = .ok (.istore_n 1, 1) := by decide +kernel
theorem dX7_twins_2 : decode cX7_twins 2 = .ok (.iconst 0, 1) := by decide +kernel
theorem dX7_twins_3 : decode cX7_twins 3 = .ok (.istore_n 2, 1) := by decide +kernel
theorem dX7_twins_4 : decode cX7_twins 4 = .ok (.iload_n 2, 1) := by decide +kernel
theorem dX7_twins_5 : decode cX7_twins 5 = .ok (.bipush 6, 2) := by decide +kernel
theorem dX7_twins_7 : decode cX7_twins 7 = .ok (.if_icmp .ge 56, 3) := by decide +kernel
theorem dX7_twins_10 : decode cX7_twins 10 = .ok (.iconst 0, 1) := by decide +kernel
theorem dX7_twins_11 : decode cX7_twins 11 = .ok (.istore_n 3, 1) := by decide +kernel
theorem dX7_twins_12 : decode cX7_twins 12 = .ok (.iconst 0, 1) := by decide +kernel
theorem dX7_twins_13 : decode cX7_twins 13 = .ok (.istore 4, 2) := by decide +kernel
theorem dX7_twins_15 : decode cX7_twins 15 = .ok (.iload 4, 2) := by decide +kernel
theorem dX7_twins_17 : decode cX7_twins 17 = .ok (.iload_n 2, 1) := by decide +kernel
theorem dX7_twins_18 : decode cX7_twins 18 = .ok (.if_icmp .ge 27, 3) := by decide +kernel
theorem dX7_twins_21 : decode cX7_twins 21 = .ok (.iload_n 3, 1) := by decide +kernel
theorem dX7_twins_22 : decode cX7_twins 22 = .ok (.aload_n 0, 1) := by decide +kernel
theorem dX7_twins_23 : decode cX7_twins 23 = .ok (.iload_n 2, 1) := by decide +kernel
theorem dX7_twins_24 : decode cX7_twins 24 = .ok (.iload 4, 2) := by decide +kernel
theorem dX7_twins_26 : decode cX7_twins 26 = .ok (.invokevirtual 206, 3) := by decide +kernel
theorem dX7_twins_29 : decode cX7_twins 29 = .ok (.ifCond .ne 7, 3) := by decide +kernel
theorem dX7_twins_32 : decode cX7_twins 32 = .ok (.iconst 1, 1) := by decide +kernel
theorem dX7_twins_33 : decode cX7_twins 33 = .ok (.goto 4, 3) := by decide +kernel
theorem dX7_twins_36 : decode cX7_twins 36 = .ok (.iconst 0, 1) := by decide +kernel
theorem dX7_twins_37 : decode cX7_twins 37 = .ok (.ior, 1) := by decide +kernel
theorem dX7_twins_38 : decode cX7_twins 38 = .ok (.istore_n 3, 1) := by decide +kernel
theorem dX7_twins_39 : decode cX7_twins 39 = .ok (.iinc 4 1, 3) := by decide +kernel
theorem dX7_twins_42 : decode cX7_twins 42 = .ok (.goto (-27), 3) := by decide +kernel
theorem dX7_twins_45 : decode cX7_twins 45 = .ok (.iload_n 1, 1) := by decide +kernel
theorem dX7_twins_46 : decode cX7_twins 46 = .ok (.iload_n 3, 1) := by decide +kernel
theorem dX7_twins_47 : decode cX7_twins 47 = .ok (.ifCond .eq 7, 3) := by decide +kernel
theorem dX7_twins_50 : decode cX7_twins 50 = .ok (.iconst 1, 1) := by decide +kernel
theorem dX7_twins_51 : decode cX7_twins 51 = .ok (.goto 4, 3) := by decide +kernel
theorem dX7_twins_54 : decode cX7_twins 54 = .ok (.iconst 0, 1) := by decide +kernel
theorem dX7_twins_55 : decode cX7_twins 55 = .ok (.iadd, 1) := by decide +kernel
theorem dX7_twins_56 : decode cX7_twins 56 = .ok (.istore_n 1, 1) := by decide +kernel
theorem dX7_twins_57 : decode cX7_twins 57 = .ok (.iinc 2 1, 3) := by decide +kernel
theorem dX7_twins_60 : decode cX7_twins 60 = .ok (.goto (-56), 3) := by decide +kernel
theorem dX7_twins_63 : decode cX7_twins 63 = .ok (.iload_n 1, 1) := by decide +kernel
theorem dX7_twins_64 : decode cX7_twins 64 = .ok (.ireturn, 1) := by decide +kernel
theorem dX7_count_0 : decode cX7_count 0 = .ok (.iload_n 1, 1) := by decide +kernel
theorem dX7_count_1 : decode cX7_count 1 = .ok (.tableswitch 84 0 6 #[43, 52, 57, 63, 69, 74, 79], 43) := by decide +kernel
theorem dX7_count_44 : decode cX7_count 44 = .ok (.aload_n 0, 1) := by decide +kernel
theorem dX7_count_45 : decode cX7_count 45 = .ok (.getfield 7, 3) := by decide +kernel
theorem dX7_count_48 : decode cX7_count 48 = .ok (.sipush 414, 3) := by decide +kernel
theorem dX7_count_51 : decode cX7_count 51 = .ok (.iaload, 1) := by decide +kernel
theorem dX7_count_52 : decode cX7_count 52 = .ok (.ireturn, 1) := by decide +kernel
theorem dX7_count_53 : decode cX7_count 53 = .ok (.aload_n 0, 1) := by decide +kernel
theorem dX7_count_54 : decode cX7_count 54 = .ok (.invokevirtual 180, 3) := by decide +kernel
theorem dX7_count_57 : decode cX7_count 57 = .ok (.ireturn, 1) := by decide +kernel
theorem dX7_count_58 : decode cX7_count 58 = .ok (.aload_n 0, 1) := by decide +kernel
theorem dX7_count_59 : decode cX7_count 59 = .ok (.iconst 0, 1) := by decide +kernel
theorem dX7_count_60 : decode cX7_count 60 = .ok (.invokevirtual 216, 3) := by decide +kernel
theorem dX7_count_63 : decode cX7_count 63 = .ok (.ireturn, 1) := by decide +kernel
theorem dX7_count_64 : decode cX7_count 64 = .ok (.aload_n 0, 1) := by decide +kernel
theorem dX7_count_65 : decode cX7_count 65 = .ok (.iconst 1, 1) := by decide +kernel
theorem dX7_count_66 : decode cX7_count 66 = .ok (.invokevirtual 216, 3) := by decide +kernel
theorem dX7_count_69 : decode cX7_count 69 = .ok (.ireturn, 1) := by decide +kernel
theorem dX7_count_70 : decode cX7_count 70 = .ok (.aload_n 0, 1) := by decide +kernel
theorem dX7_count_71 : decode cX7_count 71 = .ok (.invokevirtual 220, 3) := by decide +kernel
theorem dX7_count_74 : decode cX7_count 74 = .ok (.ireturn, 1) := by decide +kernel
theorem dX7_count_75 : decode cX7_count 75 = .ok (.aload_n 0, 1) := by decide +kernel
theorem dX7_count_76 : decode cX7_count 76 = .ok (.getfield 59, 3) := by decide +kernel
theorem dX7_count_79 : decode cX7_count 79 = .ok (.ireturn, 1) := by decide +kernel
theorem dX7_count_80 : decode cX7_count 80 = .ok (.aload_n 0, 1) := by decide +kernel
theorem dX7_count_81 : decode cX7_count 81 = .ok (.getfield 131, 3) := by decide +kernel
theorem dX7_count_84 : decode cX7_count 84 = .ok (.ireturn, 1) := by decide +kernel
theorem dX7_count_85 : decode cX7_count 85 = .ok (.bipush (-2), 2) := by decide +kernel
theorem dX7_count_87 : decode cX7_count 87 = .ok (.ireturn, 1) := by decide +kernel
theorem dL_law_0 : decode cL_law 0 = .ok (.new 7, 3) := by decide +kernel
theorem dL_law_3 : decode cL_law 3 = .ok (.dup, 1) := by decide +kernel
theorem dL_law_4 : decode cL_law 4 = .ok (.invokespecial 9, 3) := by decide +kernel
theorem dL_law_7 : decode cL_law 7 = .ok (.astore_n 1, 1) := by decide +kernel
theorem dL_law_8 : decode cL_law 8 = .ok (.new 10, 3) := by decide +kernel
theorem dL_law_11 : decode cL_law 11 = .ok (.dup, 1) := by decide +kernel
theorem dL_law_12 : decode cL_law 12 = .ok (.invokespecial 12, 3) := by decide +kernel
theorem dL_law_15 : decode cL_law 15 = .ok (.astore_n 2, 1) := by decide +kernel
theorem dL_law_16 : decode cL_law 16 = .ok (.iconst 0, 1) := by decide +kernel
theorem dL_law_17 : decode cL_law 17 = .ok (.istore_n 3, 1) := by decide +kernel
theorem dL_law_18 : decode cL_law 18 = .ok (.iload_n 3, 1) := by decide +kernel
theorem dL_law_19 : decode cL_law 19 = .ok (.aload_n 0, 1) := by decide +kernel
theorem dL_law_20 : decode cL_law 20 = .ok (.arraylength, 1) := by decide +kernel
theorem dL_law_21 : decode cL_law 21 = .ok (.iconst 5, 1) := by decide +kernel
theorem dL_law_22 : decode cL_law 22 = .ok (.isub, 1) := by decide +kernel
theorem dL_law_23 : decode cL_law 23 = .ok (.if_icmp .gt 965, 3) := by decide +kernel
theorem dL_law_26 : decode cL_law 26 = .ok (.aload_n 0, 1) := by decide +kernel
theorem dL_law_27 : decode cL_law 27 = .ok (.iload_n 3, 1) := by decide +kernel
theorem dL_law_28 : decode cL_law 28 = .ok (.iaload, 1) := by decide +kernel
theorem dL_law_29 : decode cL_law 29 = .ok (.bipush 31, 2) := by decide +kernel
theorem dL_law_31 : decode cL_law 31 = .ok (.iand, 1) := by decide +kernel
theorem dL_law_32 : decode cL_law 32 = .ok (.tableswitch 950 0 27 #[128, 151, 174, 233, 276, 329, 352, 365, 388, 421, 444, 469, 482, 495, 508, 521, 554, 587, 620, 663, 706, 749, 792, 815, 848, 871, 894, 927], 128) := by decide +kernel
theorem dL_law_160 : decode cL_law 160 = .ok (.aload_n 1, 1) := by decide +kernel
theorem dL_law_161 : decode cL_law 161 = .ok (.aload_n 0, 1) := by decide +kernel
theorem dL_law_162 : decode cL_law 162 = .ok (.iload_n 3, 1) := by decide +kernel
theorem dL_law_163 : decode cL_law 163 = .ok (.iconst 1, 1) := by decide +kernel
theorem dL_law_164 : decode cL_law 164 = .ok (.iadd, 1) := by decide +kernel
theorem dL_law_165 : decode cL_law 165 = .ok (.iaload, 1) := by decide +kernel
theorem dL_law_166 : decode cL_law 166 = .ok (.invokevirtual 13, 3) := by decide +kernel
theorem dL_law_169 : decode cL_law 169 = .ok (.aload_n 2, 1) := by decide +kernel
theorem dL_law_170 : decode cL_law 170 = .ok (.aload_n 0, 1) := by decide +kernel
theorem dL_law_171 : decode cL_law 171 = .ok (.iload_n 3, 1) := by decide +kernel
theorem dL_law_172 : decode cL_law 172 = .ok (.iconst 1, 1) := by decide +kernel
theorem dL_law_173 : decode cL_law 173 = .ok (.iadd, 1) := by decide +kernel
theorem dL_law_174 : decode cL_law 174 = .ok (.iaload, 1) := by decide +kernel
theorem dL_law_175 : decode cL_law 175 = .ok (.invokevirtual 17, 3) := by decide +kernel
theorem dL_law_178 : decode cL_law 178 = .ok (.if_icmp .eq 804, 3) := by decide +kernel
theorem dL_law_181 : decode cL_law 181 = .ok (.iconst 0, 1) := by decide +kernel
theorem dL_law_182 : decode cL_law 182 = .ok (.ireturn, 1) := by decide +kernel
theorem dL_law_183 : decode cL_law 183 = .ok (.aload_n 1, 1) := by decide +kernel
theorem dL_law_184 : decode cL_law 184 = .ok (.aload_n 0, 1) := by decide +kernel
theorem dL_law_185 : decode cL_law 185 = .ok (.iload_n 3, 1) := by decide +kernel
theorem dL_law_186 : decode cL_law 186 = .ok (.iconst 1, 1) := by decide +kernel
theorem dL_law_187 : decode cL_law 187 = .ok (.iadd, 1) := by decide +kernel
theorem dL_law_188 : decode cL_law 188 = .ok (.iaload, 1) := by decide +kernel
theorem dL_law_189 : decode cL_law 189 = .ok (.invokevirtual 18, 3) := by decide +kernel
theorem dL_law_192 : decode cL_law 192 = .ok (.aload_n 2, 1) := by decide +kernel
theorem dL_law_193 : decode cL_law 193 = .ok (.aload_n 0, 1) := by decide +kernel
theorem dL_law_194 : decode cL_law 194 = .ok (.iload_n 3, 1) := by decide +kernel
theorem dL_law_195 : decode cL_law 195 = .ok (.iconst 1, 1) := by decide +kernel
theorem dL_law_196 : decode cL_law 196 = .ok (.iadd, 1) := by decide +kernel
theorem dL_law_197 : decode cL_law 197 = .ok (.iaload, 1) := by decide +kernel
theorem dL_law_198 : decode cL_law 198 = .ok (.invokevirtual 21, 3) := by decide +kernel
theorem dL_law_201 : decode cL_law 201 = .ok (.if_icmp .eq 781, 3) := by decide +kernel
theorem dL_law_204 : decode cL_law 204 = .ok (.iconst 0, 1) := by decide +kernel
theorem dL_law_205 : decode cL_law 205 = .ok (.ireturn, 1) := by decide +kernel
theorem dL_law_206 : decode cL_law 206 = .ok (.aload_n 1, 1) := by decide +kernel
theorem dL_law_207 : decode cL_law 207 = .ok (.aload_n 0, 1) := by decide +kernel
theorem dL_law_208 : decode cL_law 208 = .ok (.iload_n 3, 1) := by decide +kernel
theorem dL_law_209 : decode cL_law 209 = .ok (.iconst 1, 1) := by decide +kernel
theorem dL_law_210 : decode cL_law 210 = .ok (.iadd, 1) := by decide +kernel
theorem dL_law_211 : decode cL_law 211 = .ok (.iaload, 1) := by decide +kernel
theorem dL_law_212 : decode cL_law 212 = .ok (.aload_n 0, 1) := by decide +kernel
theorem dL_law_213 : decode cL_law 213 = .ok (.iload_n 3, 1) := by decide +kernel
theorem dL_law_214 : decode cL_law 214 = .ok (.iconst 2, 1) := by decide +kernel
theorem dL_law_215 : decode cL_law 215 = .ok (.iadd, 1) := by decide +kernel
theorem dL_law_216 : decode cL_law 216 = .ok (.iaload, 1) := by decide +kernel
theorem dL_law_217 : decode cL_law 217 = .ok (.aload_n 0, 1) := by decide +kernel
theorem dL_law_218 : decode cL_law 218 = .ok (.iload_n 3, 1) := by decide +kernel
theorem dL_law_219 : decode cL_law 219 = .ok (.iconst 3, 1) := by decide +kernel
theorem dL_law_220 : decode cL_law 220 = .ok (.iadd, 1) := by decide +kernel
theorem dL_law_221 : decode cL_law 221 = .ok (.iaload, 1) := by decide +kernel
theorem dL_law_222 : decode cL_law 222 = .ok (.ifCond .eq 7, 3) := by decide +kernel
theorem dL_law_225 : decode cL_law 225 = .ok (.iconst 1, 1) := by decide +kernel
theorem dL_law_226 : decode cL_law 226 = .ok (.goto 4, 3) := by decide +kernel
theorem dL_law_229 : decode cL_law 229 = .ok (.iconst 0, 1) := by decide +kernel
theorem dL_law_230 : decode cL_law 230 = .ok (.invokevirtual 22, 3) := by decide +kernel
theorem dL_law_233 : decode cL_law 233 = .ok (.aload_n 2, 1) := by decide +kernel
theorem dL_law_234 : decode cL_law 234 = .ok (.aload_n 0, 1) := by decide +kernel
theorem dL_law_235 : decode cL_law 235 = .ok (.iload_n 3, 1) := by decide +kernel
theorem dL_law_236 : decode cL_law 236 = .ok (.iconst 1, 1) := by decide +kernel
theorem dL_law_237 : decode cL_law 237 = .ok (.iadd, 1) := by decide +kernel
theorem dL_law_238 : decode cL_law 238 = .ok (.iaload, 1) := by decide +kernel
theorem dL_law_239 : decode cL_law 239 = .ok (.aload_n 0, 1) := by decide +kernel
theorem dL_law_240 : decode cL_law 240 = .ok (.iload_n 3, 1) := by decide +kernel
theorem dL_law_241 : decode cL_law 241 = .ok (.iconst 2, 1) := by decide +kernel
theorem dL_law_242 : decode cL_law 242 = .ok (.iadd, 1) := by decide +kernel
theorem dL_law_243 : decode cL_law 243 = .ok (.iaload, 1) := by decide +kernel
theorem dL_law_244 : decode cL_law 244 = .ok (.aload_n 0, 1) := by decide +kernel
theorem dL_law_245 : decode cL_law 245 = .ok (.iload_n 3, 1) := by decide +kernel
theorem dL_law_246 : decode cL_law 246 = .ok (.iconst 3, 1) := by decide +kernel
theorem dL_law_247 : decode cL_law 247 = .ok (.iadd, 1) := by decide +kernel
theorem dL_law_248 : decode cL_law 248 = .ok (.iaload, 1) := by decide +kernel
theorem dL_law_249 : decode cL_law 249 = .ok (.ifCond .eq 7, 3) := by decide +kernel
theorem dL_law_252 : decode cL_law 252 = .ok (.iconst 1, 1) := by decide +kernel
theorem dL_law_253 : decode cL_law 253 = .ok (.goto 4, 3) := by decide +kernel
theorem dL_law_256 : decode cL_law 256 = .ok (.iconst 0, 1) := by decide +kernel
theorem dL_law_257 : decode cL_law 257 = .ok (.invokevirtual 26, 3) := by decide +kernel
theorem dL_law_260 : decode cL_law 260 = .ok (.if_icmp .eq 722, 3) := by decide +kernel
theorem dL_law_263 : decode cL_law 263 = .ok (.iconst 0, 1) := by decide +kernel
theorem dL_law_264 : decode cL_law 264 = .ok (.ireturn, 1) := by decide +kernel
theorem dL_law_265 : decode cL_law 265 = .ok (.aload_n 1, 1) := by decide +kernel
theorem dL_law_266 : decode cL_law 266 = .ok (.aload_n 0, 1) := by decide +kernel
theorem dL_law_267 : decode cL_law 267 = .ok (.iload_n 3, 1) := by decide +kernel
theorem dL_law_268 : decode cL_law 268 = .ok (.iconst 1, 1) := by decide +kernel
theorem dL_law_269 : decode cL_law 269 = .ok (.iadd, 1) := by decide +kernel
theorem dL_law_270 : decode cL_law 270 = .ok (.iaload, 1) := by decide +kernel
theorem dL_law_271 : decode cL_law 271 = .ok (.aload_n 0, 1) := by decide +kernel
theorem dL_law_272 : decode cL_law 272 = .ok (.iload_n 3, 1) := by decide +kernel
theorem dL_law_273 : decode cL_law 273 = .ok (.iconst 2, 1) := by decide +kernel
theorem dL_law_274 : decode cL_law 274 = .ok (.iadd, 1) := by decide +kernel
theorem dL_law_275 : decode cL_law 275 = .ok (.iaload, 1) := by decide +kernel
theorem dL_law_276 : decode cL_law 276 = .ok (.aload_n 0, 1) := by decide +kernel
theorem dL_law_277 : decode cL_law 277 = .ok (.iload_n 3, 1) := by decide +kernel
theorem dL_law_278 : decode cL_law 278 = .ok (.iconst 3, 1) := by decide +kernel
theorem dL_law_279 : decode cL_law 279 = .ok (.iadd, 1) := by decide +kernel
theorem dL_law_280 : decode cL_law 280 = .ok (.iaload, 1) := by decide +kernel
theorem dL_law_281 : decode cL_law 281 = .ok (.invokevirtual 27, 3) := by decide +kernel
theorem dL_law_284 : decode cL_law 284 = .ok (.aload_n 2, 1) := by decide +kernel
theorem dL_law_285 : decode cL_law 285 = .ok (.aload_n 0, 1) := by decide +kernel
theorem dL_law_286 : decode cL_law 286 = .ok (.iload_n 3, 1) := by decide +kernel
theorem dL_law_287 : decode cL_law 287 = .ok (.iconst 1, 1) := by decide +kernel
theorem dL_law_288 : decode cL_law 288 = .ok (.iadd, 1) := by decide +kernel
theorem dL_law_289 : decode cL_law 289 = .ok (.iaload, 1) := by decide +kernel
theorem dL_law_290 : decode cL_law 290 = .ok (.aload_n 0, 1) := by decide +kernel
theorem dL_law_291 : decode cL_law 291 = .ok (.iload_n 3, 1) := by decide +kernel
theorem dL_law_292 : decode cL_law 292 = .ok (.iconst 2, 1) := by decide +kernel
theorem dL_law_293 : decode cL_law 293 = .ok (.iadd, 1) := by decide +kernel
theorem dL_law_294 : decode cL_law 294 = .ok (.iaload, 1) := by decide +kernel
theorem dL_law_295 : decode cL_law 295 = .ok (.aload_n 0, 1) := by decide +kernel
theorem dL_law_296 : decode cL_law 296 = .ok (.iload_n 3, 1) := by decide +kernel
theorem dL_law_297 : decode cL_law 297 = .ok (.iconst 3, 1) := by decide +kernel
theorem dL_law_298 : decode cL_law 298 = .ok (.iadd, 1) := by decide +kernel
theorem dL_law_299 : decode cL_law 299 = .ok (.iaload, 1) := by decide +kernel
theorem dL_law_300 : decode cL_law 300 = .ok (.invokevirtual 31, 3) := by decide +kernel
theorem dL_law_303 : decode cL_law 303 = .ok (.if_icmp .eq 679, 3) := by decide +kernel
theorem dL_law_306 : decode cL_law 306 = .ok (.iconst 0, 1) := by decide +kernel
theorem dL_law_307 : decode cL_law 307 = .ok (.ireturn, 1) := by decide +kernel
theorem dL_law_308 : decode cL_law 308 = .ok (.aload_n 1, 1) := by decide +kernel
theorem dL_law_309 : decode cL_law 309 = .ok (.aload_n 0, 1) := by decide +kernel
theorem dL_law_310 : decode cL_law 310 = .ok (.iload_n 3, 1) := by decide +kernel
theorem dL_law_311 : decode cL_law 311 = .ok (.iconst 1, 1) := by decide +kernel
theorem dL_law_312 : decode cL_law 312 = .ok (.iadd, 1) := by decide +kernel
theorem dL_law_313 : decode cL_law 313 = .ok (.iaload, 1) := by decide +kernel
theorem dL_law_314 : decode cL_law 314 = .ok (.aload_n 0, 1) := by decide +kernel
theorem dL_law_315 : decode cL_law 315 = .ok (.iload_n 3, 1) := by decide +kernel
theorem dL_law_316 : decode cL_law 316 = .ok (.iconst 2, 1) := by decide +kernel
theorem dL_law_317 : decode cL_law 317 = .ok (.iadd, 1) := by decide +kernel
theorem dL_law_318 : decode cL_law 318 = .ok (.iaload, 1) := by decide +kernel
theorem dL_law_319 : decode cL_law 319 = .ok (.aload_n 0, 1) := by decide +kernel
theorem dL_law_320 : decode cL_law 320 = .ok (.iload_n 3, 1) := by decide +kernel
theorem dL_law_321 : decode cL_law 321 = .ok (.iconst 3, 1) := by decide +kernel
theorem dL_law_322 : decode cL_law 322 = .ok (.iadd, 1) := by decide +kernel
theorem dL_law_323 : decode cL_law 323 = .ok (.iaload, 1) := by decide +kernel
theorem dL_law_324 : decode cL_law 324 = .ok (.aload_n 0, 1) := by decide +kernel
theorem dL_law_325 : decode cL_law 325 = .ok (.iload_n 3, 1) := by decide +kernel
theorem dL_law_326 : decode cL_law 326 = .ok (.iconst 4, 1) := by decide +kernel
theorem dL_law_327 : decode cL_law 327 = .ok (.iadd, 1) := by decide +kernel
theorem dL_law_328 : decode cL_law 328 = .ok (.iaload, 1) := by decide +kernel
theorem dL_law_329 : decode cL_law 329 = .ok (.invokevirtual 32, 3) := by decide +kernel
theorem dL_law_332 : decode cL_law 332 = .ok (.aload_n 2, 1) := by decide +kernel
theorem dL_law_333 : decode cL_law 333 = .ok (.aload_n 0, 1) := by decide +kernel
theorem dL_law_334 : decode cL_law 334 = .ok (.iload_n 3, 1) := by decide +kernel
theorem dL_law_335 : decode cL_law 335 = .ok (.iconst 1, 1) := by decide +kernel
theorem dL_law_336 : decode cL_law 336 = .ok (.iadd, 1) := by decide +kernel
theorem dL_law_337 : decode cL_law 337 = .ok (.iaload, 1) := by decide +kernel
theorem dL_law_338 : decode cL_law 338 = .ok (.aload_n 0, 1) := by decide +kernel
theorem dL_law_339 : decode cL_law 339 = .ok (.iload_n 3, 1) := by decide +kernel
theorem dL_law_340 : decode cL_law 340 = .ok (.iconst 2, 1) := by decide +kernel
theorem dL_law_341 : decode cL_law 341 = .ok (.iadd, 1) := by decide +kernel
theorem dL_law_342 : decode cL_law 342 = .ok (.iaload, 1) := by decide +kernel
theorem dL_law_343 : decode cL_law 343 = .ok (.aload_n 0, 1) := by decide +kernel
theorem dL_law_344 : decode cL_law 344 = .ok (.iload_n 3, 1) := by decide +kernel
theorem dL_law_345 : decode cL_law 345 = .ok (.iconst 3, 1) := by decide +kernel
theorem dL_law_346 : decode cL_law 346 = .ok (.iadd, 1) := by decide +kernel
theorem dL_law_347 : decode cL_law 347 = .ok (.iaload, 1) := by decide +kernel
theorem dL_law_348 : decode cL_law 348 = .ok (.aload_n 0, 1) := by decide +kernel
theorem dL_law_349 : decode cL_law 349 = .ok (.iload_n 3, 1) := by decide +kernel
theorem dL_law_350 : decode cL_law 350 = .ok (.iconst 4, 1) := by decide +kernel
theorem dL_law_351 : decode cL_law 351 = .ok (.iadd, 1) := by decide +kernel
theorem dL_law_352 : decode cL_law 352 = .ok (.iaload, 1) := by decide +kernel
theorem dL_law_353 : decode cL_law 353 = .ok (.invokevirtual 36, 3) := by decide +kernel
theorem dL_law_356 : decode cL_law 356 = .ok (.if_icmp .eq 626, 3) := by decide +kernel
theorem dL_law_359 : decode cL_law 359 = .ok (.iconst 0, 1) := by decide +kernel
theorem dL_law_360 : decode cL_law 360 = .ok (.ireturn, 1) := by decide +kernel
theorem dL_law_361 : decode cL_law 361 = .ok (.aload_n 1, 1) := by decide +kernel
theorem dL_law_362 : decode cL_law 362 = .ok (.aload_n 0, 1) := by decide +kernel
theorem dL_law_363 : decode cL_law 363 = .ok (.iload_n 3, 1) := by decide +kernel
theorem dL_law_364 : decode cL_law 364 = .ok (.iconst 1, 1) := by decide +kernel
theorem dL_law_365 : decode cL_law 365 = .ok (.iadd, 1) := by decide +kernel
theorem dL_law_366 : decode cL_law 366 = .ok (.iaload, 1) := by decide +kernel
theorem dL_law_367 : decode cL_law 367 = .ok (.invokevirtual 37, 3) := by decide +kernel
theorem dL_law_370 : decode cL_law 370 = .ok (.aload_n 2, 1) := by decide +kernel
theorem dL_law_371 : decode cL_law 371 = .ok (.aload_n 0, 1) := by decide +kernel
theorem dL_law_372 : decode cL_law 372 = .ok (.iload_n 3, 1) := by decide +kernel
theorem dL_law_373 : decode cL_law 373 = .ok (.iconst 1, 1) := by decide +kernel
theorem dL_law_374 : decode cL_law 374 = .ok (.iadd, 1) := by decide +kernel
theorem dL_law_375 : decode cL_law 375 = .ok (.iaload, 1) := by decide +kernel
theorem dL_law_376 : decode cL_law 376 = .ok (.invokevirtual 40, 3) := by decide +kernel
theorem dL_law_379 : decode cL_law 379 = .ok (.if_icmp .eq 603, 3) := by decide +kernel
theorem dL_law_382 : decode cL_law 382 = .ok (.iconst 0, 1) := by decide +kernel
theorem dL_law_383 : decode cL_law 383 = .ok (.ireturn, 1) := by decide +kernel
theorem dL_law_384 : decode cL_law 384 = .ok (.aload_n 1, 1) := by decide +kernel
theorem dL_law_385 : decode cL_law 385 = .ok (.invokevirtual 41, 3) := by decide +kernel
theorem dL_law_388 : decode cL_law 388 = .ok (.aload_n 2, 1) := by decide +kernel
theorem dL_law_389 : decode cL_law 389 = .ok (.invokevirtual 45, 3) := by decide +kernel
theorem dL_law_392 : decode cL_law 392 = .ok (.if_icmp .eq 590, 3) := by decide +kernel
theorem dL_law_395 : decode cL_law 395 = .ok (.iconst 0, 1) := by decide +kernel
theorem dL_law_396 : decode cL_law 396 = .ok (.ireturn, 1) := by decide +kernel
theorem dL_law_397 : decode cL_law 397 = .ok (.aload_n 1, 1) := by decide +kernel
theorem dL_law_398 : decode cL_law 398 = .ok (.aload_n 0, 1) := by decide +kernel
theorem dL_law_399 : decode cL_law 399 = .ok (.iload_n 3, 1) := by decide +kernel
theorem dL_law_400 : decode cL_law 400 = .ok (.iconst 1, 1) := by decide +kernel
theorem dL_law_401 : decode cL_law 401 = .ok (.iadd, 1) := by decide +kernel
theorem dL_law_402 : decode cL_law 402 = .ok (.iaload, 1) := by decide +kernel
theorem dL_law_403 : decode cL_law 403 = .ok (.invokevirtual 46, 3) := by decide +kernel
theorem dL_law_406 : decode cL_law 406 = .ok (.aload_n 2, 1) := by decide +kernel
theorem dL_law_407 : decode cL_law 407 = .ok (.aload_n 0, 1) := by decide +kernel
theorem dL_law_408 : decode cL_law 408 = .ok (.iload_n 3, 1) := by decide +kernel
theorem dL_law_409 : decode cL_law 409 = .ok (.iconst 1, 1) := by decide +kernel
theorem dL_law_410 : decode cL_law 410 = .ok (.iadd, 1) := by decide +kernel
theorem dL_law_411 : decode cL_law 411 = .ok (.iaload, 1) := by decide +kernel
theorem dL_law_412 : decode cL_law 412 = .ok (.invokevirtual 49, 3) := by decide +kernel
theorem dL_law_415 : decode cL_law 415 = .ok (.if_icmp .eq 567, 3) := by decide +kernel
theorem dL_law_418 : decode cL_law 418 = .ok (.iconst 0, 1) := by decide +kernel
theorem dL_law_419 : decode cL_law 419 = .ok (.ireturn, 1) := by decide +kernel
theorem dL_law_420 : decode cL_law 420 = .ok (.aload_n 1, 1) := by decide +kernel
theorem dL_law_421 : decode cL_law 421 = .ok (.aload_n 0, 1) := by decide +kernel
theorem dL_law_422 : decode cL_law 422 = .ok (.iload_n 3, 1) := by decide +kernel
theorem dL_law_423 : decode cL_law 423 = .ok (.iconst 1, 1) := by decide +kernel
theorem dL_law_424 : decode cL_law 424 = .ok (.iadd, 1) := by decide +kernel
theorem dL_law_425 : decode cL_law 425 = .ok (.iaload, 1) := by decide +kernel
theorem dL_law_426 : decode cL_law 426 = .ok (.aload_n 0, 1) := by decide +kernel
theorem dL_law_427 : decode cL_law 427 = .ok (.iload_n 3, 1) := by decide +kernel
theorem dL_law_428 : decode cL_law 428 = .ok (.iconst 2, 1) := by decide +kernel
theorem dL_law_429 : decode cL_law 429 = .ok (.iadd, 1) := by decide +kernel
theorem dL_law_430 : decode cL_law 430 = .ok (.iaload, 1) := by decide +kernel
theorem dL_law_431 : decode cL_law 431 = .ok (.invokevirtual 50, 3) := by decide +kernel
theorem dL_law_434 : decode cL_law 434 = .ok (.aload_n 2, 1) := by decide +kernel
theorem dL_law_435 : decode cL_law 435 = .ok (.aload_n 0, 1) := by decide +kernel
theorem dL_law_436 : decode cL_law 436 = .ok (.iload_n 3, 1) := by decide +kernel
theorem dL_law_437 : decode cL_law 437 = .ok (.iconst 1, 1) := by decide +kernel
theorem dL_law_438 : decode cL_law 438 = .ok (.iadd, 1) := by decide +kernel
theorem dL_law_439 : decode cL_law 439 = .ok (.iaload, 1) := by decide +kernel
theorem dL_law_440 : decode cL_law 440 = .ok (.aload_n 0, 1) := by decide +kernel
theorem dL_law_441 : decode cL_law 441 = .ok (.iload_n 3, 1) := by decide +kernel
theorem dL_law_442 : decode cL_law 442 = .ok (.iconst 2, 1) := by decide +kernel
theorem dL_law_443 : decode cL_law 443 = .ok (.iadd, 1) := by decide +kernel
theorem dL_law_444 : decode cL_law 444 = .ok (.iaload, 1) := by decide +kernel
theorem dL_law_445 : decode cL_law 445 = .ok (.invokevirtual 54, 3) := by decide +kernel
theorem dL_law_448 : decode cL_law 448 = .ok (.if_icmp .eq 534, 3) := by decide +kernel
theorem dL_law_451 : decode cL_law 451 = .ok (.iconst 0, 1) := by decide +kernel
theorem dL_law_452 : decode cL_law 452 = .ok (.ireturn, 1) := by decide +kernel
theorem dL_law_453 : decode cL_law 453 = .ok (.aload_n 1, 1) := by decide +kernel
theorem dL_law_454 : decode cL_law 454 = .ok (.aload_n 0, 1) := by decide +kernel
theorem dL_law_455 : decode cL_law 455 = .ok (.iload_n 3, 1) := by decide +kernel
theorem dL_law_456 : decode cL_law 456 = .ok (.iconst 1, 1) := by decide +kernel
theorem dL_law_457 : decode cL_law 457 = .ok (.iadd, 1) := by decide +kernel
theorem dL_law_458 : decode cL_law 458 = .ok (.iaload, 1) := by decide +kernel
theorem dL_law_459 : decode cL_law 459 = .ok (.invokevirtual 55, 3) := by decide +kernel
theorem dL_law_462 : decode cL_law 462 = .ok (.aload_n 2, 1) := by decide +kernel
theorem dL_law_463 : decode cL_law 463 = .ok (.aload_n 0, 1) := by decide +kernel
theorem dL_law_464 : decode cL_law 464 = .ok (.iload_n 3, 1) := by decide +kernel
theorem dL_law_465 : decode cL_law 465 = .ok (.iconst 1, 1) := by decide +kernel
theorem dL_law_466 : decode cL_law 466 = .ok (.iadd, 1) := by decide +kernel
theorem dL_law_467 : decode cL_law 467 = .ok (.iaload, 1) := by decide +kernel
theorem dL_law_468 : decode cL_law 468 = .ok (.invokevirtual 58, 3) := by decide +kernel
theorem dL_law_471 : decode cL_law 471 = .ok (.if_icmp .eq 511, 3) := by decide +kernel
theorem dL_law_474 : decode cL_law 474 = .ok (.iconst 0, 1) := by decide +kernel
theorem dL_law_475 : decode cL_law 475 = .ok (.ireturn, 1) := by decide +kernel
theorem dL_law_476 : decode cL_law 476 = .ok (.aload_n 1, 1) := by decide +kernel
theorem dL_law_477 : decode cL_law 477 = .ok (.aload_n 0, 1) := by decide +kernel
theorem dL_law_478 : decode cL_law 478 = .ok (.iload_n 3, 1) := by decide +kernel
theorem dL_law_479 : decode cL_law 479 = .ok (.iconst 1, 1) := by decide +kernel
theorem dL_law_480 : decode cL_law 480 = .ok (.iadd, 1) := by decide +kernel
theorem dL_law_481 : decode cL_law 481 = .ok (.iaload, 1) := by decide +kernel
theorem dL_law_482 : decode cL_law 482 = .ok (.i2c, 1) := by decide +kernel
theorem dL_law_483 : decode cL_law 483 = .ok (.invokevirtual 59, 3) := by decide +kernel
theorem dL_law_486 : decode cL_law 486 = .ok (.aload_n 2, 1) := by decide +kernel
theorem dL_law_487 : decode cL_law 487 = .ok (.aload_n 0, 1) := by decide +kernel
theorem dL_law_488 : decode cL_law 488 = .ok (.iload_n 3, 1) := by decide +kernel
theorem dL_law_489 : decode cL_law 489 = .ok (.iconst 1, 1) := by decide +kernel
theorem dL_law_490 : decode cL_law 490 = .ok (.iadd, 1) := by decide +kernel
theorem dL_law_491 : decode cL_law 491 = .ok (.iaload, 1) := by decide +kernel
theorem dL_law_492 : decode cL_law 492 = .ok (.i2c, 1) := by decide +kernel
theorem dL_law_493 : decode cL_law 493 = .ok (.invokevirtual 63, 3) := by decide +kernel
theorem dL_law_496 : decode cL_law 496 = .ok (.if_icmp .eq 486, 3) := by decide +kernel
theorem dL_law_499 : decode cL_law 499 = .ok (.iconst 0, 1) := by decide +kernel
theorem dL_law_500 : decode cL_law 500 = .ok (.ireturn, 1) := by decide +kernel
theorem dL_law_501 : decode cL_law 501 = .ok (.aload_n 1, 1) := by decide +kernel
theorem dL_law_502 : decode cL_law 502 = .ok (.invokevirtual 64, 3) := by decide +kernel
theorem dL_law_505 : decode cL_law 505 = .ok (.aload_n 2, 1) := by decide +kernel
theorem dL_law_506 : decode cL_law 506 = .ok (.invokevirtual 67, 3) := by decide +kernel
theorem dL_law_509 : decode cL_law 509 = .ok (.if_icmp .eq 473, 3) := by decide +kernel
theorem dL_law_512 : decode cL_law 512 = .ok (.iconst 0, 1) := by decide +kernel
theorem dL_law_513 : decode cL_law 513 = .ok (.ireturn, 1) := by decide +kernel
theorem dL_law_514 : decode cL_law 514 = .ok (.aload_n 1, 1) := by decide +kernel
theorem dL_law_515 : decode cL_law 515 = .ok (.invokevirtual 68, 3) := by decide +kernel
theorem dL_law_518 : decode cL_law 518 = .ok (.aload_n 2, 1) := by decide +kernel
theorem dL_law_519 : decode cL_law 519 = .ok (.invokevirtual 71, 3) := by decide +kernel
theorem dL_law_522 : decode cL_law 522 = .ok (.if_icmp .eq 460, 3) := by decide +kernel
theorem dL_law_525 : decode cL_law 525 = .ok (.iconst 0, 1) := by decide +kernel
theorem dL_law_526 : decode cL_law 526 = .ok (.ireturn, 1) := by decide +kernel
theorem dL_law_527 : decode cL_law 527 = .ok (.aload_n 1, 1) := by decide +kernel
theorem dL_law_528 : decode cL_law 528 = .ok (.invokevirtual 72, 3) := by decide +kernel
theorem dL_law_531 : decode cL_law 531 = .ok (.aload_n 2, 1) := by decide +kernel
theorem dL_law_532 : decode cL_law 532 = .ok (.invokevirtual 75, 3) := by decide +kernel
theorem dL_law_535 : decode cL_law 535 = .ok (.if_icmp .eq 447, 3) := by decide +kernel
theorem dL_law_538 : decode cL_law 538 = .ok (.iconst 0, 1) := by decide +kernel
theorem dL_law_539 : decode cL_law 539 = .ok (.ireturn, 1) := by decide +kernel
theorem dL_law_540 : decode cL_law 540 = .ok (.aload_n 1, 1) := by decide +kernel
theorem dL_law_541 : decode cL_law 541 = .ok (.invokevirtual 76, 3) := by decide +kernel
theorem dL_law_544 : decode cL_law 544 = .ok (.aload_n 2, 1) := by decide +kernel
theorem dL_law_545 : decode cL_law 545 = .ok (.invokevirtual 79, 3) := by decide +kernel
theorem dL_law_548 : decode cL_law 548 = .ok (.if_icmp .eq 434, 3) := by decide +kernel
theorem dL_law_551 : decode cL_law 551 = .ok (.iconst 0, 1) := by decide +kernel
theorem dL_law_552 : decode cL_law 552 = .ok (.ireturn, 1) := by decide +kernel
theorem dL_law_553 : decode cL_law 553 = .ok (.aload_n 1, 1) := by decide +kernel
theorem dL_law_554 : decode cL_law 554 = .ok (.aload_n 0, 1) := by decide +kernel
theorem dL_law_555 : decode cL_law 555 = .ok (.iload_n 3, 1) := by decide +kernel
theorem dL_law_556 : decode cL_law 556 = .ok (.iconst 1, 1) := by decide +kernel
theorem dL_law_557 : decode cL_law 557 = .ok (.iadd, 1) := by decide +kernel
theorem dL_law_558 : decode cL_law 558 = .ok (.iaload, 1) := by decide +kernel
theorem dL_law_559 : decode cL_law 559 = .ok (.aload_n 0, 1) := by decide +kernel
theorem dL_law_560 : decode cL_law 560 = .ok (.iload_n 3, 1) := by decide +kernel
theorem dL_law_561 : decode cL_law 561 = .ok (.iconst 2, 1) := by decide +kernel
theorem dL_law_562 : decode cL_law 562 = .ok (.iadd, 1) := by decide +kernel
theorem dL_law_563 : decode cL_law 563 = .ok (.iaload, 1) := by decide +kernel
theorem dL_law_564 : decode cL_law 564 = .ok (.invokevirtual 80, 3) := by decide +kernel
theorem dL_law_567 : decode cL_law 567 = .ok (.aload_n 2, 1) := by decide +kernel
theorem dL_law_568 : decode cL_law 568 = .ok (.aload_n 0, 1) := by decide +kernel
theorem dL_law_569 : decode cL_law 569 = .ok (.iload_n 3, 1) := by decide +kernel
theorem dL_law_570 : decode cL_law 570 = .ok (.iconst 1, 1) := by decide +kernel
theorem dL_law_571 : decode cL_law 571 = .ok (.iadd, 1) := by decide +kernel
theorem dL_law_572 : decode cL_law 572 = .ok (.iaload, 1) := by decide +kernel
theorem dL_law_573 : decode cL_law 573 = .ok (.aload_n 0, 1) := by decide +kernel
theorem dL_law_574 : decode cL_law 574 = .ok (.iload_n 3, 1) := by decide +kernel
theorem dL_law_575 : decode cL_law 575 = .ok (.iconst 2, 1) := by decide +kernel
theorem dL_law_576 : decode cL_law 576 = .ok (.iadd, 1) := by decide +kernel
theorem dL_law_577 : decode cL_law 577 = .ok (.iaload, 1) := by decide +kernel
theorem dL_law_578 : decode cL_law 578 = .ok (.invokevirtual 83, 3) := by decide +kernel
theorem dL_law_581 : decode cL_law 581 = .ok (.if_icmp .eq 401, 3) := by decide +kernel
theorem dL_law_584 : decode cL_law 584 = .ok (.iconst 0, 1) := by decide +kernel
theorem dL_law_585 : decode cL_law 585 = .ok (.ireturn, 1) := by decide +kernel
theorem dL_law_586 : decode cL_law 586 = .ok (.aload_n 1, 1) := by decide +kernel
theorem dL_law_587 : decode cL_law 587 = .ok (.aload_n 0, 1) := by decide +kernel
theorem dL_law_588 : decode cL_law 588 = .ok (.iload_n 3, 1) := by decide +kernel
theorem dL_law_589 : decode cL_law 589 = .ok (.iconst 1, 1) := by decide +kernel
theorem dL_law_590 : decode cL_law 590 = .ok (.iadd, 1) := by decide +kernel
