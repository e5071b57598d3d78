theorem dX12_every_0 : decode cX12_every 0 = .ok (.aload_n 0, 1) := by decide +kernel
theorem dX12_every_1 : decode cX12_every 1 = .ok (.invokevirtual 110, 3) := by decide +kernel
theorem dX12_every_4 : decode cX12_every 4 = .ok (.aload_n 0, 1) := by decide +kernel
theorem dX12_every_5 : decode cX12_every 5 = .ok (.getfield 83, 3) := by decide +kernel
theorem dX12_every_8 : decode cX12_every 8 = .ok (.ifCond .ne 35, 3) := by decide +kernel
theorem dX12_every_11 : decode cX12_every 11 = .ok (.aload_n 0, 1) := by decide +kernel
theorem dX12_every_12 : decode cX12_every 12 = .ok (.invokevirtual 87, 3) := by decide +kernel
theorem dX12_every_15 : decode cX12_every 15 = .ok (.bipush 38, 2) := by decide +kernel
theorem dX12_every_17 : decode cX12_every 17 = .ok (.if_icmp .ne 26, 3) := by decide +kernel
theorem dX12_every_20 : decode cX12_every 20 = .ok (.aload_n 0, 1) := by decide +kernel
theorem dX12_every_21 : decode cX12_every 21 = .ok (.dup, 1) := by decide +kernel
theorem dX12_every_22 : decode cX12_every 22 = .ok (.getfield 77, 3) := by decide +kernel
theorem dX12_every_25 : decode cX12_every 25 = .ok (.iconst 1, 1) := by decide +kernel
theorem dX12_every_26 : decode cX12_every 26 = .ok (.iadd, 1) := by decide +kernel
theorem dX12_every_27 : decode cX12_every 27 = .ok (.putfield 77, 3) := by decide +kernel
theorem dX12_every_30 : decode cX12_every 30 = .ok (.aload_n 0, 1) := by decide +kernel
theorem dX12_every_31 : decode cX12_every 31 = .ok (.invokevirtual 110, 3) := by decide +kernel
theorem dX12_every_34 : decode cX12_every 34 = .ok (.aload_n 0, 1) := by decide +kernel
theorem dX12_every_35 : decode cX12_every 35 = .ok (.bipush (-2), 2) := by decide +kernel
theorem dX12_every_37 : decode cX12_every 37 = .ok (.invokevirtual 113, 3) := by decide +kernel
theorem dX12_every_40 : decode cX12_every 40 = .ok (.goto (-36), 3) := by decide +kernel
theorem dX12_every_43 : decode cX12_every 43 = .ok (.return_, 1) := by decide +kernel
theorem dX12_some_0 : decode cX12_some 0 = .ok (.aload_n 0, 1) := by decide +kernel
theorem dX12_some_1 : decode cX12_some 1 = .ok (.invokevirtual 130, 3) := by decide +kernel
theorem dX12_some_4 : decode cX12_some 4 = .ok (.aload_n 0, 1) := by decide +kernel
theorem dX12_some_5 : decode cX12_some 5 = .ok (.getfield 83, 3) := by decide +kernel
theorem dX12_some_8 : decode cX12_some 8 = .ok (.ifCond .ne 35, 3) := by decide +kernel
theorem dX12_some_11 : decode cX12_some 11 = .ok (.aload_n 0, 1) := by decide +kernel
theorem dX12_some_12 : decode cX12_some 12 = .ok (.invokevirtual 87, 3) := by decide +kernel
theorem dX12_some_15 : decode cX12_some 15 = .ok (.bipush 124, 2) := by decide +kernel
theorem dX12_some_17 : decode cX12_some 17 = .ok (.if_icmp .ne 26, 3) := by decide +kernel
theorem dX12_some_20 : decode cX12_some 20 = .ok (.aload_n 0, 1) := by decide +kernel
theorem dX12_some_21 : decode cX12_some 21 = .ok (.dup, 1) := by decide +kernel
theorem dX12_some_22 : decode cX12_some 22 = .ok (.getfield 77, 3) := by decide +kernel
theorem dX12_some_25 : decode cX12_some 25 = .ok (.iconst 1, 1) := by decide +kernel
theorem dX12_some_26 : decode cX12_some 26 = .ok (.iadd, 1) := by decide +kernel
theorem dX12_some_27 : decode cX12_some 27 = .ok (.putfield 77, 3) := by decide +kernel
theorem dX12_some_30 : decode cX12_some 30 = .ok (.aload_n 0, 1) := by decide +kernel
theorem dX12_some_31 : decode cX12_some 31 = .ok (.invokevirtual 130, 3) := by decide +kernel
theorem dX12_some_34 : decode cX12_some 34 = .ok (.aload_n 0, 1) := by decide +kernel
theorem dX12_some_35 : decode cX12_some 35 = .ok (.bipush (-3), 2) := by decide +kernel
theorem dX12_some_37 : decode cX12_some 37 = .ok (.invokevirtual 113, 3) := by decide +kernel
theorem dX12_some_40 : decode cX12_some 40 = .ok (.goto (-36), 3) := by decide +kernel
theorem dX12_some_43 : decode cX12_some 43 = .ok (.return_, 1) := by decide +kernel
theorem dX12_clauseOfC_0 : decode cX12_clauseOfC 0 = .ok (.aload_n 0, 1) := by decide +kernel
theorem dX12_clauseOfC_1 : decode cX12_clauseOfC 1 = .ok (.bipush 99, 2) := by decide +kernel
theorem dX12_clauseOfC_3 : decode cX12_clauseOfC 3 = .ok (.invokevirtual 100, 3) := by decide +kernel
theorem dX12_clauseOfC_6 : decode cX12_clauseOfC 6 = .ok (.aload_n 0, 1) := by decide +kernel
theorem dX12_clauseOfC_7 : decode cX12_clauseOfC 7 = .ok (.invokevirtual 87, 3) := by decide +kernel
theorem dX12_clauseOfC_10 : decode cX12_clauseOfC 10 = .ok (.bipush 111, 2) := by decide +kernel
theorem dX12_clauseOfC_12 : decode cX12_clauseOfC 12 = .ok (.if_icmp .ne 36, 3) := by decide +kernel
theorem dX12_clauseOfC_15 : decode cX12_clauseOfC 15 = .ok (.aload_n 0, 1) := by decide +kernel
theorem dX12_clauseOfC_16 : decode cX12_clauseOfC 16 = .ok (.ldc 133, 2) := by decide +kernel
theorem dX12_clauseOfC_18 : decode cX12_clauseOfC 18 = .ok (.invokevirtual 135, 3) := by decide +kernel
theorem dX12_clauseOfC_21 : decode cX12_clauseOfC 21 = .ok (.aload_n 0, 1) := by decide +kernel
theorem dX12_clauseOfC_22 : decode cX12_clauseOfC 22 = .ok (.invokevirtual 127, 3) := by decide +kernel
theorem dX12_clauseOfC_25 : decode cX12_clauseOfC 25 = .ok (.istore_n 1, 1) := by decide +kernel
theorem dX12_clauseOfC_26 : decode cX12_clauseOfC 26 = .ok (.aload_n 0, 1) := by decide +kernel
theorem dX12_clauseOfC_27 : decode cX12_clauseOfC 27 = .ok (.getfield 83, 3) := by decide +kernel
theorem dX12_clauseOfC_30 : decode cX12_clauseOfC 30 = .ok (.ifCond .ne 17, 3) := by decide +kernel
theorem dX12_clauseOfC_33 : decode cX12_clauseOfC 33 = .ok (.aload_n 0, 1) := by decide +kernel
theorem dX12_clauseOfC_34 : decode cX12_clauseOfC 34 = .ok (.getfield 9, 3) := by decide +kernel
theorem dX12_clauseOfC_37 : decode cX12_clauseOfC 37 = .ok (.sipush 182, 3) := by decide +kernel
theorem dX12_clauseOfC_40 : decode cX12_clauseOfC 40 = .ok (.aload_n 0, 1) := by decide +kernel
theorem dX12_clauseOfC_41 : decode cX12_clauseOfC 41 = .ok (.getfield 104, 3) := by decide +kernel
theorem dX12_clauseOfC_44 : decode cX12_clauseOfC 44 = .ok (.iadd, 1) := by decide +kernel
theorem dX12_clauseOfC_45 : decode cX12_clauseOfC 45 = .ok (.iload_n 1, 1) := by decide +kernel
theorem dX12_clauseOfC_46 : decode cX12_clauseOfC 46 = .ok (.iastore, 1) := by decide +kernel
theorem dX12_clauseOfC_47 : decode cX12_clauseOfC 47 = .ok (.return_, 1) := by decide +kernel
theorem dX12_clauseOfC_48 : decode cX12_clauseOfC 48 = .ok (.aload_n 0, 1) := by decide +kernel
theorem dX12_clauseOfC_49 : decode cX12_clauseOfC 49 = .ok (.ldc 139, 2) := by decide +kernel
theorem dX12_clauseOfC_51 : decode cX12_clauseOfC 51 = .ok (.invokevirtual 135, 3) := by decide +kernel
theorem dX12_clauseOfC_54 : decode cX12_clauseOfC 54 = .ok (.aload_n 0, 1) := by decide +kernel
theorem dX12_clauseOfC_55 : decode cX12_clauseOfC 55 = .ok (.invokevirtual 141, 3) := by decide +kernel
theorem dX12_clauseOfC_58 : decode cX12_clauseOfC 58 = .ok (.istore_n 1, 1) := by decide +kernel
theorem dX12_clauseOfC_59 : decode cX12_clauseOfC 59 = .ok (.aload_n 0, 1) := by decide +kernel
theorem dX12_clauseOfC_60 : decode cX12_clauseOfC 60 = .ok (.invokevirtual 116, 3) := by decide +kernel
theorem dX12_clauseOfC_63 : decode cX12_clauseOfC 63 = .ok (.aload_n 0, 1) := by decide +kernel
theorem dX12_clauseOfC_64 : decode cX12_clauseOfC 64 = .ok (.bipush (-10), 2) := by decide +kernel
theorem dX12_clauseOfC_66 : decode cX12_clauseOfC 66 = .ok (.iload_n 1, 1) := by decide +kernel
theorem dX12_clauseOfC_67 : decode cX12_clauseOfC 67 = .ok (.isub, 1) := by decide +kernel
theorem dX12_clauseOfC_68 : decode cX12_clauseOfC 68 = .ok (.invokevirtual 113, 3) := by decide +kernel
theorem dX12_clauseOfC_71 : decode cX12_clauseOfC 71 = .ok (.return_, 1) := by decide +kernel
theorem dX12_payHere_0 : decode cX12_payHere 0 = .ok (.aload_n 0, 1) := by decide +kernel
theorem dX12_payHere_1 : decode cX12_payHere 1 = .ok (.ldc 144, 2) := by decide +kernel
theorem dX12_payHere_3 : decode cX12_payHere 3 = .ok (.invokevirtual 135, 3) := by decide +kernel
theorem dX12_payHere_6 : decode cX12_payHere 6 = .ok (.aload_n 0, 1) := by decide +kernel
theorem dX12_payHere_7 : decode cX12_payHere 7 = .ok (.invokevirtual 141, 3) := by decide +kernel
theorem dX12_payHere_10 : decode cX12_payHere 10 = .ok (.istore_n 1, 1) := by decide +kernel
theorem dX12_payHere_11 : decode cX12_payHere 11 = .ok (.aload_n 0, 1) := by decide +kernel
theorem dX12_payHere_12 : decode cX12_payHere 12 = .ok (.invokevirtual 127, 3) := by decide +kernel
theorem dX12_payHere_15 : decode cX12_payHere 15 = .ok (.istore_n 2, 1) := by decide +kernel
theorem dX12_payHere_16 : decode cX12_payHere 16 = .ok (.aload_n 0, 1) := by decide +kernel
theorem dX12_payHere_17 : decode cX12_payHere 17 = .ok (.getfield 83, 3) := by decide +kernel
theorem dX12_payHere_20 : decode cX12_payHere 20 = .ok (.ifCond .ne 21, 3) := by decide +kernel
theorem dX12_payHere_23 : decode cX12_payHere 23 = .ok (.aload_n 0, 1) := by decide +kernel
theorem dX12_payHere_24 : decode cX12_payHere 24 = .ok (.getfield 9, 3) := by decide +kernel
theorem dX12_payHere_27 : decode cX12_payHere 27 = .ok (.sipush 167, 3) := by decide +kernel
theorem dX12_payHere_30 : decode cX12_payHere 30 = .ok (.iconst 3, 1) := by decide +kernel
theorem dX12_payHere_31 : decode cX12_payHere 31 = .ok (.aload_n 0, 1) := by decide +kernel
theorem dX12_payHere_32 : decode cX12_payHere 32 = .ok (.getfield 104, 3) := by decide +kernel
theorem dX12_payHere_35 : decode cX12_payHere 35 = .ok (.imul, 1) := by decide +kernel
theorem dX12_payHere_36 : decode cX12_payHere 36 = .ok (.iadd, 1) := by decide +kernel
theorem dX12_payHere_37 : decode cX12_payHere 37 = .ok (.iload_n 1, 1) := by decide +kernel
theorem dX12_payHere_38 : decode cX12_payHere 38 = .ok (.iadd, 1) := by decide +kernel
theorem dX12_payHere_39 : decode cX12_payHere 39 = .ok (.iload_n 2, 1) := by decide +kernel
theorem dX12_payHere_40 : decode cX12_payHere 40 = .ok (.iastore, 1) := by decide +kernel
theorem dX12_payHere_41 : decode cX12_payHere 41 = .ok (.return_, 1) := by decide +kernel
theorem dX12_clauseHere_0 : decode cX12_clauseHere 0 = .ok (.aload_n 0, 1) := by decide +kernel
theorem dX12_clauseHere_1 : decode cX12_clauseHere 1 = .ok (.invokevirtual 87, 3) := by decide +kernel
theorem dX12_clauseHere_4 : decode cX12_clauseHere 4 = .ok (.lookupswitch 42 #[(99, 28), (112, 35)], 28) := by decide +kernel
theorem dX12_clauseHere_32 : decode cX12_clauseHere 32 = .ok (.aload_n 0, 1) := by decide +kernel
theorem dX12_clauseHere_33 : decode cX12_clauseHere 33 = .ok (.invokevirtual 146, 3) := by decide +kernel
theorem dX12_clauseHere_36 : decode cX12_clauseHere 36 = .ok (.goto 15, 3) := by decide +kernel
theorem dX12_clauseHere_39 : decode cX12_clauseHere 39 = .ok (.aload_n 0, 1) := by decide +kernel
theorem dX12_clauseHere_40 : decode cX12_clauseHere 40 = .ok (.invokevirtual 149, 3) := by decide +kernel
theorem dX12_clauseHere_43 : decode cX12_clauseHere 43 = .ok (.goto 8, 3) := by decide +kernel
theorem dX12_clauseHere_46 : decode cX12_clauseHere 46 = .ok (.aload_n 0, 1) := by decide +kernel
theorem dX12_clauseHere_47 : decode cX12_clauseHere 47 = .ok (.iconst 1, 1) := by decide +kernel
theorem dX12_clauseHere_48 : decode cX12_clauseHere 48 = .ok (.putfield 83, 3) := by decide +kernel
theorem dX12_clauseHere_51 : decode cX12_clauseHere 51 = .ok (.return_, 1) := by decide +kernel
theorem dX12_valley_0 : decode cX12_valley 0 = .ok (.aload_n 0, 1) := by decide +kernel
theorem dX12_valley_1 : decode cX12_valley 1 = .ok (.getfield 9, 3) := by decide +kernel
theorem dX12_valley_4 : decode cX12_valley 4 = .ok (.iconst 1, 1) := by decide +kernel
theorem dX12_valley_5 : decode cX12_valley 5 = .ok (.iaload, 1) := by decide +kernel
theorem dX12_valley_6 : decode cX12_valley 6 = .ok (.iconst 5, 1) := by decide +kernel
theorem dX12_valley_7 : decode cX12_valley 7 = .ok (.if_icmp .ne 6, 3) := by decide +kernel
theorem dX12_valley_10 : decode cX12_valley 10 = .ok (.bipush (-4), 2) := by decide +kernel
theorem dX12_valley_12 : decode cX12_valley 12 = .ok (.ireturn, 1) := by decide +kernel
theorem dX12_valley_13 : decode cX12_valley 13 = .ok (.aload_n 0, 1) := by decide +kernel
theorem dX12_valley_14 : decode cX12_valley 14 = .ok (.aload_n 0, 1) := by decide +kernel
theorem dX12_valley_15 : decode cX12_valley 15 = .ok (.getfield 9, 3) := by decide +kernel
theorem dX12_valley_18 : decode cX12_valley 18 = .ok (.iconst 1, 1) := by decide +kernel
theorem dX12_valley_19 : decode cX12_valley 19 = .ok (.iaload, 1) := by decide +kernel
theorem dX12_valley_20 : decode cX12_valley 20 = .ok (.putfield 104, 3) := by decide +kernel
theorem dX12_valley_23 : decode cX12_valley 23 = .ok (.aload_n 0, 1) := by decide +kernel
theorem dX12_valley_24 : decode cX12_valley 24 = .ok (.aload_n 0, 1) := by decide +kernel
theorem dX12_valley_25 : decode cX12_valley 25 = .ok (.getfield 9, 3) := by decide +kernel
theorem dX12_valley_28 : decode cX12_valley 28 = .ok (.iconst 3, 1) := by decide +kernel
theorem dX12_valley_29 : decode cX12_valley 29 = .ok (.iaload, 1) := by decide +kernel
theorem dX12_valley_30 : decode cX12_valley 30 = .ok (.putfield 80, 3) := by decide +kernel
theorem dX12_valley_33 : decode cX12_valley 33 = .ok (.aload_n 0, 1) := by decide +kernel
theorem dX12_valley_34 : decode cX12_valley 34 = .ok (.getfield 9, 3) := by decide +kernel
theorem dX12_valley_37 : decode cX12_valley 37 = .ok (.iconst 3, 1) := by decide +kernel
theorem dX12_valley_38 : decode cX12_valley 38 = .ok (.iconst 0, 1) := by decide +kernel
theorem dX12_valley_39 : decode cX12_valley 39 = .ok (.iastore, 1) := by decide +kernel
theorem dX12_valley_40 : decode cX12_valley 40 = .ok (.aload_n 0, 1) := by decide +kernel
theorem dX12_valley_41 : decode cX12_valley 41 = .ok (.getfield 9, 3) := by decide +kernel
theorem dX12_valley_44 : decode cX12_valley 44 = .ok (.sipush 182, 3) := by decide +kernel
theorem dX12_valley_47 : decode cX12_valley 47 = .ok (.aload_n 0, 1) := by decide +kernel
theorem dX12_valley_48 : decode cX12_valley 48 = .ok (.getfield 104, 3) := by decide +kernel
theorem dX12_valley_51 : decode cX12_valley 51 = .ok (.iadd, 1) := by decide +kernel
theorem dX12_valley_52 : decode cX12_valley 52 = .ok (.iconst 0, 1) := by decide +kernel
theorem dX12_valley_53 : decode cX12_valley 53 = .ok (.iastore, 1) := by decide +kernel
theorem dX12_valley_54 : decode cX12_valley 54 = .ok (.aload_n 0, 1) := by decide +kernel
theorem dX12_valley_55 : decode cX12_valley 55 = .ok (.getfield 9, 3) := by decide +kernel
theorem dX12_valley_58 : decode cX12_valley 58 = .ok (.sipush 187, 3) := by decide +kernel
theorem dX12_valley_61 : decode cX12_valley 61 = .ok (.aload_n 0, 1) := by decide +kernel
theorem dX12_valley_62 : decode cX12_valley 62 = .ok (.getfield 104, 3) := by decide +kernel
theorem dX12_valley_65 : decode cX12_valley 65 = .ok (.iadd, 1) := by decide +kernel
theorem dX12_valley_66 : decode cX12_valley 66 = .ok (.iconst 0, 1) := by decide +kernel
theorem dX12_valley_67 : decode cX12_valley 67 = .ok (.iastore, 1) := by decide +kernel
theorem dX12_valley_68 : decode cX12_valley 68 = .ok (.iconst 0, 1) := by decide +kernel
theorem dX12_valley_69 : decode cX12_valley 69 = .ok (.istore_n 1, 1) := by decide +kernel
theorem dX12_valley_70 : decode cX12_valley 70 = .ok (.iload_n 1, 1) := by decide +kernel
theorem dX12_valley_71 : decode cX12_valley 71 = .ok (.iconst 3, 1) := by decide +kernel
theorem dX12_valley_72 : decode cX12_valley 72 = .ok (.if_icmp .ge 27, 3) := by decide +kernel
theorem dX12_valley_75 : decode cX12_valley 75 = .ok (.aload_n 0, 1) := by decide +kernel
theorem dX12_valley_76 : decode cX12_valley 76 = .ok (.getfield 9, 3) := by decide +kernel
theorem dX12_valley_79 : decode cX12_valley 79 = .ok (.sipush 167, 3) := by decide +kernel
theorem dX12_valley_82 : decode cX12_valley 82 = .ok (.iconst 3, 1) := by decide +kernel
theorem dX12_valley_83 : decode cX12_valley 83 = .ok (.aload_n 0, 1) := by decide +kernel
theorem dX12_valley_84 : decode cX12_valley 84 = .ok (.getfield 104, 3) := by decide +kernel
theorem dX12_valley_87 : decode cX12_valley 87 = .ok (.imul, 1) := by decide +kernel
theorem dX12_valley_88 : decode cX12_valley 88 = .ok (.iadd, 1) := by decide +kernel
theorem dX12_valley_89 : decode cX12_valley 89 = .ok (.iload_n 1, 1) := by decide +kernel
theorem dX12_valley_90 : decode cX12_valley 90 = .ok (.iadd, 1) := by decide +kernel
theorem dX12_valley_91 : decode cX12_valley 91 = .ok (.iconst 1, 1) := by decide +kernel
theorem dX12_valley_92 : decode cX12_valley 92 = .ok (.iastore, 1) := by decide +kernel
theorem dX12_valley_93 : decode cX12_valley 93 = .ok (.iinc 1 1, 3) := by decide +kernel
theorem dX12_valley_96 : decode cX12_valley 96 = .ok (.goto (-26), 3) := by decide +kernel
theorem dX12_valley_99 : decode cX12_valley 99 = .ok (.aload_n 0, 1) := by decide +kernel
theorem dX12_valley_100 : decode cX12_valley 100 = .ok (.iconst 0, 1) := by decide +kernel
theorem dX12_valley_101 : decode cX12_valley 101 = .ok (.putfield 77, 3) := by decide +kernel
theorem dX12_valley_104 : decode cX12_valley 104 = .ok (.aload_n 0, 1) := by decide +kernel
theorem dX12_valley_105 : decode cX12_valley 105 = .ok (.iconst 0, 1) := by decide +kernel
theorem dX12_valley_106 : decode cX12_valley 106 = .ok (.putfield 83, 3) := by decide +kernel
theorem dX12_valley_109 : decode cX12_valley 109 = .ok (.aload_n 0, 1) := by decide +kernel
theorem dX12_valley_110 : decode cX12_valley 110 = .ok (.iconst 0, 1) := by decide +kernel
theorem dX12_valley_111 : decode cX12_valley 111 = .ok (.putfield 107, 3) := by decide +kernel
theorem dX12_valley_114 : decode cX12_valley 114 = .ok (.iconst 1, 1) := by decide +kernel
theorem dX12_valley_115 : decode cX12_valley 115 = .ok (.istore_n 1, 1) := by decide +kernel
theorem dX12_valley_116 : decode cX12_valley 116 = .ok (.aload_n 0, 1) := by decide +kernel
theorem dX12_valley_117 : decode cX12_valley 117 = .ok (.invokevirtual 152, 3) := by decide +kernel
theorem dX12_valley_120 : decode cX12_valley 120 = .ok (.aload_n 0, 1) := by decide +kernel
theorem dX12_valley_121 : decode cX12_valley 121 = .ok (.getfield 83, 3) := by decide +kernel
theorem dX12_valley_124 : decode cX12_valley 124 = .ok (.ifCond .ne 38, 3) := by decide +kernel
theorem dX12_valley_127 : decode cX12_valley 127 = .ok (.iload_n 1, 1) := by decide +kernel
theorem dX12_valley_128 : decode cX12_valley 128 = .ok (.bipush 10, 2) := by decide +kernel
theorem dX12_valley_130 : decode cX12_valley 130 = .ok (.if_icmp .ge 32, 3) := by decide +kernel
theorem dX12_valley_133 : decode cX12_valley 133 = .ok (.aload_n 0, 1) := by decide +kernel
theorem dX12_valley_134 : decode cX12_valley 134 = .ok (.invokevirtual 87, 3) := by decide +kernel
theorem dX12_valley_137 : decode cX12_valley 137 = .ok (.bipush 59, 2) := by decide +kernel
theorem dX12_valley_139 : decode cX12_valley 139 = .ok (.if_icmp .ne 23, 3) := by decide +kernel
theorem dX12_valley_142 : decode cX12_valley 142 = .ok (.aload_n 0, 1) := by decide +kernel
theorem dX12_valley_143 : decode cX12_valley 143 = .ok (.dup, 1) := by decide +kernel
theorem dX12_valley_144 : decode cX12_valley 144 = .ok (.getfield 77, 3) := by decide +kernel
theorem dX12_valley_147 : decode cX12_valley 147 = .ok (.iconst 1, 1) := by decide +kernel
theorem dX12_valley_148 : decode cX12_valley 148 = .ok (.iadd, 1) := by decide +kernel
theorem dX12_valley_149 : decode cX12_valley 149 = .ok (.putfield 77, 3) := by decide +kernel
theorem dX12_valley_152 : decode cX12_valley 152 = .ok (.aload_n 0, 1) := by decide +kernel
theorem dX12_valley_153 : decode cX12_valley 153 = .ok (.invokevirtual 152, 3) := by decide +kernel
theorem dX12_valley_156 : decode cX12_valley 156 = .ok (.iinc 1 1, 3) := by decide +kernel
theorem dX12_valley_159 : decode cX12_valley 159 = .ok (.goto (-39), 3) := by decide +kernel
theorem dX12_valley_162 : decode cX12_valley 162 = .ok (.aload_n 0, 1) := by decide +kernel
theorem dX12_valley_163 : decode cX12_valley 163 = .ok (.getfield 83, 3) := by decide +kernel
theorem dX12_valley_166 : decode cX12_valley 166 = .ok (.ifCond .ne 14, 3) := by decide +kernel
theorem dX12_valley_169 : decode cX12_valley 169 = .ok (.aload_n 0, 1) := by decide +kernel
theorem dX12_valley_170 : decode cX12_valley 170 = .ok (.getfield 77, 3) := by decide +kernel
theorem dX12_valley_173 : decode cX12_valley 173 = .ok (.aload_n 0, 1) := by decide +kernel
theorem dX12_valley_174 : decode cX12_valley 174 = .ok (.getfield 80, 3) := by decide +kernel
theorem dX12_valley_177 : decode cX12_valley 177 = .ok (.if_icmp .eq 11, 3) := by decide +kernel
theorem dX12_valley_180 : decode cX12_valley 180 = .ok (.bipush (-10), 2) := by decide +kernel
theorem dX12_valley_182 : decode cX12_valley 182 = .ok (.aload_n 0, 1) := by decide +kernel
theorem dX12_valley_183 : decode cX12_valley 183 = .ok (.getfield 77, 3) := by decide +kernel
theorem dX12_valley_186 : decode cX12_valley 186 = .ok (.isub, 1) := by decide +kernel
theorem dX12_valley_187 : decode cX12_valley 187 = .ok (.ireturn, 1) := by decide +kernel
theorem dX12_valley_188 : decode cX12_valley 188 = .ok (.aload_n 0, 1) := by decide +kernel
theorem dX12_valley_189 : decode cX12_valley 189 = .ok (.getfield 9, 3) := by decide +kernel
theorem dX12_valley_192 : decode cX12_valley 192 = .ok (.iconst 1, 1) := by decide +kernel
theorem dX12_valley_193 : decode cX12_valley 193 = .ok (.dup2, 1) := by decide +kernel
theorem dX12_valley_194 : decode cX12_valley 194 = .ok (.iaload, 1) := by decide +kernel
theorem dX12_valley_195 : decode cX12_valley 195 = .ok (.iconst 1, 1) := by decide +kernel
theorem dX12_valley_196 : decode cX12_valley 196 = .ok (.iadd, 1) := by decide +kernel
theorem dX12_valley_197 : decode cX12_valley 197 = .ok (.iastore, 1) := by decide +kernel
theorem dX12_valley_198 : decode cX12_valley 198 = .ok (.aload_n 0, 1) := by decide +kernel
theorem dX12_valley_199 : decode cX12_valley 199 = .ok (.getfield 9, 3) := by decide +kernel
theorem dX12_valley_202 : decode cX12_valley 202 = .ok (.iconst 4, 1) := by decide +kernel
theorem dX12_valley_203 : decode cX12_valley 203 = .ok (.aload_n 0, 1) := by decide +kernel
theorem dX12_valley_204 : decode cX12_valley 204 = .ok (.getfield 104, 3) := by decide +kernel
theorem dX12_valley_207 : decode cX12_valley 207 = .ok (.iastore, 1) := by decide +kernel
theorem dX12_valley_208 : decode cX12_valley 208 = .ok (.aload_n 0, 1) := by decide +kernel
theorem dX12_valley_209 : decode cX12_valley 209 = .ok (.getfield 104, 3) := by decide +kernel
theorem dX12_valley_212 : decode cX12_valley 212 = .ok (.ireturn, 1) := by decide +kernel
theorem dX12_pay_0 : decode cX12_pay 0 = .ok (.aload_n 0, 1) := by decide +kernel
theorem dX12_pay_1 : decode cX12_pay 1 = .ok (.getfield 9, 3) := by decide +kernel
theorem dX12_pay_4 : decode cX12_pay 4 = .ok (.iconst 4, 1) := by decide +kernel
theorem dX12_pay_5 : decode cX12_pay 5 = .ok (.iaload, 1) := by decide +kernel
theorem dX12_pay_6 : decode cX12_pay 6 = .ok (.iconst (-1), 1) := by decide +kernel
theorem dX12_pay_7 : decode cX12_pay 7 = .ok (.if_icmp .ne 7, 3) := by decide +kernel
theorem dX12_pay_10 : decode cX12_pay 10 = .ok (.iconst 1, 1) := by decide +kernel
theorem dX12_pay_11 : decode cX12_pay 11 = .ok (.goto 22, 3) := by decide +kernel
theorem dX12_pay_14 : decode cX12_pay 14 = .ok (.aload_n 0, 1) := by decide +kernel
theorem dX12_pay_15 : decode cX12_pay 15 = .ok (.getfield 9, 3) := by decide +kernel
theorem dX12_pay_18 : decode cX12_pay 18 = .ok (.sipush 167, 3) := by decide +kernel
theorem dX12_pay_21 : decode cX12_pay 21 = .ok (.iconst 3, 1) := by decide +kernel
theorem dX12_pay_22 : decode cX12_pay 22 = .ok (.aload_n 0, 1) := by decide +kernel
theorem dX12_pay_23 : decode cX12_pay 23 = .ok (.getfield 9, 3) := by decide +kernel
theorem dX12_pay_26 : decode cX12_pay 26 = .ok (.iconst 4, 1) := by decide +kernel
theorem dX12_pay_27 : decode cX12_pay 27 = .ok (.iaload, 1) := by decide +kernel
theorem dX12_pay_28 : decode cX12_pay 28 = .ok (.imul, 1) := by decide +kernel
theorem dX12_pay_29 : decode cX12_pay 29 = .ok (.iadd, 1) := by decide +kernel
theorem dX12_pay_30 : decode cX12_pay 30 = .ok (.iload_n 1, 1) := by decide +kernel
theorem dX12_pay_31 : decode cX12_pay 31 = .ok (.iadd, 1) := by decide +kernel
theorem dX12_pay_32 : decode cX12_pay 32 = .ok (.iaload, 1) := by decide +kernel
theorem dX12_pay_33 : decode cX12_pay 33 = .ok (.ireturn, 1) := by decide +kernel
theorem dX12_coverTold_0 : decode cX12_coverTold 0 = .ok (.aload_n 0, 1) := by decide +kernel
theorem dX12_coverTold_1 : decode cX12_coverTold 1 = .ok (.getfield 9, 3) := by decide +kernel
theorem dX12_coverTold_4 : decode cX12_coverTold 4 = .ok (.iconst 4, 1) := by decide +kernel
theorem dX12_coverTold_5 : decode cX12_coverTold 5 = .ok (.iaload, 1) := by decide +kernel
theorem dX12_coverTold_6 : decode cX12_coverTold 6 = .ok (.iconst (-1), 1) := by decide +kernel
theorem dX12_coverTold_7 : decode cX12_coverTold 7 = .ok (.if_icmp .ne 7, 3) := by decide +kernel
theorem dX12_coverTold_10 : decode cX12_coverTold 10 = .ok (.iconst 0, 1) := by decide +kernel
theorem dX12_coverTold_11 : decode cX12_coverTold 11 = .ok (.goto 18, 3) := by decide +kernel
theorem dX12_coverTold_14 : decode cX12_coverTold 14 = .ok (.aload_n 0, 1) := by decide +kernel
theorem dX12_coverTold_15 : decode cX12_coverTold 15 = .ok (.getfield 9, 3) := by decide +kernel
theorem dX12_coverTold_18 : decode cX12_coverTold 18 = .ok (.sipush 182, 3) := by decide +kernel
theorem dX12_coverTold_21 : decode cX12_coverTold 21 = .ok (.aload_n 0, 1) := by decide +kernel
theorem dX12_coverTold_22 : decode cX12_coverTold 22 = .ok (.getfield 9, 3) := by decide +kernel
theorem dX12_coverTold_25 : decode cX12_coverTold 25 = .ok (.iconst 4, 1) := by decide +kernel
theorem dX12_coverTold_26 : decode cX12_coverTold 26 = .ok (.iaload, 1) := by decide +kernel
theorem dX12_coverTold_27 : decode cX12_coverTold 27 = .ok (.iadd, 1) := by decide +kernel
theorem dX12_coverTold_28 : decode cX12_coverTold 28 = .ok (.iaload, 1) := by decide +kernel
theorem dX12_coverTold_29 : decode cX12_coverTold 29 = .ok (.ireturn, 1) := by decide +kernel
theorem dX12_told_0 : decode cX12_told 0 = .ok (.iload_n 1, 1) := by decide +kernel
theorem dX12_told_1 : decode cX12_told 1 = .ok (.ifCond .ne 8, 3) := by decide +kernel
theorem dX12_told_4 : decode cX12_told 4 = .ok (.aload_n 0, 1) := by decide +kernel
theorem dX12_told_5 : decode cX12_told 5 = .ok (.invokevirtual 155, 3) := by decide +kernel
theorem dX12_told_8 : decode cX12_told 8 = .ok (.ireturn, 1) := by decide +kernel
theorem dX12_told_9 : decode cX12_told 9 = .ok (.iload_n 1, 1) := by decide +kernel
theorem dX12_told_10 : decode cX12_told 10 = .ok (.iconst 1, 1) := by decide +kernel
theorem dX12_told_11 : decode cX12_told 11 = .ok (.if_icmp .ne 10, 3) := by decide +kernel
theorem dX12_told_14 : decode cX12_told 14 = .ok (.aload_n 0, 1) := by decide +kernel
theorem dX12_told_15 : decode cX12_told 15 = .ok (.getfield 9, 3) := by decide +kernel
theorem dX12_told_18 : decode cX12_told 18 = .ok (.iconst 5, 1) := by decide +kernel
theorem dX12_told_19 : decode cX12_told 19 = .ok (.iaload, 1) := by decide +kernel
theorem dX12_told_20 : decode cX12_told 20 = .ok (.ireturn, 1) := by decide +kernel
theorem dX12_told_21 : decode cX12_told 21 = .ok (.iload_n 1, 1) := by decide +kernel
theorem dX12_told_22 : decode cX12_told 22 = .ok (.iconst 2, 1) := by decide +kernel
theorem dX12_told_23 : decode cX12_told 23 = .ok (.if_icmp .ne 8, 3) := by decide +kernel
theorem dX12_told_26 : decode cX12_told 26 = .ok (.aload_n 0, 1) := by decide +kernel
theorem dX12_told_27 : decode cX12_told 27 = .ok (.invokevirtual 158, 3) := by decide +kernel
theorem dX12_told_30 : decode cX12_told 30 = .ok (.ireturn, 1) := by decide +kernel
theorem dX12_told_31 : decode cX12_told 31 = .ok (.iload_n 1, 1) := by decide +kernel
theorem dX12_told_32 : decode cX12_told 32 = .ok (.bipush 10, 2) := by decide +kernel
theorem dX12_told_34 : decode cX12_told 34 = .ok (.bipush 12, 2) := by decide +kernel
theorem dX12_told_36 : decode cX12_told 36 = .ok (.invokestatic 69, 3) := by decide +kernel
theorem dX12_told_39 : decode cX12_told 39 = .ok (.ifCond .eq 14, 3) := by decide +kernel
theorem dX12_told_42 : decode cX12_told 42 = .ok (.aload_n 0, 1) := by decide +kernel
theorem dX12_told_43 : decode cX12_told 43 = .ok (.iload_n 1, 1) := by decide +kernel
theorem dX12_told_44 : decode cX12_told 44 = .ok (.bipush 10, 2) := by decide +kernel
theorem dX12_told_46 : decode cX12_told 46 = .ok (.isub, 1) := by decide +kernel
theorem dX12_told_47 : decode cX12_told 47 = .ok (.invokevirtual 161, 3) := by decide +kernel
theorem dX12_told_50 : decode cX12_told 50 = .ok (.goto 56, 3) := by decide +kernel
theorem dX12_told_53 : decode cX12_told 53 = .ok (.iload_n 1, 1) := by decide +kernel
theorem dX12_told_54 : decode cX12_told 54 = .ok (.bipush 20, 2) := by decide +kernel
theorem dX12_told_56 : decode cX12_told 56 = .ok (.bipush 22, 2) := by decide +kernel
theorem dX12_told_58 : decode cX12_told 58 = .ok (.invokestatic 69, 3) := by decide +kernel
theorem dX12_told_61 : decode cX12_told 61 = .ok (.ifCond .eq 18, 3) := by decide +kernel
theorem dX12_told_64 : decode cX12_told 64 = .ok (.aload_n 0, 1) := by decide +kernel
theorem dX12_told_65 : decode cX12_told 65 = .ok (.getfield 9, 3) := by decide +kernel
theorem dX12_told_68 : decode cX12_told 68 = .ok (.bipush 9, 2) := by decide +kernel
theorem dX12_told_70 : decode cX12_told 70 = .ok (.iload_n 1, 1) := by decide +kernel
theorem dX12_told_71 : decode cX12_told 71 = .ok (.iadd, 1) := by decide +kernel
theorem dX12_told_72 : decode cX12_told 72 = .ok (.bipush 20, 2) := by decide +kernel
theorem dX12_told_74 : decode cX12_told 74 = .ok (.isub, 1) := by decide +kernel
theorem dX12_told_75 : decode cX12_told 75 = .ok (.iaload, 1) := by decide +kernel
theorem dX12_told_76 : decode cX12_told 76 = .ok (.goto 30, 3) := by decide +kernel
theorem dX12_told_79 : decode cX12_told 79 = .ok (.iload_n 1, 1) := by decide +kernel
theorem dX12_told_80 : decode cX12_told 80 = .ok (.bipush 30, 2) := by decide +kernel
theorem dX12_told_82 : decode cX12_told 82 = .ok (.bipush 32, 2) := by decide +kernel
theorem dX12_told_84 : decode cX12_told 84 = .ok (.invokestatic 69, 3) := by decide +kernel
theorem dX12_told_87 : decode cX12_told 87 = .ok (.ifCond .eq 18, 3) := by decide +kernel
theorem dX12_told_90 : decode cX12_told 90 = .ok (.aload_n 0, 1) := by decide +kernel
theorem dX12_told_91 : decode cX12_told 91 = .ok (.getfield 9, 3) := by decide +kernel
theorem dX12_told_94 : decode cX12_told 94 = .ok (.bipush 6, 2) := by decide +kernel
theorem dX12_told_96 : decode cX12_told 96 = .ok (.iload_n 1, 1) := by decide +kernel
theorem dX12_told_97 : decode cX12_told 97 = .ok (.iadd, 1) := by decide +kernel
theorem dX12_told_98 : decode cX12_told 98 = .ok (.bipush 30, 2) := by decide +kernel
theorem dX12_told_100 : decode cX12_told 100 = .ok (.isub, 1) := by decide +kernel
theorem dX12_told_101 : decode cX12_told 101 = .ok (.iaload, 1) := by decide +kernel
theorem dX12_told_102 : decode cX12_told 102 = .ok (.goto 4, 3) := by decide +kernel
theorem dX12_told_105 : decode cX12_told 105 = .ok (.iconst (-1), 1) := by decide +kernel
theorem dX12_told_106 : decode cX12_told 106 = .ok (.ireturn, 1) := by decide +kernel
theorem dX12_stage_0 : decode cX12_stage 0 = .ok (.iload_n 1, 1) := by decide +kernel
theorem dX12_stage_1 : decode cX12_stage 1 = .ok (.invokestatic 165, 3) := by decide +kernel
theorem dX12_stage_4 : decode cX12_stage 4 = .ok (.ifCond .ne 5, 3) := by decide +kernel
theorem dX12_stage_7 : decode cX12_stage 7 = .ok (.iconst (-1), 1) := by decide +kernel
theorem dX12_stage_8 : decode cX12_stage 8 = .ok (.ireturn, 1) := by decide +kernel
theorem dX12_stage_9 : decode cX12_stage 9 = .ok (.iload_n 2, 1) := by decide +kernel
theorem dX12_stage_10 : decode cX12_stage 10 = .ok (.iconst 0, 1) := by decide +kernel
theorem dX12_stage_11 : decode cX12_stage 11 = .ok (.iconst 2, 1) := by decide +kernel
theorem dX12_stage_12 : decode cX12_stage 12 = .ok (.invokestatic 69, 3) := by decide +kernel
theorem dX12_stage_15 : decode cX12_stage 15 = .ok (.ifCond .ne 6, 3) := by decide +kernel
theorem dX12_stage_18 : decode cX12_stage 18 = .ok (.bipush (-2), 2) := by decide +kernel
theorem dX12_stage_20 : decode cX12_stage 20 = .ok (.ireturn, 1) := by decide +kernel
theorem dX12_stage_21 : decode cX12_stage 21 = .ok (.aload_n 0, 1) := by decide +kernel
theorem dX12_stage_22 : decode cX12_stage 22 = .ok (.getfield 9, 3) := by decide +kernel
theorem dX12_stage_25 : decode cX12_stage 25 = .ok (.bipush 9, 2) := by decide +kernel
theorem dX12_stage_27 : decode cX12_stage 27 = .ok (.iload_n 1, 1) := by decide +kernel
theorem dX12_stage_28 : decode cX12_stage 28 = .ok (.iadd, 1) := by decide +kernel
theorem dX12_stage_29 : decode cX12_stage 29 = .ok (.iaload, 1) := by decide +kernel
theorem dX12_stage_30 : decode cX12_stage 30 = .ok (.istore_n 3, 1) := by decide +kernel
theorem dX12_stage_31 : decode cX12_stage 31 = .ok (.aload_n 0, 1) := by decide +kernel
theorem dX12_stage_32 : decode cX12_stage 32 = .ok (.getfield 9, 3) := by decide +kernel
theorem dX12_stage_35 : decode cX12_stage 35 = .ok (.bipush 9, 2) := by decide +kernel
theorem dX12_stage_37 : decode cX12_stage 37 = .ok (.iload_n 1, 1) := by decide +kernel
theorem dX12_stage_38 : decode cX12_stage 38 = .ok (.iadd, 1) := by decide +kernel
theorem dX12_stage_39 : decode cX12_stage 39 = .ok (.iload_n 2, 1) := by decide +kernel
theorem dX12_stage_40 : decode cX12_stage 40 = .ok (.iastore, 1) := by decide +kernel
theorem dX12_stage_41 : decode cX12_stage 41 = .ok (.iload_n 3, 1) := by decide +kernel
theorem dX12_stage_42 : decode cX12_stage 42 = .ok (.ireturn, 1) := by decide +kernel
theorem dX12_stateOf_0 : decode cX12_stateOf 0 = .ok (.bipush 27, 2) := by decide +kernel
theorem dX12_stateOf_2 : decode cX12_stateOf 2 = .ok (.bipush 36, 2) := by decide +kernel
theorem dX12_stateOf_4 : decode cX12_stateOf 4 = .ok (.iload_n 0, 1) := by decide +kernel
theorem dX12_stateOf_5 : decode cX12_stateOf 5 = .ok (.imul, 1) := by decide +kernel
theorem dX12_stateOf_6 : decode cX12_stateOf 6 = .ok (.bipush 6, 2) := by decide +kernel
theorem dX12_stateOf_8 : decode cX12_stateOf 8 = .ok (.iload_n 1, 1) := by decide +kernel
theorem dX12_stateOf_9 : decode cX12_stateOf 9 = .ok (.imul, 1) := by decide +kernel
theorem dX12_stateOf_10 : decode cX12_stateOf 10 = .ok (.iadd, 1) := by decide +kernel
theorem dX12_stateOf_11 : decode cX12_stateOf 11 = .ok (.iload_n 2, 1) := by decide +kernel
theorem dX12_stateOf_12 : decode cX12_stateOf 12 = .ok (.iadd, 1) := by decide +kernel
theorem dX12_stateOf_13 : decode cX12_stateOf 13 = .ok (.imul, 1) := by decide +kernel
theorem dX12_stateOf_14 : decode cX12_stateOf 14 = .ok (.iload_n 3, 1) := by decide +kernel
theorem dX12_stateOf_15 : decode cX12_stateOf 15 = .ok (.iadd, 1) := by decide +kernel
theorem dX12_stateOf_16 : decode cX12_stateOf 16 = .ok (.ireturn, 1) := by decide +kernel
theorem dX12_stateNow_0 : decode cX12_stateNow 0 = .ok (.aload_n 0, 1) := by decide +kernel
theorem dX12_stateNow_1 : decode cX12_stateNow 1 = .ok (.getfield 9, 3) := by decide +kernel
theorem dX12_stateNow_4 : decode cX12_stateNow 4 = .ok (.bipush 6, 2) := by decide +kernel
theorem dX12_stateNow_6 : decode cX12_stateNow 6 = .ok (.iaload, 1) := by decide +kernel
theorem dX12_stateNow_7 : decode cX12_stateNow 7 = .ok (.aload_n 0, 1) := by decide +kernel
theorem dX12_stateNow_8 : decode cX12_stateNow 8 = .ok (.getfield 9, 3) := by decide +kernel
theorem dX12_stateNow_11 : decode cX12_stateNow 11 = .ok (.bipush 7, 2) := by decide +kernel
theorem dX12_stateNow_13 : decode cX12_stateNow 13 = .ok (.iaload, 1) := by decide +kernel
theorem dX12_stateNow_14 : decode cX12_stateNow 14 = .ok (.aload_n 0, 1) := by decide +kernel
theorem dX12_stateNow_15 : decode cX12_stateNow 15 = .ok (.getfield 9, 3) := by decide +kernel
theorem dX12_stateNow_18 : decode cX12_stateNow 18 = .ok (.bipush 8, 2) := by decide +kernel
theorem dX12_stateNow_20 : decode cX12_stateNow 20 = .ok (.iaload, 1) := by decide +kernel
theorem dX12_stateNow_21 : decode cX12_stateNow 21 = .ok (.bipush 9, 2) := by decide +kernel
theorem dX12_stateNow_23 : decode cX12_stateNow 23 = .ok (.aload_n 0, 1) := by decide +kernel
theorem dX12_stateNow_24 : decode cX12_stateNow 24 = .ok (.getfield 9, 3) := by decide +kernel
theorem dX12_stateNow_27 : decode cX12_stateNow 27 = .ok (.bipush 9, 2) := by decide +kernel
theorem dX12_stateNow_29 : decode cX12_stateNow 29 = .ok (.iaload, 1) := by decide +kernel
theorem dX12_stateNow_30 : decode cX12_stateNow 30 = .ok (.imul, 1) := by decide +kernel
theorem dX12_stateNow_31 : decode cX12_stateNow 31 = .ok (.iconst 3, 1) := by decide +kernel
theorem dX12_stateNow_32 : decode cX12_stateNow 32 = .ok (.aload_n 0, 1) := by decide +kernel
theorem dX12_stateNow_33 : decode cX12_stateNow 33 = .ok (.getfield 9, 3) := by decide +kernel
theorem dX12_stateNow_36 : decode cX12_stateNow 36 = .ok (.bipush 10, 2) := by decide +kernel
theorem dX12_stateNow_38 : decode cX12_stateNow 38 = .ok (.iaload, 1) := by decide +kernel
theorem dX12_stateNow_39 : decode cX12_stateNow 39 = .ok (.imul, 1) := by decide +kernel
theorem dX12_stateNow_40 : decode cX12_stateNow 40 = .ok (.iadd, 1) := by decide +kernel
theorem dX12_stateNow_41 : decode cX12_stateNow 41 = .ok (.aload_n 0, 1) := by decide +kernel
theorem dX12_stateNow_42 : decode cX12_stateNow 42 = .ok (.getfield 9, 3) := by decide +kernel
theorem dX12_stateNow_45 : decode cX12_stateNow 45 = .ok (.bipush 11, 2) := by decide +kernel
theorem dX12_stateNow_47 : decode cX12_stateNow 47 = .ok (.iaload, 1) := by decide +kernel
theorem dX12_stateNow_48 : decode cX12_stateNow 48 = .ok (.iadd, 1) := by decide +kernel
theorem dX12_stateNow_49 : decode cX12_stateNow 49 = .ok (.invokestatic 168, 3) := by decide +kernel
theorem dX12_stateNow_52 : decode cX12_stateNow 52 = .ok (.ireturn, 1) := by decide +kernel
theorem dX12_left_0 : decode cX12_left 0 = .ok (.iload_n 0, 1) := by decide +kernel
theorem dX12_left_1 : decode cX12_left 1 = .ok (.bipush 27, 2) := by decide +kernel
theorem dX12_left_3 : decode cX12_left 3 = .ok (.idiv, 1) := by decide +kernel
theorem dX12_left_4 : decode cX12_left 4 = .ok (.istore_n 2, 1) := by decide +kernel
theorem dX12_left_5 : decode cX12_left 5 = .ok (.iload_n 1, 1) := by decide +kernel
theorem dX12_left_6 : decode cX12_left 6 = .ok (.ifCond .ne 10, 3) := by decide +kernel
theorem dX12_left_9 : decode cX12_left 9 = .ok (.iload_n 2, 1) := by decide +kernel
theorem dX12_left_10 : decode cX12_left 10 = .ok (.bipush 36, 2) := by decide +kernel
theorem dX12_left_12 : decode cX12_left 12 = .ok (.idiv, 1) := by decide +kernel
theorem dX12_left_13 : decode cX12_left 13 = .ok (.goto 22, 3) := by decide +kernel
theorem dX12_left_16 : decode cX12_left 16 = .ok (.iload_n 1, 1) := by decide +kernel
theorem dX12_left_17 : decode cX12_left 17 = .ok (.iconst 1, 1) := by decide +kernel
theorem dX12_left_18 : decode cX12_left 18 = .ok (.if_icmp .ne 13, 3) := by decide +kernel
theorem dX12_left_21 : decode cX12_left 21 = .ok (.iload_n 2, 1) := by decide +kernel
theorem dX12_left_22 : decode cX12_left 22 = .ok (.bipush 6, 2) := by decide +kernel
theorem dX12_left_24 : decode cX12_left 24 = .ok (.idiv, 1) := by decide +kernel
theorem dX12_left_25 : decode cX12_left 25 = .ok (.bipush 6, 2) := by decide +kernel
theorem dX12_left_27 : decode cX12_left 27 = .ok (.irem, 1) := by decide +kernel
theorem dX12_left_28 : decode cX12_left 28 = .ok (.goto 7, 3) := by decide +kernel
theorem dX12_left_31 : decode cX12_left 31 = .ok (.iload_n 2, 1) := by decide +kernel
theorem dX12_left_32 : decode cX12_left 32 = .ok (.bipush 6, 2) := by decide +kernel
theorem dX12_left_34 : decode cX12_left 34 = .ok (.irem, 1) := by decide +kernel
theorem dX12_left_35 : decode cX12_left 35 = .ok (.ireturn, 1) := by decide +kernel
theorem dX12_leftInAll_0 : decode cX12_leftInAll 0 = .ok (.iload_n 0, 1) := by decide +kernel
theorem dX12_leftInAll_1 : decode cX12_leftInAll 1 = .ok (.iconst 0, 1) := by decide +kernel
theorem dX12_leftInAll_2 : decode cX12_leftInAll 2 = .ok (.invokestatic 172, 3) := by decide +kernel
theorem dX12_leftInAll_5 : decode cX12_leftInAll 5 = .ok (.iload_n 0, 1) := by decide +kernel
theorem dX12_leftInAll_6 : decode cX12_leftInAll 6 = .ok (.iconst 1, 1) := by decide +kernel
theorem dX12_leftInAll_7 : decode cX12_leftInAll 7 = .ok (.invokestatic 172, 3) := by decide +kernel
theorem dX12_leftInAll_10 : decode cX12_leftInAll 10 = .ok (.iadd, 1) := by decide +kernel
theorem dX12_leftInAll_11 : decode cX12_leftInAll 11 = .ok (.iload_n 0, 1) := by decide +kernel
theorem dX12_leftInAll_12 : decode cX12_leftInAll 12 = .ok (.iconst 2, 1) := by decide +kernel
theorem dX12_leftInAll_13 : decode cX12_leftInAll 13 = .ok (.invokestatic 172, 3) := by decide +kernel
theorem dX12_leftInAll_16 : decode cX12_leftInAll 16 = .ok (.iadd, 1) := by decide +kernel
theorem dX12_leftInAll_17 : decode cX12_leftInAll 17 = .ok (.ireturn, 1) := by decide +kernel
theorem dX12_stageOf_0 : decode cX12_stageOf 0 = .ok (.iload_n 0, 1) := by decide +kernel
theorem dX12_stageOf_1 : decode cX12_stageOf 1 = .ok (.bipush 27, 2) := by decide +kernel
theorem dX12_stageOf_3 : decode cX12_stageOf 3 = .ok (.irem, 1) := by decide +kernel
theorem dX12_stageOf_4 : decode cX12_stageOf 4 = .ok (.istore_n 2, 1) := by decide +kernel
theorem dX12_stageOf_5 : decode cX12_stageOf 5 = .ok (.iload_n 1, 1) := by decide +kernel
theorem dX12_stageOf_6 : decode cX12_stageOf 6 = .ok (.ifCond .ne 10, 3) := by decide +kernel
theorem dX12_stageOf_9 : decode cX12_stageOf 9 = .ok (.iload_n 2, 1) := by decide +kernel
theorem dX12_stageOf_10 : decode cX12_stageOf 10 = .ok (.bipush 9, 2) := by decide +kernel
theorem dX12_stageOf_12 : decode cX12_stageOf 12 = .ok (.idiv, 1) := by decide +kernel
theorem dX12_stageOf_13 : decode cX12_stageOf 13 = .ok (.goto 19, 3) := by decide +kernel
theorem dX12_stageOf_16 : decode cX12_stageOf 16 = .ok (.iload_n 1, 1) := by decide +kernel
theorem dX12_stageOf_17 : decode cX12_stageOf 17 = .ok (.iconst 1, 1) := by decide +kernel
theorem dX12_stageOf_18 : decode cX12_stageOf 18 = .ok (.if_icmp .ne 11, 3) := by decide +kernel
theorem dX12_stageOf_21 : decode cX12_stageOf 21 = .ok (.iload_n 2, 1) := by decide +kernel
theorem dX12_stageOf_22 : decode cX12_stageOf 22 = .ok (.iconst 3, 1) := by decide +kernel
theorem dX12_stageOf_23 : decode cX12_stageOf 23 = .ok (.idiv, 1) := by decide +kernel
theorem dX12_stageOf_24 : decode cX12_stageOf 24 = .ok (.iconst 3, 1) := by decide +kernel
theorem dX12_stageOf_25 : decode cX12_stageOf 25 = .ok (.irem, 1) := by decide +kernel
theorem dX12_stageOf_26 : decode cX12_stageOf 26 = .ok (.goto 6, 3) := by decide +kernel
theorem dX12_stageOf_29 : decode cX12_stageOf 29 = .ok (.iload_n 2, 1) := by decide +kernel
theorem dX12_stageOf_30 : decode cX12_stageOf 30 = .ok (.iconst 3, 1) := by decide +kernel
theorem dX12_stageOf_31 : decode cX12_stageOf 31 = .ok (.irem, 1) := by decide +kernel
theorem dX12_stageOf_32 : decode cX12_stageOf 32 = .ok (.ireturn, 1) := by decide +kernel
theorem dX12_drawn_0 : decode cX12_drawn 0 = .ok (.iload_n 0, 1) := by decide +kernel
theorem dX12_drawn_1 : decode cX12_drawn 1 = .ok (.bipush 27, 2) := by decide +kernel
theorem dX12_drawn_3 : decode cX12_drawn 3 = .ok (.iload_n 1, 1) := by decide +kernel
theorem dX12_drawn_4 : decode cX12_drawn 4 = .ok (.ifCond .ne 8, 3) := by decide +kernel
theorem dX12_drawn_7 : decode cX12_drawn 7 = .ok (.bipush 36, 2) := by decide +kernel
theorem dX12_drawn_9 : decode cX12_drawn 9 = .ok (.goto 14, 3) := by decide +kernel
theorem dX12_drawn_12 : decode cX12_drawn 12 = .ok (.iload_n 1, 1) := by decide +kernel
theorem dX12_drawn_13 : decode cX12_drawn 13 = .ok (.iconst 1, 1) := by decide +kernel
theorem dX12_drawn_14 : decode cX12_drawn 14 = .ok (.if_icmp .ne 8, 3) := by decide +kernel
theorem dX12_drawn_17 : decode cX12_drawn 17 = .ok (.bipush 6, 2) := by decide +kernel
theorem dX12_drawn_19 : decode cX12_drawn 19 = .ok (.goto 4, 3) := by decide +kernel
theorem dX12_drawn_22 : decode cX12_drawn 22 = .ok (.iconst 1, 1) := by decide +kernel
theorem dX12_drawn_23 : decode cX12_drawn 23 = .ok (.imul, 1) := by decide +kernel
theorem dX12_drawn_24 : decode cX12_drawn 24 = .ok (.isub, 1) := by decide +kernel
theorem dX12_drawn_25 : decode cX12_drawn 25 = .ok (.ireturn, 1) := by decide +kernel
theorem dX12_done_0 : decode cX12_done 0 = .ok (.iload_n 1, 1) := by decide +kernel
theorem dX12_done_1 : decode cX12_done 1 = .ok (.iconst (-1), 1) := by decide +kernel
theorem dX12_done_2 : decode cX12_done 2 = .ok (.if_icmp .ne 7, 3) := by decide +kernel
theorem dX12_done_5 : decode cX12_done 5 = .ok (.iload_n 0, 1) := by decide +kernel
theorem dX12_done_6 : decode cX12_done 6 = .ok (.goto 24, 3) := by decide +kernel
theorem dX12_done_9 : decode cX12_done 9 = .ok (.iload_n 0, 1) := by decide +kernel
theorem dX12_done_10 : decode cX12_done 10 = .ok (.iload_n 1, 1) := by decide +kernel
theorem dX12_done_11 : decode cX12_done 11 = .ok (.ifCond .ne 8, 3) := by decide +kernel
theorem dX12_done_14 : decode cX12_done 14 = .ok (.bipush 9, 2) := by decide +kernel
theorem dX12_done_16 : decode cX12_done 16 = .ok (.goto 13, 3) := by decide +kernel
theorem dX12_done_19 : decode cX12_done 19 = .ok (.iload_n 1, 1) := by decide +kernel
theorem dX12_done_20 : decode cX12_done 20 = .ok (.iconst 1, 1) := by decide +kernel
theorem dX12_done_21 : decode cX12_done 21 = .ok (.if_icmp .ne 7, 3) := by decide +kernel
theorem dX12_done_24 : decode cX12_done 24 = .ok (.iconst 3, 1) := by decide +kernel
theorem dX12_done_25 : decode cX12_done 25 = .ok (.goto 4, 3) := by decide +kernel
theorem dX12_done_28 : decode cX12_done 28 = .ok (.iconst 1, 1) := by decide +kernel
theorem dX12_done_29 : decode cX12_done 29 = .ok (.iadd, 1) := by decide +kernel
theorem dX12_done_30 : decode cX12_done 30 = .ok (.ireturn, 1) := by decide +kernel
theorem dX12_asksFromNow_0 : decode cX12_asksFromNow 0 = .ok (.aload_n 0, 1) := by decide +kernel
theorem dX12_asksFromNow_1 : decode cX12_asksFromNow 1 = .ok (.aload_n 0, 1) := by decide +kernel
theorem dX12_asksFromNow_2 : decode cX12_asksFromNow 2 = .ok (.getfield 9, 3) := by decide +kernel
theorem dX12_asksFromNow_5 : decode cX12_asksFromNow 5 = .ok (.iconst 5, 1) := by decide +kernel
theorem dX12_asksFromNow_6 : decode cX12_asksFromNow 6 = .ok (.iaload, 1) := by decide +kernel
theorem dX12_asksFromNow_7 : decode cX12_asksFromNow 7 = .ok (.putfield 176, 3) := by decide +kernel
theorem dX12_asksFromNow_10 : decode cX12_asksFromNow 10 = .ok (.aload_n 0, 1) := by decide +kernel
theorem dX12_asksFromNow_11 : decode cX12_asksFromNow 11 = .ok (.aload_n 0, 1) := by decide +kernel
theorem dX12_asksFromNow_12 : decode cX12_asksFromNow 12 = .ok (.invokevirtual 158, 3) := by decide +kernel
theorem dX12_asksFromNow_15 : decode cX12_asksFromNow 15 = .ok (.putfield 179, 3) := by decide +kernel
theorem dX12_asksFromNow_18 : decode cX12_asksFromNow 18 = .ok (.return_, 1) := by decide +kernel
theorem dX12_can_0 : decode cX12_can 0 = .ok (.iload_n 1, 1) := by decide +kernel
theorem dX12_can_1 : decode cX12_can 1 = .ok (.iload_n 3, 1) := by decide +kernel
theorem dX12_can_2 : decode cX12_can 2 = .ok (.invokestatic 182, 3) := by decide +kernel
theorem dX12_can_5 : decode cX12_can 5 = .ok (.iconst 2, 1) := by decide +kernel
theorem dX12_can_6 : decode cX12_can 6 = .ok (.if_icmp .ne 5, 3) := by decide +kernel
theorem dX12_can_9 : decode cX12_can 9 = .ok (.iconst 0, 1) := by decide +kernel
theorem dX12_can_10 : decode cX12_can 10 = .ok (.ireturn, 1) := by decide +kernel
theorem dX12_can_11 : decode cX12_can 11 = .ok (.bipush 36, 2) := by decide +kernel
theorem dX12_can_13 : decode cX12_can 13 = .ok (.bipush 16, 2) := by decide +kernel
theorem dX12_can_15 : decode cX12_can 15 = .ok (.iload_n 2, 1) := by decide +kernel
theorem dX12_can_16 : decode cX12_can 16 = .ok (.imul, 1) := by decide +kernel
theorem dX12_can_17 : decode cX12_can 17 = .ok (.iload_n 1, 1) := by decide +kernel
theorem dX12_can_18 : decode cX12_can 18 = .ok (.invokestatic 185, 3) := by decide +kernel
theorem dX12_can_21 : decode cX12_can 21 = .ok (.iadd, 1) := by decide +kernel
theorem dX12_can_22 : decode cX12_can 22 = .ok (.imul, 1) := by decide +kernel
theorem dX12_can_23 : decode cX12_can 23 = .ok (.bipush 6, 2) := by decide +kernel
theorem dX12_can_25 : decode cX12_can 25 = .ok (.iload_n 1, 1) := by decide +kernel
theorem dX12_can_26 : decode cX12_can 26 = .ok (.iload_n 2, 1) := by decide +kernel
theorem dX12_can_27 : decode cX12_can 27 = .ok (.invokestatic 172, 3) := by decide +kernel
theorem dX12_can_30 : decode cX12_can 30 = .ok (.imul, 1) := by decide +kernel
theorem dX12_can_31 : decode cX12_can 31 = .ok (.iadd, 1) := by decide +kernel
theorem dX12_can_32 : decode cX12_can 32 = .ok (.iconst 3, 1) := by decide +kernel
theorem dX12_can_33 : decode cX12_can 33 = .ok (.iload_n 1, 1) := by decide +kernel
theorem dX12_can_34 : decode cX12_can 34 = .ok (.iload_n 3, 1) := by decide +kernel
theorem dX12_can_35 : decode cX12_can 35 = .ok (.invokestatic 182, 3) := by decide +kernel
theorem dX12_can_38 : decode cX12_can 38 = .ok (.imul, 1) := by decide +kernel
theorem dX12_can_39 : decode cX12_can 39 = .ok (.iadd, 1) := by decide +kernel
theorem dX12_can_40 : decode cX12_can 40 = .ok (.iload_n 3, 1) := by decide +kernel
theorem dX12_can_41 : decode cX12_can 41 = .ok (.iadd, 1) := by decide +kernel
theorem dX12_can_42 : decode cX12_can 42 = .ok (.istore 4, 2) := by decide +kernel
theorem dX12_can_44 : decode cX12_can 44 = .ok (.aload_n 0, 1) := by decide +kernel
theorem dX12_can_45 : decode cX12_can 45 = .ok (.getfield 25, 3) := by decide +kernel
theorem dX12_can_48 : decode cX12_can 48 = .ok (.iload 4, 2) := by decide +kernel
theorem dX12_can_50 : decode cX12_can 50 = .ok (.iaload, 1) := by decide +kernel
theorem dX12_can_51 : decode cX12_can 51 = .ok (.iconst 2, 1) := by decide +kernel
theorem dX12_can_52 : decode cX12_can 52 = .ok (.idiv, 1) := by decide +kernel
theorem dX12_can_53 : decode cX12_can 53 = .ok (.aload_n 0, 1) := by decide +kernel
theorem dX12_can_54 : decode cX12_can 54 = .ok (.getfield 188, 3) := by decide +kernel
theorem dX12_can_57 : decode cX12_can 57 = .ok (.if_icmp .eq 32, 3) := by decide +kernel
theorem dX12_can_60 : decode cX12_can 60 = .ok (.aload_n 0, 1) := by decide +kernel
theorem dX12_can_61 : decode cX12_can 61 = .ok (.getfield 25, 3) := by decide +kernel
theorem dX12_can_64 : decode cX12_can 64 = .ok (.iload 4, 2) := by decide +kernel
theorem dX12_can_66 : decode cX12_can 66 = .ok (.iconst 2, 1) := by decide +kernel
theorem dX12_can_67 : decode cX12_can 67 = .ok (.aload_n 0, 1) := by decide +kernel
theorem dX12_can_68 : decode cX12_can 68 = .ok (.getfield 188, 3) := by decide +kernel
theorem dX12_can_71 : decode cX12_can 71 = .ok (.imul, 1) := by decide +kernel
theorem dX12_can_72 : decode cX12_can 72 = .ok (.aload_n 0, 1) := by decide +kernel
theorem dX12_can_73 : decode cX12_can 73 = .ok (.iload_n 1, 1) := by decide +kernel
theorem dX12_can_74 : decode cX12_can 74 = .ok (.iload_n 2, 1) := by decide +kernel
theorem dX12_can_75 : decode cX12_can 75 = .ok (.iload_n 3, 1) := by decide +kernel
theorem dX12_can_76 : decode cX12_can 76 = .ok (.invokevirtual 191, 3) := by decide +kernel
theorem dX12_can_79 : decode cX12_can 79 = .ok (.ifCond .eq 7, 3) := by decide +kernel
theorem dX12_can_82 : decode cX12_can 82 = .ok (.iconst 1, 1) := by decide +kernel
theorem dX12_can_83 : decode cX12_can 83 = .ok (.goto 4, 3) := by decide +kernel
theorem dX12_can_86 : decode cX12_can 86 = .ok (.iconst 0, 1) := by decide +kernel
theorem dX12_can_87 : decode cX12_can 87 = .ok (.iadd, 1) := by decide +kernel
theorem dX12_can_88 : decode cX12_can 88 = .ok (.iastore, 1) := by decide +kernel
theorem dX12_can_89 : decode cX12_can 89 = .ok (.aload_n 0, 1) := by decide +kernel
theorem dX12_can_90 : decode cX12_can 90 = .ok (.getfield 25, 3) := by decide +kernel
theorem dX12_can_93 : decode cX12_can 93 = .ok (.iload 4, 2) := by decide +kernel
theorem dX12_can_95 : decode cX12_can 95 = .ok (.iaload, 1) := by decide +kernel
theorem dX12_can_96 : decode cX12_can 96 = .ok (.iconst 2, 1) := by decide +kernel
theorem dX12_can_97 : decode cX12_can 97 = .ok (.irem, 1) := by decide +kernel
theorem dX12_can_98 : decode cX12_can 98 = .ok (.iconst 1, 1) := by decide +kernel
theorem dX12_can_99 : decode cX12_can 99 = .ok (.if_icmp .ne 7, 3) := by decide +kernel
theorem dX12_can_102 : decode cX12_can 102 = .ok (.iconst 1, 1) := by decide +kernel
theorem dX12_can_103 : decode cX12_can 103 = .ok (.goto 4, 3) := by decide +kernel
theorem dX12_can_106 : decode cX12_can 106 = .ok (.iconst 0, 1) := by decide +kernel
theorem dX12_can_107 : decode cX12_can 107 = .ok (.ireturn, 1) := by decide +kernel
theorem dX12_canOn_0 : decode cX12_canOn 0 = .ok (.iload_n 1, 1) := by decide +kernel
theorem dX12_canOn_1 : decode cX12_canOn 1 = .ok (.iload_n 3, 1) := by decide +kernel
theorem dX12_canOn_2 : decode cX12_canOn 2 = .ok (.invokestatic 182, 3) := by decide +kernel
theorem dX12_canOn_5 : decode cX12_canOn 5 = .ok (.iconst 2, 1) := by decide +kernel
theorem dX12_canOn_6 : decode cX12_canOn 6 = .ok (.if_icmp .eq 13, 3) := by decide +kernel
theorem dX12_canOn_9 : decode cX12_canOn 9 = .ok (.aload_n 0, 1) := by decide +kernel
theorem dX12_canOn_10 : decode cX12_canOn 10 = .ok (.getfield 9, 3) := by decide +kernel
theorem dX12_canOn_13 : decode cX12_canOn 13 = .ok (.iconst 4, 1) := by decide +kernel
theorem dX12_canOn_14 : decode cX12_canOn 14 = .ok (.iaload, 1) := by decide +kernel
theorem dX12_canOn_15 : decode cX12_canOn 15 = .ok (.iconst (-1), 1) := by decide +kernel
theorem dX12_canOn_16 : decode cX12_canOn 16 = .ok (.if_icmp .ne 5, 3) := by decide +kernel
theorem dX12_canOn_19 : decode cX12_canOn 19 = .ok (.iconst 0, 1) := by decide +kernel
theorem dX12_canOn_20 : decode cX12_canOn 20 = .ok (.ireturn, 1) := by decide +kernel
theorem dX12_canOn_21 : decode cX12_canOn 21 = .ok (.aload_n 0, 1) := by decide +kernel
theorem dX12_canOn_22 : decode cX12_canOn 22 = .ok (.getfield 18, 3) := by decide +kernel
theorem dX12_canOn_25 : decode cX12_canOn 25 = .ok (.iconst 0, 1) := by decide +kernel
theorem dX12_canOn_26 : decode cX12_canOn 26 = .ok (.iload_n 2, 1) := by decide +kernel
theorem dX12_canOn_27 : decode cX12_canOn 27 = .ok (.iastore, 1) := by decide +kernel
theorem dX12_canOn_28 : decode cX12_canOn 28 = .ok (.aload_n 0, 1) := by decide +kernel
theorem dX12_canOn_29 : decode cX12_canOn 29 = .ok (.getfield 18, 3) := by decide +kernel
theorem dX12_canOn_32 : decode cX12_canOn 32 = .ok (.iconst 1, 1) := by decide +kernel
theorem dX12_canOn_33 : decode cX12_canOn 33 = .ok (.iload_n 1, 1) := by decide +kernel
theorem dX12_canOn_34 : decode cX12_canOn 34 = .ok (.iload_n 3, 1) := by decide +kernel
theorem dX12_canOn_35 : decode cX12_canOn 35 = .ok (.invokestatic 182, 3) := by decide +kernel
theorem dX12_canOn_38 : decode cX12_canOn 38 = .ok (.iastore, 1) := by decide +kernel
theorem dX12_canOn_39 : decode cX12_canOn 39 = .ok (.aload_n 0, 1) := by decide +kernel
theorem dX12_canOn_40 : decode cX12_canOn 40 = .ok (.getfield 18, 3) := by decide +kernel
theorem dX12_canOn_43 : decode cX12_canOn 43 = .ok (.iconst 2, 1) := by decide +kernel
theorem dX12_canOn_44 : decode cX12_canOn 44 = .ok (.iload_n 1, 1) := by decide +kernel
theorem dX12_canOn_45 : decode cX12_canOn 45 = .ok (.invokestatic 185, 3) := by decide +kernel
theorem dX12_canOn_48 : decode cX12_canOn 48 = .ok (.iastore, 1) := by decide +kernel
theorem dX12_canOn_49 : decode cX12_canOn 49 = .ok (.aload_n 0, 1) := by decide +kernel
theorem dX12_canOn_50 : decode cX12_canOn 50 = .ok (.getfield 18, 3) := by decide +kernel
theorem dX12_canOn_53 : decode cX12_canOn 53 = .ok (.iconst 3, 1) := by decide +kernel
theorem dX12_canOn_54 : decode cX12_canOn 54 = .ok (.iload_n 1, 1) := by decide +kernel
theorem dX12_canOn_55 : decode cX12_canOn 55 = .ok (.iload_n 2, 1) := by decide +kernel
theorem dX12_canOn_56 : decode cX12_canOn 56 = .ok (.invokestatic 172, 3) := by decide +kernel
theorem dX12_canOn_59 : decode cX12_canOn 59 = .ok (.iastore, 1) := by decide +kernel
theorem dX12_canOn_60 : decode cX12_canOn 60 = .ok (.aload_n 0, 1) := by decide +kernel
theorem dX12_canOn_61 : decode cX12_canOn 61 = .ok (.getfield 18, 3) := by decide +kernel
theorem dX12_canOn_64 : decode cX12_canOn 64 = .ok (.iconst 4, 1) := by decide +kernel
theorem dX12_canOn_65 : decode cX12_canOn 65 = .ok (.aload_n 0, 1) := by decide +kernel
theorem dX12_canOn_66 : decode cX12_canOn 66 = .ok (.getfield 176, 3) := by decide +kernel
theorem dX12_canOn_69 : decode cX12_canOn 69 = .ok (.aload_n 0, 1) := by decide +kernel
theorem dX12_canOn_70 : decode cX12_canOn 70 = .ok (.getfield 179, 3) := by decide +kernel
theorem dX12_canOn_73 : decode cX12_canOn 73 = .ok (.iadd, 1) := by decide +kernel
theorem dX12_canOn_74 : decode cX12_canOn 74 = .ok (.iload_n 1, 1) := by decide +kernel
theorem dX12_canOn_75 : decode cX12_canOn 75 = .ok (.invokestatic 185, 3) := by decide +kernel
theorem dX12_canOn_78 : decode cX12_canOn 78 = .ok (.isub, 1) := by decide +kernel
theorem dX12_canOn_79 : decode cX12_canOn 79 = .ok (.iconst 1, 1) := by decide +kernel
theorem dX12_canOn_80 : decode cX12_canOn 80 = .ok (.isub, 1) := by decide +kernel
theorem dX12_canOn_81 : decode cX12_canOn 81 = .ok (.iastore, 1) := by decide +kernel
theorem dX12_canOn_82 : decode cX12_canOn 82 = .ok (.aload_n 0, 1) := by decide +kernel
theorem dX12_canOn_83 : decode cX12_canOn 83 = .ok (.getfield 9, 3) := by decide +kernel
theorem dX12_canOn_86 : decode cX12_canOn 86 = .ok (.sipush 187, 3) := by decide +kernel
theorem dX12_canOn_89 : decode cX12_canOn 89 = .ok (.aload_n 0, 1) := by decide +kernel
theorem dX12_canOn_90 : decode cX12_canOn 90 = .ok (.getfield 9, 3) := by decide +kernel
theorem dX12_canOn_93 : decode cX12_canOn 93 = .ok (.iconst 4, 1) := by decide +kernel
theorem dX12_canOn_94 : decode cX12_canOn 94 = .ok (.iaload, 1) := by decide +kernel
theorem dX12_canOn_95 : decode cX12_canOn 95 = .ok (.iadd, 1) := by decide +kernel
theorem dX12_canOn_96 : decode cX12_canOn 96 = .ok (.iaload, 1) := by decide +kernel
theorem dX12_canOn_97 : decode cX12_canOn 97 = .ok (.istore 4, 2) := by decide +kernel
theorem dX12_canOn_99 : decode cX12_canOn 99 = .ok (.sipush 192, 3) := by decide +kernel
theorem dX12_canOn_102 : decode cX12_canOn 102 = .ok (.sipush 140, 3) := by decide +kernel
theorem dX12_canOn_105 : decode cX12_canOn 105 = .ok (.aload_n 0, 1) := by decide +kernel
theorem dX12_canOn_106 : decode cX12_canOn 106 = .ok (.getfield 9, 3) := by decide +kernel
theorem dX12_canOn_109 : decode cX12_canOn 109 = .ok (.iconst 4, 1) := by decide +kernel
theorem dX12_canOn_110 : decode cX12_canOn 110 = .ok (.iaload, 1) := by decide +kernel
theorem dX12_canOn_111 : decode cX12_canOn 111 = .ok (.imul, 1) := by decide +kernel
theorem dX12_canOn_112 : decode cX12_canOn 112 = .ok (.iadd, 1) := by decide +kernel
theorem dX12_canOn_113 : decode cX12_canOn 113 = .ok (.istore 5, 2) := by decide +kernel
theorem dX12_canOn_115 : decode cX12_canOn 115 = .ok (.iconst 0, 1) := by decide +kernel
theorem dX12_canOn_116 : decode cX12_canOn 116 = .ok (.istore 6, 2) := by decide +kernel
theorem dX12_canOn_118 : decode cX12_canOn 118 = .ok (.iconst 0, 1) := by decide +kernel
theorem dX12_canOn_119 : decode cX12_canOn 119 = .ok (.istore 7, 2) := by decide +kernel
theorem dX12_canOn_121 : decode cX12_canOn 121 = .ok (.iload 5, 2) := by decide +kernel
theorem dX12_canOn_123 : decode cX12_canOn 123 = .ok (.istore 8, 2) := by decide +kernel
theorem dX12_canOn_125 : decode cX12_canOn 125 = .ok (.iload 8, 2) := by decide +kernel
theorem dX12_canOn_127 : decode cX12_canOn 127 = .ok (.iload 5, 2) := by decide +kernel
theorem dX12_canOn_129 : decode cX12_canOn 129 = .ok (.iload 4, 2) := by decide +kernel
theorem dX12_canOn_131 : decode cX12_canOn 131 = .ok (.iadd, 1) := by decide +kernel
theorem dX12_canOn_132 : decode cX12_canOn 132 = .ok (.if_icmp .ge 271, 3) := by decide +kernel
theorem dX12_canOn_135 : decode cX12_canOn 135 = .ok (.aload_n 0, 1) := by decide +kernel
theorem dX12_canOn_136 : decode cX12_canOn 136 = .ok (.getfield 9, 3) := by decide +kernel
theorem dX12_canOn_139 : decode cX12_canOn 139 = .ok (.iload 8, 2) := by decide +kernel
theorem dX12_canOn_141 : decode cX12_canOn 141 = .ok (.iaload, 1) := by decide +kernel
theorem dX12_canOn_142 : decode cX12_canOn 142 = .ok (.istore 9, 2) := by decide +kernel
theorem dX12_canOn_144 : decode cX12_canOn 144 = .ok (.iload 9, 2) := by decide +kernel
theorem dX12_canOn_146 : decode cX12_canOn 146 = .ok (.ifCond .lt 97, 3) := by decide +kernel
theorem dX12_canOn_149 : decode cX12_canOn 149 = .ok (.aload_n 0, 1) := by decide +kernel
theorem dX12_canOn_150 : decode cX12_canOn 150 = .ok (.getfield 18, 3) := by decide +kernel
theorem dX12_canOn_153 : decode cX12_canOn 153 = .ok (.iload 9, 2) := by decide +kernel
theorem dX12_canOn_155 : decode cX12_canOn 155 = .ok (.bipush 8, 2) := by decide +kernel
theorem dX12_canOn_157 : decode cX12_canOn 157 = .ok (.irem, 1) := by decide +kernel
theorem dX12_canOn_158 : decode cX12_canOn 158 = .ok (.iaload, 1) := by decide +kernel
theorem dX12_canOn_159 : decode cX12_canOn 159 = .ok (.istore 10, 2) := by decide +kernel
theorem dX12_canOn_161 : decode cX12_canOn 161 = .ok (.iload 9, 2) := by decide +kernel
theorem dX12_canOn_163 : decode cX12_canOn 163 = .ok (.bipush 8, 2) := by decide +kernel
theorem dX12_canOn_165 : decode cX12_canOn 165 = .ok (.idiv, 1) := by decide +kernel
theorem dX12_canOn_166 : decode cX12_canOn 166 = .ok (.iconst 4, 1) := by decide +kernel
theorem dX12_canOn_167 : decode cX12_canOn 167 = .ok (.irem, 1) := by decide +kernel
theorem dX12_canOn_168 : decode cX12_canOn 168 = .ok (.istore 11, 2) := by decide +kernel
theorem dX12_canOn_170 : decode cX12_canOn 170 = .ok (.iload 9, 2) := by decide +kernel
theorem dX12_canOn_172 : decode cX12_canOn 172 = .ok (.bipush 32, 2) := by decide +kernel
theorem dX12_canOn_174 : decode cX12_canOn 174 = .ok (.idiv, 1) := by decide +kernel
theorem dX12_canOn_175 : decode cX12_canOn 175 = .ok (.istore 12, 2) := by decide +kernel
theorem dX12_canOn_177 : decode cX12_canOn 177 = .ok (.aload_n 0, 1) := by decide +kernel
theorem dX12_canOn_178 : decode cX12_canOn 178 = .ok (.getfield 21, 3) := by decide +kernel
theorem dX12_canOn_181 : decode cX12_canOn 181 = .ok (.iload 6, 2) := by decide +kernel
theorem dX12_canOn_183 : decode cX12_canOn 183 = .ok (.iload 11, 2) := by decide +kernel
theorem dX12_canOn_185 : decode cX12_canOn 185 = .ok (.ifCond .ne 18, 3) := by decide +kernel
theorem dX12_canOn_188 : decode cX12_canOn 188 = .ok (.iload 10, 2) := by decide +kernel
theorem dX12_canOn_190 : decode cX12_canOn 190 = .ok (.iload 12, 2) := by decide +kernel
theorem dX12_canOn_192 : decode cX12_canOn 192 = .ok (.if_icmp .ge 7, 3) := by decide +kernel
theorem dX12_canOn_195 : decode cX12_canOn 195 = .ok (.iconst 1, 1) := by decide +kernel
theorem dX12_canOn_196 : decode cX12_canOn 196 = .ok (.goto 40, 3) := by decide +kernel
theorem dX12_canOn_199 : decode cX12_canOn 199 = .ok (.iconst 0, 1) := by decide +kernel
theorem dX12_canOn_200 : decode cX12_canOn 200 = .ok (.goto 36, 3) := by decide +kernel
theorem dX12_canOn_203 : decode cX12_canOn 203 = .ok (.iload 11, 2) := by decide +kernel
theorem dX12_canOn_205 : decode cX12_canOn 205 = .ok (.iconst 1, 1) := by decide +kernel
theorem dX12_canOn_206 : decode cX12_canOn 206 = .ok (.if_icmp .ne 18, 3) := by decide +kernel
theorem dX12_canOn_209 : decode cX12_canOn 209 = .ok (.iload 10, 2) := by decide +kernel
theorem dX12_canOn_211 : decode cX12_canOn 211 = .ok (.iload 12, 2) := by decide +kernel
theorem dX12_canOn_213 : decode cX12_canOn 213 = .ok (.if_icmp .ne 7, 3) := by decide +kernel
theorem dX12_canOn_216 : decode cX12_canOn 216 = .ok (.iconst 1, 1) := by decide +kernel
theorem dX12_canOn_217 : decode cX12_canOn 217 = .ok (.goto 19, 3) := by decide +kernel
theorem dX12_canOn_220 : decode cX12_canOn 220 = .ok (.iconst 0, 1) := by decide +kernel
theorem dX12_canOn_221 : decode cX12_canOn 221 = .ok (.goto 15, 3) := by decide +kernel
theorem dX12_canOn_224 : decode cX12_canOn 224 = .ok (.iload 10, 2) := by decide +kernel
theorem dX12_canOn_226 : decode cX12_canOn 226 = .ok (.iload 12, 2) := by decide +kernel
theorem dX12_canOn_228 : decode cX12_canOn 228 = .ok (.if_icmp .le 7, 3) := by decide +kernel
theorem dX12_canOn_231 : decode cX12_canOn 231 = .ok (.iconst 1, 1) := by decide +kernel
theorem dX12_canOn_232 : decode cX12_canOn 232 = .ok (.goto 4, 3) := by decide +kernel
theorem dX12_canOn_235 : decode cX12_canOn 235 = .ok (.iconst 0, 1) := by decide +kernel
theorem dX12_canOn_236 : decode cX12_canOn 236 = .ok (.bastore, 1) := by decide +kernel
theorem dX12_canOn_237 : decode cX12_canOn 237 = .ok (.iinc 6 1, 3) := by decide +kernel
theorem dX12_canOn_240 : decode cX12_canOn 240 = .ok (.goto 157, 3) := by decide +kernel
theorem dX12_canOn_243 : decode cX12_canOn 243 = .ok (.iload 9, 2) := by decide +kernel
theorem dX12_canOn_245 : decode cX12_canOn 245 = .ok (.iconst (-1), 1) := by decide +kernel
theorem dX12_canOn_246 : decode cX12_canOn 246 = .ok (.if_icmp .ne 32, 3) := by decide +kernel
theorem dX12_canOn_249 : decode cX12_canOn 249 = .ok (.aload_n 0, 1) := by decide +kernel
theorem dX12_canOn_250 : decode cX12_canOn 250 = .ok (.getfield 21, 3) := by decide +kernel
theorem dX12_canOn_253 : decode cX12_canOn 253 = .ok (.iload 6, 2) := by decide +kernel
theorem dX12_canOn_255 : decode cX12_canOn 255 = .ok (.iconst 1, 1) := by decide +kernel
theorem dX12_canOn_256 : decode cX12_canOn 256 = .ok (.isub, 1) := by decide +kernel
theorem dX12_canOn_257 : decode cX12_canOn 257 = .ok (.aload_n 0, 1) := by decide +kernel
theorem dX12_canOn_258 : decode cX12_canOn 258 = .ok (.getfield 21, 3) := by decide +kernel
theorem dX12_canOn_261 : decode cX12_canOn 261 = .ok (.iload 6, 2) := by decide +kernel
theorem dX12_canOn_263 : decode cX12_canOn 263 = .ok (.iconst 1, 1) := by decide +kernel
theorem dX12_canOn_264 : decode cX12_canOn 264 = .ok (.isub, 1) := by decide +kernel
theorem dX12_canOn_265 : decode cX12_canOn 265 = .ok (.baload, 1) := by decide +kernel
theorem dX12_canOn_266 : decode cX12_canOn 266 = .ok (.ifCond .ne 7, 3) := by decide +kernel
theorem dX12_canOn_269 : decode cX12_canOn 269 = .ok (.iconst 1, 1) := by decide +kernel
theorem dX12_canOn_270 : decode cX12_canOn 270 = .ok (.goto 4, 3) := by decide +kernel
theorem dX12_canOn_273 : decode cX12_canOn 273 = .ok (.iconst 0, 1) := by decide +kernel
theorem dX12_canOn_274 : decode cX12_canOn 274 = .ok (.bastore, 1) := by decide +kernel
theorem dX12_canOn_275 : decode cX12_canOn 275 = .ok (.goto 122, 3) := by decide +kernel
theorem dX12_canOn_278 : decode cX12_canOn 278 = .ok (.iload 9, 2) := by decide +kernel
theorem dX12_canOn_280 : decode cX12_canOn 280 = .ok (.bipush (-10), 2) := by decide +kernel
theorem dX12_canOn_282 : decode cX12_canOn 282 = .ok (.if_icmp .le 82, 3) := by decide +kernel
theorem dX12_canOn_285 : decode cX12_canOn 285 = .ok (.iinc 6 (-1), 3) := by decide +kernel
theorem dX12_canOn_288 : decode cX12_canOn 288 = .ok (.aload_n 0, 1) := by decide +kernel
theorem dX12_canOn_289 : decode cX12_canOn 289 = .ok (.getfield 21, 3) := by decide +kernel
theorem dX12_canOn_292 : decode cX12_canOn 292 = .ok (.iload 6, 2) := by decide +kernel
theorem dX12_canOn_294 : decode cX12_canOn 294 = .ok (.iconst 1, 1) := by decide +kernel
theorem dX12_canOn_295 : decode cX12_canOn 295 = .ok (.isub, 1) := by decide +kernel
theorem dX12_canOn_296 : decode cX12_canOn 296 = .ok (.iload 9, 2) := by decide +kernel
theorem dX12_canOn_298 : decode cX12_canOn 298 = .ok (.bipush (-2), 2) := by decide +kernel
theorem dX12_canOn_300 : decode cX12_canOn 300 = .ok (.if_icmp .ne 33, 3) := by decide +kernel
theorem dX12_canOn_303 : decode cX12_canOn 303 = .ok (.aload_n 0, 1) := by decide +kernel
theorem dX12_canOn_304 : decode cX12_canOn 304 = .ok (.getfield 21, 3) := by decide +kernel
theorem dX12_canOn_307 : decode cX12_canOn 307 = .ok (.iload 6, 2) := by decide +kernel
theorem dX12_canOn_309 : decode cX12_canOn 309 = .ok (.iconst 1, 1) := by decide +kernel
theorem dX12_canOn_310 : decode cX12_canOn 310 = .ok (.isub, 1) := by decide +kernel
theorem dX12_canOn_311 : decode cX12_canOn 311 = .ok (.baload, 1) := by decide +kernel
theorem dX12_canOn_312 : decode cX12_canOn 312 = .ok (.ifCond .eq 17, 3) := by decide +kernel
theorem dX12_canOn_315 : decode cX12_canOn 315 = .ok (.aload_n 0, 1) := by decide +kernel
theorem dX12_canOn_316 : decode cX12_canOn 316 = .ok (.getfield 21, 3) := by decide +kernel
theorem dX12_canOn_319 : decode cX12_canOn 319 = .ok (.iload 6, 2) := by decide +kernel
theorem dX12_canOn_321 : decode cX12_canOn 321 = .ok (.baload, 1) := by decide +kernel
theorem dX12_canOn_322 : decode cX12_canOn 322 = .ok (.ifCond .eq 7, 3) := by decide +kernel
theorem dX12_canOn_325 : decode cX12_canOn 325 = .ok (.iconst 1, 1) := by decide +kernel
theorem dX12_canOn_326 : decode cX12_canOn 326 = .ok (.goto 34, 3) := by decide +kernel
theorem dX12_canOn_329 : decode cX12_canOn 329 = .ok (.iconst 0, 1) := by decide +kernel
theorem dX12_canOn_330 : decode cX12_canOn 330 = .ok (.goto 30, 3) := by decide +kernel
theorem dX12_canOn_333 : decode cX12_canOn 333 = .ok (.aload_n 0, 1) := by decide +kernel
theorem dX12_canOn_334 : decode cX12_canOn 334 = .ok (.getfield 21, 3) := by decide +kernel
theorem dX12_canOn_337 : decode cX12_canOn 337 = .ok (.iload 6, 2) := by decide +kernel
theorem dX12_canOn_339 : decode cX12_canOn 339 = .ok (.iconst 1, 1) := by decide +kernel
theorem dX12_canOn_340 : decode cX12_canOn 340 = .ok (.isub, 1) := by decide +kernel
theorem dX12_canOn_341 : decode cX12_canOn 341 = .ok (.baload, 1) := by decide +kernel
theorem dX12_canOn_342 : decode cX12_canOn 342 = .ok (.ifCond .ne 13, 3) := by decide +kernel
theorem dX12_canOn_345 : decode cX12_canOn 345 = .ok (.aload_n 0, 1) := by decide +kernel
theorem dX12_canOn_346 : decode cX12_canOn 346 = .ok (.getfield 21, 3) := by decide +kernel
theorem dX12_canOn_349 : decode cX12_canOn 349 = .ok (.iload 6, 2) := by decide +kernel
theorem dX12_canOn_351 : decode cX12_canOn 351 = .ok (.baload, 1) := by decide +kernel
theorem dX12_canOn_352 : decode cX12_canOn 352 = .ok (.ifCond .eq 7, 3) := by decide +kernel
theorem dX12_canOn_355 : decode cX12_canOn 355 = .ok (.iconst 1, 1) := by decide +kernel
theorem dX12_canOn_356 : decode cX12_canOn 356 = .ok (.goto 4, 3) := by decide +kernel
theorem dX12_canOn_359 : decode cX12_canOn 359 = .ok (.iconst 0, 1) := by decide +kernel
theorem dX12_canOn_360 : decode cX12_canOn 360 = .ok (.bastore, 1) := by decide +kernel
theorem dX12_canOn_361 : decode cX12_canOn 361 = .ok (.goto 36, 3) := by decide +kernel
theorem dX12_canOn_364 : decode cX12_canOn 364 = .ok (.iconst 0, 1) := by decide +kernel
theorem dX12_canOn_365 : decode cX12_canOn 365 = .ok (.istore 6, 2) := by decide +kernel
theorem dX12_canOn_367 : decode cX12_canOn 367 = .ok (.iload 7, 2) := by decide +kernel
theorem dX12_canOn_369 : decode cX12_canOn 369 = .ok (.ifCond .ne 21, 3) := by decide +kernel
theorem dX12_canOn_372 : decode cX12_canOn 372 = .ok (.bipush (-10), 2) := by decide +kernel
theorem dX12_canOn_374 : decode cX12_canOn 374 = .ok (.iload 9, 2) := by decide +kernel
theorem dX12_canOn_376 : decode cX12_canOn 376 = .ok (.isub, 1) := by decide +kernel
theorem dX12_canOn_377 : decode cX12_canOn 377 = .ok (.iload_n 3, 1) := by decide +kernel
theorem dX12_canOn_378 : decode cX12_canOn 378 = .ok (.if_icmp .ne 16, 3) := by decide +kernel
theorem dX12_canOn_381 : decode cX12_canOn 381 = .ok (.aload_n 0, 1) := by decide +kernel
theorem dX12_canOn_382 : decode cX12_canOn 382 = .ok (.getfield 21, 3) := by decide +kernel
theorem dX12_canOn_385 : decode cX12_canOn 385 = .ok (.iconst 0, 1) := by decide +kernel
theorem dX12_canOn_386 : decode cX12_canOn 386 = .ok (.baload, 1) := by decide +kernel
theorem dX12_canOn_387 : decode cX12_canOn 387 = .ok (.ifCond .eq 7, 3) := by decide +kernel
theorem dX12_canOn_390 : decode cX12_canOn 390 = .ok (.iconst 1, 1) := by decide +kernel
theorem dX12_canOn_391 : decode cX12_canOn 391 = .ok (.goto 4, 3) := by decide +kernel
theorem dX12_canOn_394 : decode cX12_canOn 394 = .ok (.iconst 0, 1) := by decide +kernel
theorem dX12_canOn_395 : decode cX12_canOn 395 = .ok (.istore 7, 2) := by decide +kernel
theorem dX12_canOn_397 : decode cX12_canOn 397 = .ok (.iinc 8 1, 3) := by decide +kernel
theorem dX12_canOn_400 : decode cX12_canOn 400 = .ok (.goto (-275), 3) := by decide +kernel
theorem dX12_canOn_403 : decode cX12_canOn 403 = .ok (.iload 7, 2) := by decide +kernel
theorem dX12_canOn_405 : decode cX12_canOn 405 = .ok (.ireturn, 1) := by decide +kernel
theorem dX12_pays_0 : decode cX12_pays 0 = .ok (.iload_n 2, 1) := by decide +kernel
theorem dX12_pays_1 : decode cX12_pays 1 = .ok (.iconst (-1), 1) := by decide +kernel
theorem dX12_pays_2 : decode cX12_pays 2 = .ok (.if_icmp .eq 20, 3) := by decide +kernel
theorem dX12_pays_5 : decode cX12_pays 5 = .ok (.iload_n 1, 1) := by decide +kernel
theorem dX12_pays_6 : decode cX12_pays 6 = .ok (.iload_n 2, 1) := by decide +kernel
theorem dX12_pays_7 : decode cX12_pays 7 = .ok (.invokestatic 182, 3) := by decide +kernel
theorem dX12_pays_10 : decode cX12_pays 10 = .ok (.iconst 1, 1) := by decide +kernel
theorem dX12_pays_11 : decode cX12_pays 11 = .ok (.if_icmp .ne 11, 3) := by decide +kernel
theorem dX12_pays_14 : decode cX12_pays 14 = .ok (.aload_n 0, 1) := by decide +kernel
theorem dX12_pays_15 : decode cX12_pays 15 = .ok (.iload_n 2, 1) := by decide +kernel
theorem dX12_pays_16 : decode cX12_pays 16 = .ok (.invokevirtual 161, 3) := by decide +kernel
theorem dX12_pays_19 : decode cX12_pays 19 = .ok (.goto 4, 3) := by decide +kernel
theorem dX12_pays_22 : decode cX12_pays 22 = .ok (.iconst 0, 1) := by decide +kernel
theorem dX12_pays_23 : decode cX12_pays 23 = .ok (.ireturn, 1) := by decide +kernel
theorem dX12_ordersWith_0 : decode cX12_ordersWith 0 = .ok (.iload_n 0, 1) := by decide +kernel
theorem dX12_ordersWith_1 : decode cX12_ordersWith 1 = .ok (.iload_n 1, 1) := by decide +kernel
theorem dX12_ordersWith_2 : decode cX12_ordersWith 2 = .ok (.iadd, 1) := by decide +kernel
theorem dX12_ordersWith_3 : decode cX12_ordersWith 3 = .ok (.iload_n 2, 1) := by decide +kernel
theorem dX12_ordersWith_4 : decode cX12_ordersWith 4 = .ok (.iadd, 1) := by decide +kernel
theorem dX12_ordersWith_5 : decode cX12_ordersWith 5 = .ok (.iload_n 0, 1) := by decide +kernel
theorem dX12_ordersWith_6 : decode cX12_ordersWith 6 = .ok (.invokestatic 194, 3) := by decide +kernel
theorem dX12_ordersWith_9 : decode cX12_ordersWith 9 = .ok (.iload_n 1, 1) := by decide +kernel
theorem dX12_ordersWith_10 : decode cX12_ordersWith 10 = .ok (.iload_n 2, 1) := by decide +kernel
theorem dX12_ordersWith_11 : decode cX12_ordersWith 11 = .ok (.iadd, 1) := by decide +kernel
theorem dX12_ordersWith_12 : decode cX12_ordersWith 12 = .ok (.iload_n 1, 1) := by decide +kernel
theorem dX12_ordersWith_13 : decode cX12_ordersWith 13 = .ok (.invokestatic 194, 3) := by decide +kernel
theorem dX12_ordersWith_16 : decode cX12_ordersWith 16 = .ok (.lmul, 1) := by decide +kernel
theorem dX12_ordersWith_17 : decode cX12_ordersWith 17 = .ok (.lreturn, 1) := by decide +kernel
theorem dX12_ordersOf_0 : decode cX12_ordersOf 0 = .ok (.iload_n 0, 1) := by decide +kernel
theorem dX12_ordersOf_1 : decode cX12_ordersOf 1 = .ok (.iconst 0, 1) := by decide +kernel
theorem dX12_ordersOf_2 : decode cX12_ordersOf 2 = .ok (.invokestatic 172, 3) := by decide +kernel
theorem dX12_ordersOf_5 : decode cX12_ordersOf 5 = .ok (.iload_n 0, 1) := by decide +kernel
theorem dX12_ordersOf_6 : decode cX12_ordersOf 6 = .ok (.iconst 1, 1) := by decide +kernel
theorem dX12_ordersOf_7 : decode cX12_ordersOf 7 = .ok (.invokestatic 172, 3) := by decide +kernel
theorem dX12_ordersOf_10 : decode cX12_ordersOf 10 = .ok (.iload_n 0, 1) := by decide +kernel
theorem dX12_ordersOf_11 : decode cX12_ordersOf 11 = .ok (.iconst 2, 1) := by decide +kernel
theorem dX12_ordersOf_12 : decode cX12_ordersOf 12 = .ok (.invokestatic 172, 3) := by decide +kernel
theorem dX12_ordersOf_15 : decode cX12_ordersOf 15 = .ok (.invokestatic 198, 3) := by decide +kernel
theorem dX12_ordersOf_18 : decode cX12_ordersOf 18 = .ok (.lreturn, 1) := by decide +kernel
theorem dX12_chooses_0 : decode cX12_chooses 0 = .ok (.iload_n 1, 1) := by decide +kernel
theorem dX12_chooses_1 : decode cX12_chooses 1 = .ok (.ifCond .lt 8, 3) := by decide +kernel
theorem dX12_chooses_4 : decode cX12_chooses 4 = .ok (.iload_n 1, 1) := by decide +kernel
theorem dX12_chooses_5 : decode cX12_chooses 5 = .ok (.iload_n 0, 1) := by decide +kernel
theorem dX12_chooses_6 : decode cX12_chooses 6 = .ok (.if_icmp .le 5, 3) := by decide +kernel
theorem dX12_chooses_9 : decode cX12_chooses 9 = .ok (.lconst 0, 1) := by decide +kernel
theorem dX12_chooses_10 : decode cX12_chooses 10 = .ok (.lreturn, 1) := by decide +kernel
theorem dX12_chooses_11 : decode cX12_chooses 11 = .ok (.lconst 1, 1) := by decide +kernel
theorem dX12_chooses_12 : decode cX12_chooses 12 = .ok (.lstore_n 2, 1) := by decide +kernel
theorem dX12_chooses_13 : decode cX12_chooses 13 = .ok (.iconst 1, 1) := by decide +kernel
theorem dX12_chooses_14 : decode cX12_chooses 14 = .ok (.istore 4, 2) := by decide +kernel
theorem dX12_chooses_16 : decode cX12_chooses 16 = .ok (.iload 4, 2) := by decide +kernel
theorem dX12_chooses_18 : decode cX12_chooses 18 = .ok (.iload_n 1, 1) := by decide +kernel
theorem dX12_chooses_19 : decode cX12_chooses 19 = .ok (.if_icmp .gt 23, 3) := by decide +kernel
theorem dX12_chooses_22 : decode cX12_chooses 22 = .ok (.lload_n 2, 1) := by decide +kernel
theorem dX12_chooses_23 : decode cX12_chooses 23 = .ok (.iload_n 0, 1) := by decide +kernel
theorem dX12_chooses_24 : decode cX12_chooses 24 = .ok (.iload_n 1, 1) := by decide +kernel
theorem dX12_chooses_25 : decode cX12_chooses 25 = .ok (.isub, 1) := by decide +kernel
theorem dX12_chooses_26 : decode cX12_chooses 26 = .ok (.iload 4, 2) := by decide +kernel
theorem dX12_chooses_28 : decode cX12_chooses 28 = .ok (.iadd, 1) := by decide +kernel
theorem dX12_chooses_29 : decode cX12_chooses 29 = .ok (.i2l, 1) := by decide +kernel
theorem dX12_chooses_30 : decode cX12_chooses 30 = .ok (.lmul, 1) := by decide +kernel
theorem dX12_chooses_31 : decode cX12_chooses 31 = .ok (.iload 4, 2) := by decide +kernel
theorem dX12_chooses_33 : decode cX12_chooses 33 = .ok (.i2l, 1) := by decide +kernel
theorem dX12_chooses_34 : decode cX12_chooses 34 = .ok (.ldiv, 1) := by decide +kernel
theorem dX12_chooses_35 : decode cX12_chooses 35 = .ok (.lstore_n 2, 1) := by decide +kernel
theorem dX12_chooses_36 : decode cX12_chooses 36 = .ok (.iinc 4 1, 3) := by decide +kernel
theorem dX12_chooses_39 : decode cX12_chooses 39 = .ok (.goto (-23), 3) := by decide +kernel
theorem dX12_chooses_42 : decode cX12_chooses 42 = .ok (.lload_n 2, 1) := by decide +kernel
theorem dX12_chooses_43 : decode cX12_chooses 43 = .ok (.lreturn, 1) := by decide +kernel
theorem dX12_bestOn_0 : decode cX12_bestOn 0 = .ok (.aload_n 0, 1) := by decide +kernel
theorem dX12_bestOn_1 : decode cX12_bestOn 1 = .ok (.iload_n 1, 1) := by decide +kernel
theorem dX12_bestOn_2 : decode cX12_bestOn 2 = .ok (.invokevirtual 202, 3) := by decide +kernel
theorem dX12_bestOn_5 : decode cX12_bestOn 5 = .ok (.lstore_n 3, 1) := by decide +kernel
theorem dX12_bestOn_6 : decode cX12_bestOn 6 = .ok (.iconst 3, 1) := by decide +kernel
theorem dX12_bestOn_7 : decode cX12_bestOn 7 = .ok (.istore 5, 2) := by decide +kernel
theorem dX12_bestOn_9 : decode cX12_bestOn 9 = .ok (.iconst 0, 1) := by decide +kernel
theorem dX12_bestOn_10 : decode cX12_bestOn 10 = .ok (.istore 6, 2) := by decide +kernel
theorem dX12_bestOn_12 : decode cX12_bestOn 12 = .ok (.iload 6, 2) := by decide +kernel
theorem dX12_bestOn_14 : decode cX12_bestOn 14 = .ok (.iconst 3, 1) := by decide +kernel
theorem dX12_bestOn_15 : decode cX12_bestOn 15 = .ok (.if_icmp .ge 76, 3) := by decide +kernel
theorem dX12_bestOn_18 : decode cX12_bestOn 18 = .ok (.aload_n 0, 1) := by decide +kernel
theorem dX12_bestOn_19 : decode cX12_bestOn 19 = .ok (.iload_n 1, 1) := by decide +kernel
theorem dX12_bestOn_20 : decode cX12_bestOn 20 = .ok (.iload_n 2, 1) := by decide +kernel
theorem dX12_bestOn_21 : decode cX12_bestOn 21 = .ok (.iload 6, 2) := by decide +kernel
theorem dX12_bestOn_23 : decode cX12_bestOn 23 = .ok (.invokevirtual 206, 3) := by decide +kernel
theorem dX12_bestOn_26 : decode cX12_bestOn 26 = .ok (.ifCond .eq 59, 3) := by decide +kernel
theorem dX12_bestOn_29 : decode cX12_bestOn 29 = .ok (.iload_n 1, 1) := by decide +kernel
theorem dX12_bestOn_30 : decode cX12_bestOn 30 = .ok (.invokestatic 209, 3) := by decide +kernel
theorem dX12_bestOn_33 : decode cX12_bestOn 33 = .ok (.aload_n 0, 1) := by decide +kernel
theorem dX12_bestOn_34 : decode cX12_bestOn 34 = .ok (.iload_n 1, 1) := by decide +kernel
theorem dX12_bestOn_35 : decode cX12_bestOn 35 = .ok (.iload 6, 2) := by decide +kernel
theorem dX12_bestOn_37 : decode cX12_bestOn 37 = .ok (.invokevirtual 212, 3) := by decide +kernel
theorem dX12_bestOn_40 : decode cX12_bestOn 40 = .ok (.i2l, 1) := by decide +kernel
theorem dX12_bestOn_41 : decode cX12_bestOn 41 = .ok (.lmul, 1) := by decide +kernel
theorem dX12_bestOn_42 : decode cX12_bestOn 42 = .ok (.aload_n 0, 1) := by decide +kernel
theorem dX12_bestOn_43 : decode cX12_bestOn 43 = .ok (.iload_n 1, 1) := by decide +kernel
theorem dX12_bestOn_44 : decode cX12_bestOn 44 = .ok (.iload 6, 2) := by decide +kernel
theorem dX12_bestOn_46 : decode cX12_bestOn 46 = .ok (.invokestatic 215, 3) := by decide +kernel
theorem dX12_bestOn_49 : decode cX12_bestOn 49 = .ok (.invokevirtual 202, 3) := by decide +kernel
theorem dX12_bestOn_52 : decode cX12_bestOn 52 = .ok (.ladd, 1) := by decide +kernel
theorem dX12_bestOn_53 : decode cX12_bestOn 53 = .ok (.lstore 7, 2) := by decide +kernel
theorem dX12_bestOn_55 : decode cX12_bestOn 55 = .ok (.lload 7, 2) := by decide +kernel
theorem dX12_bestOn_57 : decode cX12_bestOn 57 = .ok (.lload_n 3, 1) := by decide +kernel
theorem dX12_bestOn_58 : decode cX12_bestOn 58 = .ok (.lcmp, 1) := by decide +kernel
theorem dX12_bestOn_59 : decode cX12_bestOn 59 = .ok (.ifCond .le 8, 3) := by decide +kernel
theorem dX12_bestOn_62 : decode cX12_bestOn 62 = .ok (.iload 6, 2) := by decide +kernel
theorem dX12_bestOn_64 : decode cX12_bestOn 64 = .ok (.goto 5, 3) := by decide +kernel
theorem dX12_bestOn_67 : decode cX12_bestOn 67 = .ok (.iload 5, 2) := by decide +kernel
theorem dX12_bestOn_69 : decode cX12_bestOn 69 = .ok (.istore 5, 2) := by decide +kernel
theorem dX12_bestOn_71 : decode cX12_bestOn 71 = .ok (.lload 7, 2) := by decide +kernel
theorem dX12_bestOn_73 : decode cX12_bestOn 73 = .ok (.lload_n 3, 1) := by decide +kernel
theorem dX12_bestOn_74 : decode cX12_bestOn 74 = .ok (.lcmp, 1) := by decide +kernel
theorem dX12_bestOn_75 : decode cX12_bestOn 75 = .ok (.ifCond .le 8, 3) := by decide +kernel
theorem dX12_bestOn_78 : decode cX12_bestOn 78 = .ok (.lload 7, 2) := by decide +kernel
theorem dX12_bestOn_80 : decode cX12_bestOn 80 = .ok (.goto 4, 3) := by decide +kernel
theorem dX12_bestOn_83 : decode cX12_bestOn 83 = .ok (.lload_n 3, 1) := by decide +kernel
theorem dX12_bestOn_84 : decode cX12_bestOn 84 = .ok (.lstore_n 3, 1) := by decide +kernel
theorem dX12_bestOn_85 : decode cX12_bestOn 85 = .ok (.iinc 6 1, 3) := by decide +kernel
theorem dX12_bestOn_88 : decode cX12_bestOn 88 = .ok (.goto (-76), 3) := by decide +kernel
theorem dX12_bestOn_91 : decode cX12_bestOn 91 = .ok (.aload_n 0, 1) := by decide +kernel
theorem dX12_bestOn_92 : decode cX12_bestOn 92 = .ok (.getfield 35, 3) := by decide +kernel
theorem dX12_bestOn_95 : decode cX12_bestOn 95 = .ok (.iconst 3, 1) := by decide +kernel
theorem dX12_bestOn_96 : decode cX12_bestOn 96 = .ok (.iload_n 1, 1) := by decide +kernel
theorem dX12_bestOn_97 : decode cX12_bestOn 97 = .ok (.imul, 1) := by decide +kernel
theorem dX12_bestOn_98 : decode cX12_bestOn 98 = .ok (.iload_n 2, 1) := by decide +kernel
theorem dX12_bestOn_99 : decode cX12_bestOn 99 = .ok (.iadd, 1) := by decide +kernel
theorem dX12_bestOn_100 : decode cX12_bestOn 100 = .ok (.iload 5, 2) := by decide +kernel
theorem dX12_bestOn_102 : decode cX12_bestOn 102 = .ok (.iastore, 1) := by decide +kernel
theorem dX12_bestOn_103 : decode cX12_bestOn 103 = .ok (.lload_n 3, 1) := by decide +kernel
theorem dX12_bestOn_104 : decode cX12_bestOn 104 = .ok (.lreturn, 1) := by decide +kernel
theorem dX12_best_0 : decode cX12_best 0 = .ok (.aload_n 0, 1) := by decide +kernel
theorem dX12_best_1 : decode cX12_best 1 = .ok (.getfield 32, 3) := by decide +kernel
theorem dX12_best_4 : decode cX12_best 4 = .ok (.iload_n 1, 1) := by decide +kernel
theorem dX12_best_5 : decode cX12_best 5 = .ok (.iaload, 1) := by decide +kernel
theorem dX12_best_6 : decode cX12_best 6 = .ok (.aload_n 0, 1) := by decide +kernel
theorem dX12_best_7 : decode cX12_best 7 = .ok (.getfield 188, 3) := by decide +kernel
theorem dX12_best_10 : decode cX12_best 10 = .ok (.if_icmp .ne 10, 3) := by decide +kernel
theorem dX12_best_13 : decode cX12_best 13 = .ok (.aload_n 0, 1) := by decide +kernel
theorem dX12_best_14 : decode cX12_best 14 = .ok (.getfield 28, 3) := by decide +kernel
theorem dX12_best_17 : decode cX12_best 17 = .ok (.iload_n 1, 1) := by decide +kernel
theorem dX12_best_18 : decode cX12_best 18 = .ok (.laload, 1) := by decide +kernel
theorem dX12_best_19 : decode cX12_best 19 = .ok (.lreturn, 1) := by decide +kernel
theorem dX12_best_20 : decode cX12_best 20 = .ok (.lconst 0, 1) := by decide +kernel
theorem dX12_best_21 : decode cX12_best 21 = .ok (.lstore_n 2, 1) := by decide +kernel
theorem dX12_best_22 : decode cX12_best 22 = .ok (.iconst 0, 1) := by decide +kernel
theorem dX12_best_23 : decode cX12_best 23 = .ok (.istore 4, 2) := by decide +kernel
theorem dX12_best_25 : decode cX12_best 25 = .ok (.iload 4, 2) := by decide +kernel
theorem dX12_best_27 : decode cX12_best 27 = .ok (.iconst 3, 1) := by decide +kernel
theorem dX12_best_28 : decode cX12_best 28 = .ok (.if_icmp .ge 37, 3) := by decide +kernel
theorem dX12_best_31 : decode cX12_best 31 = .ok (.lload_n 2, 1) := by decide +kernel
theorem dX12_best_32 : decode cX12_best 32 = .ok (.iload_n 1, 1) := by decide +kernel
theorem dX12_best_33 : decode cX12_best 33 = .ok (.iload 4, 2) := by decide +kernel
theorem dX12_best_35 : decode cX12_best 35 = .ok (.invokestatic 172, 3) := by decide +kernel
theorem dX12_best_38 : decode cX12_best 38 = .ok (.ifCond .le 18, 3) := by decide +kernel
theorem dX12_best_41 : decode cX12_best 41 = .ok (.aload_n 0, 1) := by decide +kernel
theorem dX12_best_42 : decode cX12_best 42 = .ok (.iload_n 1, 1) := by decide +kernel
theorem dX12_best_43 : decode cX12_best 43 = .ok (.iload 4, 2) := by decide +kernel
theorem dX12_best_45 : decode cX12_best 45 = .ok (.invokestatic 218, 3) := by decide +kernel
theorem dX12_best_48 : decode cX12_best 48 = .ok (.iload 4, 2) := by decide +kernel
theorem dX12_best_50 : decode cX12_best 50 = .ok (.invokevirtual 221, 3) := by decide +kernel
theorem dX12_best_53 : decode cX12_best 53 = .ok (.goto 4, 3) := by decide +kernel
theorem dX12_best_56 : decode cX12_best 56 = .ok (.lconst 0, 1) := by decide +kernel
theorem dX12_best_57 : decode cX12_best 57 = .ok (.ladd, 1) := by decide +kernel
theorem dX12_best_58 : decode cX12_best 58 = .ok (.lstore_n 2, 1) := by decide +kernel
theorem dX12_best_59 : decode cX12_best 59 = .ok (.iinc 4 1, 3) := by decide +kernel
theorem dX12_best_62 : decode cX12_best 62 = .ok (.goto (-37), 3) := by decide +kernel
theorem dX12_best_65 : decode cX12_best 65 = .ok (.aload_n 0, 1) := by decide +kernel
theorem dX12_best_66 : decode cX12_best 66 = .ok (.getfield 32, 3) := by decide +kernel
theorem dX12_best_69 : decode cX12_best 69 = .ok (.iload_n 1, 1) := by decide +kernel
theorem dX12_best_70 : decode cX12_best 70 = .ok (.aload_n 0, 1) := by decide +kernel
theorem dX12_best_71 : decode cX12_best 71 = .ok (.getfield 188, 3) := by decide +kernel
theorem dX12_best_74 : decode cX12_best 74 = .ok (.iastore, 1) := by decide +kernel
theorem dX12_best_75 : decode cX12_best 75 = .ok (.aload_n 0, 1) := by decide +kernel
theorem dX12_best_76 : decode cX12_best 76 = .ok (.getfield 28, 3) := by decide +kernel
theorem dX12_best_79 : decode cX12_best 79 = .ok (.iload_n 1, 1) := by decide +kernel
theorem dX12_best_80 : decode cX12_best 80 = .ok (.lload_n 2, 1) := by decide +kernel
theorem dX12_best_81 : decode cX12_best 81 = .ok (.lastore, 1) := by decide +kernel
theorem dX12_best_82 : decode cX12_best 82 = .ok (.lload_n 2, 1) := by decide +kernel
theorem dX12_best_83 : decode cX12_best 83 = .ok (.lreturn, 1) := by decide +kernel
theorem dX12_looks_0 : decode cX12_looks 0 = .ok (.aload_n 0, 1) := by decide +kernel
theorem dX12_looks_1 : decode cX12_looks 1 = .ok (.dup, 1) := by decide +kernel
theorem dX12_looks_2 : decode cX12_looks 2 = .ok (.getfield 188, 3) := by decide +kernel
theorem dX12_looks_5 : decode cX12_looks 5 = .ok (.iconst 1, 1) := by decide +kernel
theorem dX12_looks_6 : decode cX12_looks 6 = .ok (.iadd, 1) := by decide +kernel
theorem dX12_looks_7 : decode cX12_looks 7 = .ok (.putfield 188, 3) := by decide +kernel
theorem dX12_looks_10 : decode cX12_looks 10 = .ok (.aload_n 0, 1) := by decide +kernel
theorem dX12_looks_11 : decode cX12_looks 11 = .ok (.invokevirtual 224, 3) := by decide +kernel
theorem dX12_looks_14 : decode cX12_looks 14 = .ok (.return_, 1) := by decide +kernel
theorem dX12_worker_0 : decode cX12_worker 0 = .ok (.iload_n 1, 1) := by decide +kernel
theorem dX12_worker_1 : decode cX12_worker 1 = .ok (.iconst 0, 1) := by decide +kernel
theorem dX12_worker_2 : decode cX12_worker 2 = .ok (.bipush 6, 2) := by decide +kernel
theorem dX12_worker_4 : decode cX12_worker 4 = .ok (.invokestatic 69, 3) := by decide +kernel
theorem dX12_worker_7 : decode cX12_worker 7 = .ok (.ifCond .ne 5, 3) := by decide +kernel
theorem dX12_worker_10 : decode cX12_worker 10 = .ok (.iconst (-1), 1) := by decide +kernel
theorem dX12_worker_11 : decode cX12_worker 11 = .ok (.ireturn, 1) := by decide +kernel
theorem dX12_worker_12 : decode cX12_worker 12 = .ok (.iload_n 2, 1) := by decide +kernel
theorem dX12_worker_13 : decode cX12_worker 13 = .ok (.iconst 0, 1) := by decide +kernel
theorem dX12_worker_14 : decode cX12_worker 14 = .ok (.bipush 9, 2) := by decide +kernel
theorem dX12_worker_16 : decode cX12_worker 16 = .ok (.invokestatic 69, 3) := by decide +kernel
theorem dX12_worker_19 : decode cX12_worker 19 = .ok (.ifCond .ne 6, 3) := by decide +kernel
theorem dX12_worker_22 : decode cX12_worker 22 = .ok (.bipush (-2), 2) := by decide +kernel
theorem dX12_worker_24 : decode cX12_worker 24 = .ok (.ireturn, 1) := by decide +kernel
theorem dX12_worker_25 : decode cX12_worker 25 = .ok (.aload_n 0, 1) := by decide +kernel
theorem dX12_worker_26 : decode cX12_worker 26 = .ok (.getfield 9, 3) := by decide +kernel
theorem dX12_worker_29 : decode cX12_worker 29 = .ok (.iconst 0, 1) := by decide +kernel
theorem dX12_worker_30 : decode cX12_worker 30 = .ok (.iaload, 1) := by decide +kernel
theorem dX12_worker_31 : decode cX12_worker 31 = .ok (.bipush 8, 2) := by decide +kernel
theorem dX12_worker_33 : decode cX12_worker 33 = .ok (.if_icmp .ne 6, 3) := by decide +kernel
theorem dX12_worker_36 : decode cX12_worker 36 = .ok (.bipush (-4), 2) := by decide +kernel
theorem dX12_worker_38 : decode cX12_worker 38 = .ok (.ireturn, 1) := by decide +kernel
theorem dX12_worker_39 : decode cX12_worker 39 = .ok (.aload_n 0, 1) := by decide +kernel
theorem dX12_worker_40 : decode cX12_worker 40 = .ok (.getfield 9, 3) := by decide +kernel
theorem dX12_worker_43 : decode cX12_worker 43 = .ok (.iconst 0, 1) := by decide +kernel
theorem dX12_worker_44 : decode cX12_worker 44 = .ok (.iaload, 1) := by decide +kernel
theorem dX12_worker_45 : decode cX12_worker 45 = .ok (.istore_n 3, 1) := by decide +kernel
theorem dX12_worker_46 : decode cX12_worker 46 = .ok (.aload_n 0, 1) := by decide +kernel
theorem dX12_worker_47 : decode cX12_worker 47 = .ok (.getfield 9, 3) := by decide +kernel
theorem dX12_worker_50 : decode cX12_worker 50 = .ok (.bipush 112, 2) := by decide +kernel
theorem dX12_worker_52 : decode cX12_worker 52 = .ok (.iload_n 3, 1) := by decide +kernel
theorem dX12_worker_53 : decode cX12_worker 53 = .ok (.iadd, 1) := by decide +kernel
theorem dX12_worker_54 : decode cX12_worker 54 = .ok (.iload_n 1, 1) := by decide +kernel
theorem dX12_worker_55 : decode cX12_worker 55 = .ok (.iastore, 1) := by decide +kernel
theorem dX12_worker_56 : decode cX12_worker 56 = .ok (.aload_n 0, 1) := by decide +kernel
theorem dX12_worker_57 : decode cX12_worker 57 = .ok (.getfield 9, 3) := by decide +kernel
theorem dX12_worker_60 : decode cX12_worker 60 = .ok (.bipush 120, 2) := by decide +kernel
theorem dX12_worker_62 : decode cX12_worker 62 = .ok (.iload_n 3, 1) := by decide +kernel
theorem dX12_worker_63 : decode cX12_worker 63 = .ok (.iadd, 1) := by decide +kernel
theorem dX12_worker_64 : decode cX12_worker 64 = .ok (.iload_n 2, 1) := by decide +kernel
theorem dX12_worker_65 : decode cX12_worker 65 = .ok (.iastore, 1) := by decide +kernel
theorem dX12_worker_66 : decode cX12_worker 66 = .ok (.iconst 0, 1) := by decide +kernel
theorem dX12_worker_67 : decode cX12_worker 67 = .ok (.istore 4, 2) := by decide +kernel
theorem dX12_worker_69 : decode cX12_worker 69 = .ok (.iload 4, 2) := by decide +kernel
theorem dX12_worker_71 : decode cX12_worker 71 = .ok (.iconst 3, 1) := by decide +kernel
theorem dX12_worker_72 : decode cX12_worker 72 = .ok (.if_icmp .ge 25, 3) := by decide +kernel
theorem dX12_worker_75 : decode cX12_worker 75 = .ok (.aload_n 0, 1) := by decide +kernel
theorem dX12_worker_76 : decode cX12_worker 76 = .ok (.getfield 9, 3) := by decide +kernel
theorem dX12_worker_79 : decode cX12_worker 79 = .ok (.sipush 128, 3) := by decide +kernel
theorem dX12_worker_82 : decode cX12_worker 82 = .ok (.iconst 3, 1) := by decide +kernel
theorem dX12_worker_83 : decode cX12_worker 83 = .ok (.iload_n 3, 1) := by decide +kernel
theorem dX12_worker_84 : decode cX12_worker 84 = .ok (.imul, 1) := by decide +kernel
theorem dX12_worker_85 : decode cX12_worker 85 = .ok (.iadd, 1) := by decide +kernel
theorem dX12_worker_86 : decode cX12_worker 86 = .ok (.iload 4, 2) := by decide +kernel
theorem dX12_worker_88 : decode cX12_worker 88 = .ok (.iadd, 1) := by decide +kernel
theorem dX12_worker_89 : decode cX12_worker 89 = .ok (.iconst 3, 1) := by decide +kernel
theorem dX12_worker_90 : decode cX12_worker 90 = .ok (.iastore, 1) := by decide +kernel
theorem dX12_worker_91 : decode cX12_worker 91 = .ok (.iinc 4 1, 3) := by decide +kernel
theorem dX12_worker_94 : decode cX12_worker 94 = .ok (.goto (-25), 3) := by decide +kernel
theorem dX12_worker_97 : decode cX12_worker 97 = .ok (.aload_n 0, 1) := by decide +kernel
theorem dX12_worker_98 : decode cX12_worker 98 = .ok (.getfield 9, 3) := by decide +kernel
theorem dX12_worker_101 : decode cX12_worker 101 = .ok (.iconst 0, 1) := by decide +kernel
theorem dX12_worker_102 : decode cX12_worker 102 = .ok (.dup2, 1) := by decide +kernel
theorem dX12_worker_103 : decode cX12_worker 103 = .ok (.iaload, 1) := by decide +kernel
theorem dX12_worker_104 : decode cX12_worker 104 = .ok (.iconst 1, 1) := by decide +kernel
theorem dX12_worker_105 : decode cX12_worker 105 = .ok (.iadd, 1) := by decide +kernel
theorem dX12_worker_106 : decode cX12_worker 106 = .ok (.iastore, 1) := by decide +kernel
theorem dX12_worker_107 : decode cX12_worker 107 = .ok (.iload_n 3, 1) := by decide +kernel
theorem dX12_worker_108 : decode cX12_worker 108 = .ok (.ireturn, 1) := by decide +kernel
theorem dX12_row_0 : decode cX12_row 0 = .ok (.aload_n 0, 1) := by decide +kernel
theorem dX12_row_1 : decode cX12_row 1 = .ok (.iload_n 1, 1) := by decide +kernel
theorem dX12_row_2 : decode cX12_row 2 = .ok (.invokevirtual 227, 3) := by decide +kernel
theorem dX12_row_5 : decode cX12_row 5 = .ok (.ifCond .eq 10, 3) := by decide +kernel
theorem dX12_row_8 : decode cX12_row 8 = .ok (.iload_n 2, 1) := by decide +kernel
theorem dX12_row_9 : decode cX12_row 9 = .ok (.invokestatic 73, 3) := by decide +kernel
theorem dX12_row_12 : decode cX12_row 12 = .ok (.ifCond .ne 5, 3) := by decide +kernel
theorem dX12_row_15 : decode cX12_row 15 = .ok (.iconst (-1), 1) := by decide +kernel
theorem dX12_row_16 : decode cX12_row 16 = .ok (.ireturn, 1) := by decide +kernel
theorem dX12_row_17 : decode cX12_row 17 = .ok (.iload_n 3, 1) := by decide +kernel
theorem dX12_row_18 : decode cX12_row 18 = .ok (.iconst 0, 1) := by decide +kernel
theorem dX12_row_19 : decode cX12_row 19 = .ok (.iconst 3, 1) := by decide +kernel
theorem dX12_row_20 : decode cX12_row 20 = .ok (.invokestatic 69, 3) := by decide +kernel
theorem dX12_row_23 : decode cX12_row 23 = .ok (.ifCond .ne 6, 3) := by decide +kernel
theorem dX12_row_26 : decode cX12_row 26 = .ok (.bipush (-2), 2) := by decide +kernel
theorem dX12_row_28 : decode cX12_row 28 = .ok (.ireturn, 1) := by decide +kernel
theorem dX12_row_29 : decode cX12_row 29 = .ok (.aload_n 0, 1) := by decide +kernel
theorem dX12_row_30 : decode cX12_row 30 = .ok (.getfield 9, 3) := by decide +kernel
theorem dX12_row_33 : decode cX12_row 33 = .ok (.bipush 112, 2) := by decide +kernel
theorem dX12_row_35 : decode cX12_row 35 = .ok (.iload_n 1, 1) := by decide +kernel
theorem dX12_row_36 : decode cX12_row 36 = .ok (.iadd, 1) := by decide +kernel
theorem dX12_row_37 : decode cX12_row 37 = .ok (.iaload, 1) := by decide +kernel
theorem dX12_row_38 : decode cX12_row 38 = .ok (.bipush 6, 2) := by decide +kernel
theorem dX12_row_40 : decode cX12_row 40 = .ok (.if_icmp .eq 6, 3) := by decide +kernel
theorem dX12_row_43 : decode cX12_row 43 = .ok (.bipush (-3), 2) := by decide +kernel
theorem dX12_row_45 : decode cX12_row 45 = .ok (.ireturn, 1) := by decide +kernel
theorem dX12_row_46 : decode cX12_row 46 = .ok (.aload_n 0, 1) := by decide +kernel
theorem dX12_row_47 : decode cX12_row 47 = .ok (.getfield 9, 3) := by decide +kernel
theorem dX12_row_50 : decode cX12_row 50 = .ok (.sipush 128, 3) := by decide +kernel
theorem dX12_row_53 : decode cX12_row 53 = .ok (.iconst 3, 1) := by decide +kernel
theorem dX12_row_54 : decode cX12_row 54 = .ok (.iload_n 1, 1) := by decide +kernel
theorem dX12_row_55 : decode cX12_row 55 = .ok (.imul, 1) := by decide +kernel
theorem dX12_row_56 : decode cX12_row 56 = .ok (.iadd, 1) := by decide +kernel
theorem dX12_row_57 : decode cX12_row 57 = .ok (.iload_n 2, 1) := by decide +kernel
theorem dX12_row_58 : decode cX12_row 58 = .ok (.iadd, 1) := by decide +kernel
theorem dX12_row_59 : decode cX12_row 59 = .ok (.iaload, 1) := by decide +kernel
theorem dX12_row_60 : decode cX12_row 60 = .ok (.istore 4, 2) := by decide +kernel
theorem dX12_row_62 : decode cX12_row 62 = .ok (.aload_n 0, 1) := by decide +kernel
theorem dX12_row_63 : decode cX12_row 63 = .ok (.getfield 9, 3) := by decide +kernel
theorem dX12_row_66 : decode cX12_row 66 = .ok (.sipush 128, 3) := by decide +kernel
theorem dX12_row_69 : decode cX12_row 69 = .ok (.iconst 3, 1) := by decide +kernel
theorem dX12_row_70 : decode cX12_row 70 = .ok (.iload_n 1, 1) := by decide +kernel
theorem dX12_row_71 : decode cX12_row 71 = .ok (.imul, 1) := by decide +kernel
theorem dX12_row_72 : decode cX12_row 72 = .ok (.iadd, 1) := by decide +kernel
theorem dX12_row_73 : decode cX12_row 73 = .ok (.iload_n 2, 1) := by decide +kernel
theorem dX12_row_74 : decode cX12_row 74 = .ok (.iadd, 1) := by decide +kernel
theorem dX12_row_75 : decode cX12_row 75 = .ok (.iload_n 3, 1) := by decide +kernel
theorem dX12_row_76 : decode cX12_row 76 = .ok (.iastore, 1) := by decide +kernel
theorem dX12_row_77 : decode cX12_row 77 = .ok (.iload 4, 2) := by decide +kernel
theorem dX12_row_79 : decode cX12_row 79 = .ok (.ireturn, 1) := by decide +kernel
theorem dX12_plainly_0 : decode cX12_plainly 0 = .ok (.aload_n 0, 1) := by decide +kernel
theorem dX12_plainly_1 : decode cX12_plainly 1 = .ok (.iload_n 1, 1) := by decide +kernel
theorem dX12_plainly_2 : decode cX12_plainly 2 = .ok (.iload_n 2, 1) := by decide +kernel
theorem dX12_plainly_3 : decode cX12_plainly 3 = .ok (.iconst 0, 1) := by decide +kernel
theorem dX12_plainly_4 : decode cX12_plainly 4 = .ok (.invokevirtual 206, 3) := by decide +kernel
theorem dX12_plainly_7 : decode cX12_plainly 7 = .ok (.ifCond .eq 7, 3) := by decide +kernel
theorem dX12_plainly_10 : decode cX12_plainly 10 = .ok (.iconst 0, 1) := by decide +kernel
theorem dX12_plainly_11 : decode cX12_plainly 11 = .ok (.goto 32, 3) := by decide +kernel
theorem dX12_plainly_14 : decode cX12_plainly 14 = .ok (.aload_n 0, 1) := by decide +kernel
theorem dX12_plainly_15 : decode cX12_plainly 15 = .ok (.iload_n 1, 1) := by decide +kernel
theorem dX12_plainly_16 : decode cX12_plainly 16 = .ok (.iload_n 2, 1) := by decide +kernel
theorem dX12_plainly_17 : decode cX12_plainly 17 = .ok (.iconst 1, 1) := by decide +kernel
theorem dX12_plainly_18 : decode cX12_plainly 18 = .ok (.invokevirtual 206, 3) := by decide +kernel
theorem dX12_plainly_21 : decode cX12_plainly 21 = .ok (.ifCond .eq 7, 3) := by decide +kernel
theorem dX12_plainly_24 : decode cX12_plainly 24 = .ok (.iconst 1, 1) := by decide +kernel
theorem dX12_plainly_25 : decode cX12_plainly 25 = .ok (.goto 18, 3) := by decide +kernel
theorem dX12_plainly_28 : decode cX12_plainly 28 = .ok (.aload_n 0, 1) := by decide +kernel
theorem dX12_plainly_29 : decode cX12_plainly 29 = .ok (.iload_n 1, 1) := by decide +kernel
theorem dX12_plainly_30 : decode cX12_plainly 30 = .ok (.iload_n 2, 1) := by decide +kernel
theorem dX12_plainly_31 : decode cX12_plainly 31 = .ok (.iconst 2, 1) := by decide +kernel
theorem dX12_plainly_32 : decode cX12_plainly 32 = .ok (.invokevirtual 206, 3) := by decide +kernel
theorem dX12_plainly_35 : decode cX12_plainly 35 = .ok (.ifCond .eq 7, 3) := by decide +kernel
theorem dX12_plainly_38 : decode cX12_plainly 38 = .ok (.iconst 2, 1) := by decide +kernel
theorem dX12_plainly_39 : decode cX12_plainly 39 = .ok (.goto 4, 3) := by decide +kernel
theorem dX12_plainly_42 : decode cX12_plainly 42 = .ok (.iconst (-1), 1) := by decide +kernel
theorem dX12_plainly_43 : decode cX12_plainly 43 = .ok (.ireturn, 1) := by decide +kernel
theorem dX12_leftOne_0 : decode cX12_leftOne 0 = .ok (.iconst (-1), 1) := by decide +kernel
theorem dX12_leftOne_1 : decode cX12_leftOne 1 = .ok (.istore_n 3, 1) := by decide +kernel
theorem dX12_leftOne_2 : decode cX12_leftOne 2 = .ok (.iconst 0, 1) := by decide +kernel
theorem dX12_leftOne_3 : decode cX12_leftOne 3 = .ok (.istore 4, 2) := by decide +kernel
theorem dX12_leftOne_5 : decode cX12_leftOne 5 = .ok (.iload 4, 2) := by decide +kernel
theorem dX12_leftOne_7 : decode cX12_leftOne 7 = .ok (.iconst 3, 1) := by decide +kernel
theorem dX12_leftOne_8 : decode cX12_leftOne 8 = .ok (.if_icmp .ge 46, 3) := by decide +kernel
theorem dX12_leftOne_11 : decode cX12_leftOne 11 = .ok (.aload_n 0, 1) := by decide +kernel
theorem dX12_leftOne_12 : decode cX12_leftOne 12 = .ok (.iload_n 1, 1) := by decide +kernel
theorem dX12_leftOne_13 : decode cX12_leftOne 13 = .ok (.iload_n 2, 1) := by decide +kernel
theorem dX12_leftOne_14 : decode cX12_leftOne 14 = .ok (.iload 4, 2) := by decide +kernel
theorem dX12_leftOne_16 : decode cX12_leftOne 16 = .ok (.invokevirtual 206, 3) := by decide +kernel
theorem dX12_leftOne_19 : decode cX12_leftOne 19 = .ok (.ifCond .eq 27, 3) := by decide +kernel
theorem dX12_leftOne_22 : decode cX12_leftOne 22 = .ok (.iload_n 3, 1) := by decide +kernel
theorem dX12_leftOne_23 : decode cX12_leftOne 23 = .ok (.iconst (-1), 1) := by decide +kernel
theorem dX12_leftOne_24 : decode cX12_leftOne 24 = .ok (.if_icmp .eq 17, 3) := by decide +kernel
theorem dX12_leftOne_27 : decode cX12_leftOne 27 = .ok (.aload_n 0, 1) := by decide +kernel
theorem dX12_leftOne_28 : decode cX12_leftOne 28 = .ok (.iload 4, 2) := by decide +kernel
theorem dX12_leftOne_30 : decode cX12_leftOne 30 = .ok (.invokevirtual 161, 3) := by decide +kernel
theorem dX12_leftOne_33 : decode cX12_leftOne 33 = .ok (.aload_n 0, 1) := by decide +kernel
theorem dX12_leftOne_34 : decode cX12_leftOne 34 = .ok (.iload_n 3, 1) := by decide +kernel
theorem dX12_leftOne_35 : decode cX12_leftOne 35 = .ok (.invokevirtual 161, 3) := by decide +kernel
theorem dX12_leftOne_38 : decode cX12_leftOne 38 = .ok (.if_icmp .le 8, 3) := by decide +kernel
theorem dX12_leftOne_41 : decode cX12_leftOne 41 = .ok (.iload 4, 2) := by decide +kernel
theorem dX12_leftOne_43 : decode cX12_leftOne 43 = .ok (.goto 4, 3) := by decide +kernel
theorem dX12_leftOne_46 : decode cX12_leftOne 46 = .ok (.iload_n 3, 1) := by decide +kernel
theorem dX12_leftOne_47 : decode cX12_leftOne 47 = .ok (.istore_n 3, 1) := by decide +kernel
theorem dX12_leftOne_48 : decode cX12_leftOne 48 = .ok (.iinc 4 1, 3) := by decide +kernel
theorem dX12_leftOne_51 : decode cX12_leftOne 51 = .ok (.goto (-46), 3) := by decide +kernel
theorem dX12_leftOne_54 : decode cX12_leftOne 54 = .ok (.iload_n 3, 1) := by decide +kernel
theorem dX12_leftOne_55 : decode cX12_leftOne 55 = .ok (.ireturn, 1) := by decide +kernel
theorem dX12_surely_0 : decode cX12_surely 0 = .ok (.iconst 0, 1) := by decide +kernel
theorem dX12_surely_1 : decode cX12_surely 1 = .ok (.istore_n 3, 1) := by decide +kernel
theorem dX12_surely_2 : decode cX12_surely 2 = .ok (.iload_n 3, 1) := by decide +kernel
theorem dX12_surely_3 : decode cX12_surely 3 = .ok (.iconst 3, 1) := by decide +kernel
theorem dX12_surely_4 : decode cX12_surely 4 = .ok (.if_icmp .ge 30, 3) := by decide +kernel
theorem dX12_surely_7 : decode cX12_surely 7 = .ok (.iload_n 1, 1) := by decide +kernel
theorem dX12_surely_8 : decode cX12_surely 8 = .ok (.iload_n 3, 1) := by decide +kernel
theorem dX12_surely_9 : decode cX12_surely 9 = .ok (.invokestatic 182, 3) := by decide +kernel
theorem dX12_surely_12 : decode cX12_surely 12 = .ok (.iconst 1, 1) := by decide +kernel
theorem dX12_surely_13 : decode cX12_surely 13 = .ok (.if_icmp .ne 15, 3) := by decide +kernel
theorem dX12_surely_16 : decode cX12_surely 16 = .ok (.aload_n 0, 1) := by decide +kernel
theorem dX12_surely_17 : decode cX12_surely 17 = .ok (.iload_n 1, 1) := by decide +kernel
theorem dX12_surely_18 : decode cX12_surely 18 = .ok (.iload_n 2, 1) := by decide +kernel
theorem dX12_surely_19 : decode cX12_surely 19 = .ok (.iload_n 3, 1) := by decide +kernel
theorem dX12_surely_20 : decode cX12_surely 20 = .ok (.invokevirtual 206, 3) := by decide +kernel
theorem dX12_surely_23 : decode cX12_surely 23 = .ok (.ifCond .eq 5, 3) := by decide +kernel
theorem dX12_surely_26 : decode cX12_surely 26 = .ok (.iload_n 3, 1) := by decide +kernel
theorem dX12_surely_27 : decode cX12_surely 27 = .ok (.ireturn, 1) := by decide +kernel
theorem dX12_surely_28 : decode cX12_surely 28 = .ok (.iinc 3 1, 3) := by decide +kernel
theorem dX12_surely_31 : decode cX12_surely 31 = .ok (.goto (-29), 3) := by decide +kernel
theorem dX12_surely_34 : decode cX12_surely 34 = .ok (.aload_n 0, 1) := by decide +kernel
theorem dX12_surely_35 : decode cX12_surely 35 = .ok (.iload_n 1, 1) := by decide +kernel
theorem dX12_surely_36 : decode cX12_surely 36 = .ok (.iload_n 2, 1) := by decide +kernel
theorem dX12_surely_37 : decode cX12_surely 37 = .ok (.invokevirtual 230, 3) := by decide +kernel
theorem dX12_surely_40 : decode cX12_surely 40 = .ok (.ireturn, 1) := by decide +kernel
theorem dX12_waiting_0 : decode cX12_waiting 0 = .ok (.iload_n 2, 1) := by decide +kernel
theorem dX12_waiting_1 : decode cX12_waiting 1 = .ok (.invokestatic 185, 3) := by decide +kernel
theorem dX12_waiting_4 : decode cX12_waiting 4 = .ok (.aload_n 0, 1) := by decide +kernel
theorem dX12_waiting_5 : decode cX12_waiting 5 = .ok (.getfield 9, 3) := by decide +kernel
theorem dX12_waiting_8 : decode cX12_waiting 8 = .ok (.bipush 120, 2) := by decide +kernel
theorem dX12_waiting_10 : decode cX12_waiting 10 = .ok (.iload_n 1, 1) := by decide +kernel
theorem dX12_waiting_11 : decode cX12_waiting 11 = .ok (.iadd, 1) := by decide +kernel
theorem dX12_waiting_12 : decode cX12_waiting 12 = .ok (.iaload, 1) := by decide +kernel
theorem dX12_waiting_13 : decode cX12_waiting 13 = .ok (.if_icmp .gt 12, 3) := by decide +kernel
theorem dX12_waiting_16 : decode cX12_waiting 16 = .ok (.aload_n 0, 1) := by decide +kernel
theorem dX12_waiting_17 : decode cX12_waiting 17 = .ok (.iload_n 2, 1) := by decide +kernel
theorem dX12_waiting_18 : decode cX12_waiting 18 = .ok (.iload_n 3, 1) := by decide +kernel
theorem dX12_waiting_19 : decode cX12_waiting 19 = .ok (.invokevirtual 230, 3) := by decide +kernel
theorem dX12_waiting_22 : decode cX12_waiting 22 = .ok (.goto 4, 3) := by decide +kernel
theorem dX12_waiting_25 : decode cX12_waiting 25 = .ok (.iconst (-1), 1) := by decide +kernel
theorem dX12_waiting_26 : decode cX12_waiting 26 = .ok (.ireturn, 1) := by decide +kernel
theorem dX12_bestly_0 : decode cX12_bestly 0 = .ok (.aload_n 0, 1) := by decide +kernel
theorem dX12_bestly_1 : decode cX12_bestly 1 = .ok (.iload_n 1, 1) := by decide +kernel
theorem dX12_bestly_2 : decode cX12_bestly 2 = .ok (.iload_n 2, 1) := by decide +kernel
theorem dX12_bestly_3 : decode cX12_bestly 3 = .ok (.invokevirtual 221, 3) := by decide +kernel
theorem dX12_bestly_6 : decode cX12_bestly 6 = .ok (.lstore_n 3, 1) := by decide +kernel
theorem dX12_bestly_7 : decode cX12_bestly 7 = .ok (.aload_n 0, 1) := by decide +kernel
theorem dX12_bestly_8 : decode cX12_bestly 8 = .ok (.getfield 35, 3) := by decide +kernel
theorem dX12_bestly_11 : decode cX12_bestly 11 = .ok (.iconst 3, 1) := by decide +kernel
theorem dX12_bestly_12 : decode cX12_bestly 12 = .ok (.iload_n 1, 1) := by decide +kernel
theorem dX12_bestly_13 : decode cX12_bestly 13 = .ok (.imul, 1) := by decide +kernel
theorem dX12_bestly_14 : decode cX12_bestly 14 = .ok (.iload_n 2, 1) := by decide +kernel
theorem dX12_bestly_15 : decode cX12_bestly 15 = .ok (.iadd, 1) := by decide +kernel
theorem dX12_bestly_16 : decode cX12_bestly 16 = .ok (.iaload, 1) := by decide +kernel
theorem dX12_bestly_17 : decode cX12_bestly 17 = .ok (.istore 5, 2) := by decide +kernel
theorem dX12_bestly_19 : decode cX12_bestly 19 = .ok (.iload 5, 2) := by decide +kernel
theorem dX12_bestly_21 : decode cX12_bestly 21 = .ok (.iconst 3, 1) := by decide +kernel
theorem dX12_bestly_22 : decode cX12_bestly 22 = .ok (.if_icmp .ne 7, 3) := by decide +kernel
theorem dX12_bestly_25 : decode cX12_bestly 25 = .ok (.iconst (-1), 1) := by decide +kernel
theorem dX12_bestly_26 : decode cX12_bestly 26 = .ok (.goto 5, 3) := by decide +kernel
theorem dX12_bestly_29 : decode cX12_bestly 29 = .ok (.iload 5, 2) := by decide +kernel
theorem dX12_bestly_31 : decode cX12_bestly 31 = .ok (.ireturn, 1) := by decide +kernel
theorem dX12_doesOn_0 : decode cX12_doesOn 0 = .ok (.aload_n 0, 1) := by decide +kernel
theorem dX12_doesOn_1 : decode cX12_doesOn 1 = .ok (.getfield 9, 3) := by decide +kernel
theorem dX12_doesOn_4 : decode cX12_doesOn 4 = .ok (.sipush 128, 3) := by decide +kernel
theorem dX12_doesOn_7 : decode cX12_doesOn 7 = .ok (.iconst 3, 1) := by decide +kernel
theorem dX12_doesOn_8 : decode cX12_doesOn 8 = .ok (.iload_n 1, 1) := by decide +kernel
theorem dX12_doesOn_9 : decode cX12_doesOn 9 = .ok (.imul, 1) := by decide +kernel
theorem dX12_doesOn_10 : decode cX12_doesOn 10 = .ok (.iadd, 1) := by decide +kernel
theorem dX12_doesOn_11 : decode cX12_doesOn 11 = .ok (.iload_n 3, 1) := by decide +kernel
theorem dX12_doesOn_12 : decode cX12_doesOn 12 = .ok (.iadd, 1) := by decide +kernel
theorem dX12_doesOn_13 : decode cX12_doesOn 13 = .ok (.iaload, 1) := by decide +kernel
theorem dX12_doesOn_14 : decode cX12_doesOn 14 = .ok (.istore 4, 2) := by decide +kernel
theorem dX12_doesOn_16 : decode cX12_doesOn 16 = .ok (.aload_n 0, 1) := by decide +kernel
theorem dX12_doesOn_17 : decode cX12_doesOn 17 = .ok (.getfield 9, 3) := by decide +kernel
theorem dX12_doesOn_20 : decode cX12_doesOn 20 = .ok (.bipush 112, 2) := by decide +kernel
theorem dX12_doesOn_22 : decode cX12_doesOn 22 = .ok (.iload_n 1, 1) := by decide +kernel
theorem dX12_doesOn_23 : decode cX12_doesOn 23 = .ok (.iadd, 1) := by decide +kernel
theorem dX12_doesOn_24 : decode cX12_doesOn 24 = .ok (.iaload, 1) := by decide +kernel
theorem dX12_doesOn_25 : decode cX12_doesOn 25 = .ok (.tableswitch 105 1 6 #[39, 46, 53, 61, 68, 75], 39) := by decide +kernel
theorem dX12_doesOn_64 : decode cX12_doesOn 64 = .ok (.aload_n 0, 1) := by decide +kernel
theorem dX12_doesOn_65 : decode cX12_doesOn 65 = .ok (.iload_n 2, 1) := by decide +kernel
theorem dX12_doesOn_66 : decode cX12_doesOn 66 = .ok (.iload_n 3, 1) := by decide +kernel
theorem dX12_doesOn_67 : decode cX12_doesOn 67 = .ok (.invokevirtual 230, 3) := by decide +kernel
theorem dX12_doesOn_70 : decode cX12_doesOn 70 = .ok (.ireturn, 1) := by decide +kernel
theorem dX12_doesOn_71 : decode cX12_doesOn 71 = .ok (.aload_n 0, 1) := by decide +kernel
theorem dX12_doesOn_72 : decode cX12_doesOn 72 = .ok (.iload_n 2, 1) := by decide +kernel
theorem dX12_doesOn_73 : decode cX12_doesOn 73 = .ok (.iload_n 3, 1) := by decide +kernel
theorem dX12_doesOn_74 : decode cX12_doesOn 74 = .ok (.invokevirtual 233, 3) := by decide +kernel
theorem dX12_doesOn_77 : decode cX12_doesOn 77 = .ok (.ireturn, 1) := by decide +kernel
theorem dX12_doesOn_78 : decode cX12_doesOn 78 = .ok (.aload_n 0, 1) := by decide +kernel
theorem dX12_doesOn_79 : decode cX12_doesOn 79 = .ok (.iload_n 1, 1) := by decide +kernel
theorem dX12_doesOn_80 : decode cX12_doesOn 80 = .ok (.iload_n 2, 1) := by decide +kernel
theorem dX12_doesOn_81 : decode cX12_doesOn 81 = .ok (.iload_n 3, 1) := by decide +kernel
theorem dX12_doesOn_82 : decode cX12_doesOn 82 = .ok (.invokevirtual 236, 3) := by decide +kernel
theorem dX12_doesOn_85 : decode cX12_doesOn 85 = .ok (.ireturn, 1) := by decide +kernel
theorem dX12_doesOn_86 : decode cX12_doesOn 86 = .ok (.aload_n 0, 1) := by decide +kernel
theorem dX12_doesOn_87 : decode cX12_doesOn 87 = .ok (.iload_n 2, 1) := by decide +kernel
theorem dX12_doesOn_88 : decode cX12_doesOn 88 = .ok (.iload_n 3, 1) := by decide +kernel
theorem dX12_doesOn_89 : decode cX12_doesOn 89 = .ok (.invokevirtual 240, 3) := by decide +kernel
theorem dX12_doesOn_92 : decode cX12_doesOn 92 = .ok (.ireturn, 1) := by decide +kernel
theorem dX12_doesOn_93 : decode cX12_doesOn 93 = .ok (.aload_n 0, 1) := by decide +kernel
theorem dX12_doesOn_94 : decode cX12_doesOn 94 = .ok (.iload_n 2, 1) := by decide +kernel
theorem dX12_doesOn_95 : decode cX12_doesOn 95 = .ok (.iload_n 3, 1) := by decide +kernel
theorem dX12_doesOn_96 : decode cX12_doesOn 96 = .ok (.invokevirtual 243, 3) := by decide +kernel
theorem dX12_doesOn_99 : decode cX12_doesOn 99 = .ok (.ireturn, 1) := by decide +kernel
theorem dX12_doesOn_100 : decode cX12_doesOn 100 = .ok (.iload 4, 2) := by decide +kernel
theorem dX12_doesOn_102 : decode cX12_doesOn 102 = .ok (.iconst 3, 1) := by decide +kernel
theorem dX12_doesOn_103 : decode cX12_doesOn 103 = .ok (.if_icmp .ge 19, 3) := by decide +kernel
theorem dX12_doesOn_106 : decode cX12_doesOn 106 = .ok (.aload_n 0, 1) := by decide +kernel
theorem dX12_doesOn_107 : decode cX12_doesOn 107 = .ok (.iload_n 2, 1) := by decide +kernel
theorem dX12_doesOn_108 : decode cX12_doesOn 108 = .ok (.iload_n 3, 1) := by decide +kernel
theorem dX12_doesOn_109 : decode cX12_doesOn 109 = .ok (.iload 4, 2) := by decide +kernel
theorem dX12_doesOn_111 : decode cX12_doesOn 111 = .ok (.invokevirtual 206, 3) := by decide +kernel
theorem dX12_doesOn_114 : decode cX12_doesOn 114 = .ok (.ifCond .eq 8, 3) := by decide +kernel
theorem dX12_doesOn_117 : decode cX12_doesOn 117 = .ok (.iload 4, 2) := by decide +kernel
theorem dX12_doesOn_119 : decode cX12_doesOn 119 = .ok (.goto 10, 3) := by decide +kernel
theorem dX12_doesOn_122 : decode cX12_doesOn 122 = .ok (.aload_n 0, 1) := by decide +kernel
theorem dX12_doesOn_123 : decode cX12_doesOn 123 = .ok (.iload_n 1, 1) := by decide +kernel
theorem dX12_doesOn_124 : decode cX12_doesOn 124 = .ok (.iload_n 2, 1) := by decide +kernel
theorem dX12_doesOn_125 : decode cX12_doesOn 125 = .ok (.iload_n 3, 1) := by decide +kernel
theorem dX12_doesOn_126 : decode cX12_doesOn 126 = .ok (.invokevirtual 236, 3) := by decide +kernel
theorem dX12_doesOn_129 : decode cX12_doesOn 129 = .ok (.ireturn, 1) := by decide +kernel
theorem dX12_doesOn_130 : decode cX12_doesOn 130 = .ok (.iconst (-1), 1) := by decide +kernel
theorem dX12_doesOn_131 : decode cX12_doesOn 131 = .ok (.ireturn, 1) := by decide +kernel
theorem dX12_of_0 : decode cX12_of 0 = .ok (.aload_n 0, 1) := by decide +kernel
theorem dX12_of_1 : decode cX12_of 1 = .ok (.iload_n 1, 1) := by decide +kernel
theorem dX12_of_2 : decode cX12_of 2 = .ok (.invokevirtual 227, 3) := by decide +kernel
theorem dX12_of_5 : decode cX12_of 5 = .ok (.ifCond .ne 5, 3) := by decide +kernel
theorem dX12_of_8 : decode cX12_of 8 = .ok (.iconst (-1), 1) := by decide +kernel
theorem dX12_of_9 : decode cX12_of 9 = .ok (.ireturn, 1) := by decide +kernel
theorem dX12_of_10 : decode cX12_of 10 = .ok (.iload_n 2, 1) := by decide +kernel
theorem dX12_of_11 : decode cX12_of 11 = .ok (.ifCond .eq 8, 3) := by decide +kernel
theorem dX12_of_14 : decode cX12_of 14 = .ok (.iload_n 2, 1) := by decide +kernel
theorem dX12_of_15 : decode cX12_of 15 = .ok (.iconst 1, 1) := by decide +kernel
theorem dX12_of_16 : decode cX12_of 16 = .ok (.if_icmp .ne 29, 3) := by decide +kernel
theorem dX12_of_19 : decode cX12_of 19 = .ok (.iload_n 2, 1) := by decide +kernel
theorem dX12_of_20 : decode cX12_of 20 = .ok (.ifCond .ne 15, 3) := by decide +kernel
theorem dX12_of_23 : decode cX12_of 23 = .ok (.aload_n 0, 1) := by decide +kernel
theorem dX12_of_24 : decode cX12_of 24 = .ok (.getfield 9, 3) := by decide +kernel
theorem dX12_of_27 : decode cX12_of 27 = .ok (.bipush 112, 2) := by decide +kernel
theorem dX12_of_29 : decode cX12_of 29 = .ok (.iload_n 1, 1) := by decide +kernel
theorem dX12_of_30 : decode cX12_of 30 = .ok (.iadd, 1) := by decide +kernel
theorem dX12_of_31 : decode cX12_of 31 = .ok (.iaload, 1) := by decide +kernel
theorem dX12_of_32 : decode cX12_of 32 = .ok (.goto 12, 3) := by decide +kernel
theorem dX12_of_35 : decode cX12_of 35 = .ok (.aload_n 0, 1) := by decide +kernel
theorem dX12_of_36 : decode cX12_of 36 = .ok (.getfield 9, 3) := by decide +kernel
theorem dX12_of_39 : decode cX12_of 39 = .ok (.bipush 120, 2) := by decide +kernel
theorem dX12_of_41 : decode cX12_of 41 = .ok (.iload_n 1, 1) := by decide +kernel
theorem dX12_of_42 : decode cX12_of 42 = .ok (.iadd, 1) := by decide +kernel
theorem dX12_of_43 : decode cX12_of 43 = .ok (.iaload, 1) := by decide +kernel
theorem dX12_of_44 : decode cX12_of 44 = .ok (.ireturn, 1) := by decide +kernel
theorem dX12_of_45 : decode cX12_of 45 = .ok (.iload_n 2, 1) := by decide +kernel
theorem dX12_of_46 : decode cX12_of 46 = .ok (.bipush 10, 2) := by decide +kernel
theorem dX12_of_48 : decode cX12_of 48 = .ok (.bipush 12, 2) := by decide +kernel
theorem dX12_of_50 : decode cX12_of 50 = .ok (.invokestatic 69, 3) := by decide +kernel
theorem dX12_of_53 : decode cX12_of 53 = .ok (.ifCond .ne 5, 3) := by decide +kernel
theorem dX12_of_56 : decode cX12_of 56 = .ok (.iconst (-1), 1) := by decide +kernel
theorem dX12_of_57 : decode cX12_of 57 = .ok (.ireturn, 1) := by decide +kernel
theorem dX12_of_58 : decode cX12_of 58 = .ok (.iload_n 2, 1) := by decide +kernel
theorem dX12_of_59 : decode cX12_of 59 = .ok (.bipush 10, 2) := by decide +kernel
theorem dX12_of_61 : decode cX12_of 61 = .ok (.isub, 1) := by decide +kernel
theorem dX12_of_62 : decode cX12_of 62 = .ok (.istore_n 3, 1) := by decide +kernel
theorem dX12_of_63 : decode cX12_of 63 = .ok (.aload_n 0, 1) := by decide +kernel
theorem dX12_of_64 : decode cX12_of 64 = .ok (.getfield 9, 3) := by decide +kernel
theorem dX12_of_67 : decode cX12_of 67 = .ok (.bipush 6, 2) := by decide +kernel
theorem dX12_of_69 : decode cX12_of 69 = .ok (.iload_n 3, 1) := by decide +kernel
theorem dX12_of_70 : decode cX12_of 70 = .ok (.iadd, 1) := by decide +kernel
theorem dX12_of_71 : decode cX12_of 71 = .ok (.iaload, 1) := by decide +kernel
theorem dX12_of_72 : decode cX12_of 72 = .ok (.ifCond .ne 6, 3) := by decide +kernel
theorem dX12_of_75 : decode cX12_of 75 = .ok (.bipush (-5), 2) := by decide +kernel
theorem dX12_of_77 : decode cX12_of 77 = .ok (.ireturn, 1) := by decide +kernel
theorem dX12_of_78 : decode cX12_of 78 = .ok (.aload_n 0, 1) := by decide +kernel
theorem dX12_of_79 : decode cX12_of 79 = .ok (.invokevirtual 246, 3) := by decide +kernel
theorem dX12_of_82 : decode cX12_of 82 = .ok (.aload_n 0, 1) := by decide +kernel
theorem dX12_of_83 : decode cX12_of 83 = .ok (.iload_n 1, 1) := by decide +kernel
theorem dX12_of_84 : decode cX12_of 84 = .ok (.aload_n 0, 1) := by decide +kernel
theorem dX12_of_85 : decode cX12_of 85 = .ok (.invokevirtual 249, 3) := by decide +kernel
theorem dX12_of_88 : decode cX12_of 88 = .ok (.iload_n 3, 1) := by decide +kernel
theorem dX12_of_89 : decode cX12_of 89 = .ok (.invokestatic 218, 3) := by decide +kernel
theorem dX12_of_92 : decode cX12_of 92 = .ok (.iload_n 3, 1) := by decide +kernel
theorem dX12_of_93 : decode cX12_of 93 = .ok (.invokevirtual 252, 3) := by decide +kernel
theorem dX12_of_96 : decode cX12_of 96 = .ok (.istore 4, 2) := by decide +kernel
theorem dX12_of_98 : decode cX12_of 98 = .ok (.iload 4, 2) := by decide +kernel
theorem dX12_of_100 : decode cX12_of 100 = .ok (.iconst (-1), 1) := by decide +kernel
theorem dX12_of_101 : decode cX12_of 101 = .ok (.if_icmp .ne 8, 3) := by decide +kernel
theorem dX12_of_104 : decode cX12_of 104 = .ok (.bipush (-5), 2) := by decide +kernel
theorem dX12_of_106 : decode cX12_of 106 = .ok (.goto 5, 3) := by decide +kernel
theorem dX12_of_109 : decode cX12_of 109 = .ok (.iload 4, 2) := by decide +kernel
theorem dX12_of_111 : decode cX12_of 111 = .ok (.ireturn, 1) := by decide +kernel
theorem dX12_draw_0 : decode cX12_draw 0 = .ok (.aload_n 0, 1) := by decide +kernel
theorem dX12_draw_1 : decode cX12_draw 1 = .ok (.iload_n 1, 1) := by decide +kernel
theorem dX12_draw_2 : decode cX12_draw 2 = .ok (.invokevirtual 227, 3) := by decide +kernel
theorem dX12_draw_5 : decode cX12_draw 5 = .ok (.ifCond .eq 10, 3) := by decide +kernel
theorem dX12_draw_8 : decode cX12_draw 8 = .ok (.iload_n 2, 1) := by decide +kernel
theorem dX12_draw_9 : decode cX12_draw 9 = .ok (.invokestatic 73, 3) := by decide +kernel
theorem dX12_draw_12 : decode cX12_draw 12 = .ok (.ifCond .ne 7, 3) := by decide +kernel
theorem dX12_draw_15 : decode cX12_draw 15 = .ok (.sipush (-1001), 3) := by decide +kernel
theorem dX12_draw_18 : decode cX12_draw 18 = .ok (.ireturn, 1) := by decide +kernel
theorem dX12_draw_19 : decode cX12_draw 19 = .ok (.aload_n 0, 1) := by decide +kernel
theorem dX12_draw_20 : decode cX12_draw 20 = .ok (.getfield 9, 3) := by decide +kernel
theorem dX12_draw_23 : decode cX12_draw 23 = .ok (.bipush 6, 2) := by decide +kernel
theorem dX12_draw_25 : decode cX12_draw 25 = .ok (.iload_n 2, 1) := by decide +kernel
theorem dX12_draw_26 : decode cX12_draw 26 = .ok (.iadd, 1) := by decide +kernel
theorem dX12_draw_27 : decode cX12_draw 27 = .ok (.iaload, 1) := by decide +kernel
theorem dX12_draw_28 : decode cX12_draw 28 = .ok (.ifCond .eq 14, 3) := by decide +kernel
theorem dX12_draw_31 : decode cX12_draw 31 = .ok (.aload_n 0, 1) := by decide +kernel
theorem dX12_draw_32 : decode cX12_draw 32 = .ok (.getfield 9, 3) := by decide +kernel
theorem dX12_draw_35 : decode cX12_draw 35 = .ok (.iconst 5, 1) := by decide +kernel
theorem dX12_draw_36 : decode cX12_draw 36 = .ok (.iaload, 1) := by decide +kernel
theorem dX12_draw_37 : decode cX12_draw 37 = .ok (.bipush 99, 2) := by decide +kernel
theorem dX12_draw_39 : decode cX12_draw 39 = .ok (.if_icmp .ne 7, 3) := by decide +kernel
theorem dX12_draw_42 : decode cX12_draw 42 = .ok (.sipush (-1002), 3) := by decide +kernel
theorem dX12_draw_45 : decode cX12_draw 45 = .ok (.ireturn, 1) := by decide +kernel
theorem dX12_draw_46 : decode cX12_draw 46 = .ok (.aload_n 0, 1) := by decide +kernel
theorem dX12_draw_47 : decode cX12_draw 47 = .ok (.invokevirtual 246, 3) := by decide +kernel
theorem dX12_draw_50 : decode cX12_draw 50 = .ok (.aload_n 0, 1) := by decide +kernel
theorem dX12_draw_51 : decode cX12_draw 51 = .ok (.invokevirtual 249, 3) := by decide +kernel
theorem dX12_draw_54 : decode cX12_draw 54 = .ok (.iload_n 2, 1) := by decide +kernel
theorem dX12_draw_55 : decode cX12_draw 55 = .ok (.invokestatic 218, 3) := by decide +kernel
theorem dX12_draw_58 : decode cX12_draw 58 = .ok (.istore_n 3, 1) := by decide +kernel
theorem dX12_draw_59 : decode cX12_draw 59 = .ok (.aload_n 0, 1) := by decide +kernel
theorem dX12_draw_60 : decode cX12_draw 60 = .ok (.iload_n 1, 1) := by decide +kernel
theorem dX12_draw_61 : decode cX12_draw 61 = .ok (.iload_n 3, 1) := by decide +kernel
theorem dX12_draw_62 : decode cX12_draw 62 = .ok (.iload_n 2, 1) := by decide +kernel
theorem dX12_draw_63 : decode cX12_draw 63 = .ok (.invokevirtual 252, 3) := by decide +kernel
theorem dX12_draw_66 : decode cX12_draw 66 = .ok (.istore 4, 2) := by decide +kernel
theorem dX12_draw_68 : decode cX12_draw 68 = .ok (.aload_n 0, 1) := by decide +kernel
theorem dX12_draw_69 : decode cX12_draw 69 = .ok (.iload_n 3, 1) := by decide +kernel
theorem dX12_draw_70 : decode cX12_draw 70 = .ok (.iload 4, 2) := by decide +kernel
theorem dX12_draw_72 : decode cX12_draw 72 = .ok (.invokevirtual 212, 3) := by decide +kernel
theorem dX12_draw_75 : decode cX12_draw 75 = .ok (.istore 5, 2) := by decide +kernel
theorem dX12_draw_77 : decode cX12_draw 77 = .ok (.aload_n 0, 1) := by decide +kernel
theorem dX12_draw_78 : decode cX12_draw 78 = .ok (.getfield 9, 3) := by decide +kernel
theorem dX12_draw_81 : decode cX12_draw 81 = .ok (.bipush 6, 2) := by decide +kernel
theorem dX12_draw_83 : decode cX12_draw 83 = .ok (.iload_n 2, 1) := by decide +kernel
theorem dX12_draw_84 : decode cX12_draw 84 = .ok (.iadd, 1) := by decide +kernel
theorem dX12_draw_85 : decode cX12_draw 85 = .ok (.dup2, 1) := by decide +kernel
theorem dX12_draw_86 : decode cX12_draw 86 = .ok (.iaload, 1) := by decide +kernel
theorem dX12_draw_87 : decode cX12_draw 87 = .ok (.iconst 1, 1) := by decide +kernel
theorem dX12_draw_88 : decode cX12_draw 88 = .ok (.isub, 1) := by decide +kernel
theorem dX12_draw_89 : decode cX12_draw 89 = .ok (.iastore, 1) := by decide +kernel
theorem dX12_draw_90 : decode cX12_draw 90 = .ok (.aload_n 0, 1) := by decide +kernel
theorem dX12_draw_91 : decode cX12_draw 91 = .ok (.getfield 9, 3) := by decide +kernel
theorem dX12_draw_94 : decode cX12_draw 94 = .ok (.iconst 5, 1) := by decide +kernel
theorem dX12_draw_95 : decode cX12_draw 95 = .ok (.dup2, 1) := by decide +kernel
theorem dX12_draw_96 : decode cX12_draw 96 = .ok (.iaload, 1) := by decide +kernel
theorem dX12_draw_97 : decode cX12_draw 97 = .ok (.iconst 1, 1) := by decide +kernel
theorem dX12_draw_98 : decode cX12_draw 98 = .ok (.iadd, 1) := by decide +kernel
theorem dX12_draw_99 : decode cX12_draw 99 = .ok (.iastore, 1) := by decide +kernel
theorem dX12_draw_100 : decode cX12_draw 100 = .ok (.iload 4, 2) := by decide +kernel
theorem dX12_draw_102 : decode cX12_draw 102 = .ok (.iconst (-1), 1) := by decide +kernel
theorem dX12_draw_103 : decode cX12_draw 103 = .ok (.if_icmp .eq 17, 3) := by decide +kernel
theorem dX12_draw_106 : decode cX12_draw 106 = .ok (.aload_n 0, 1) := by decide +kernel
theorem dX12_draw_107 : decode cX12_draw 107 = .ok (.getfield 9, 3) := by decide +kernel
theorem dX12_draw_110 : decode cX12_draw 110 = .ok (.bipush 9, 2) := by decide +kernel
theorem dX12_draw_112 : decode cX12_draw 112 = .ok (.iload 4, 2) := by decide +kernel
theorem dX12_draw_114 : decode cX12_draw 114 = .ok (.iadd, 1) := by decide +kernel
theorem dX12_draw_115 : decode cX12_draw 115 = .ok (.dup2, 1) := by decide +kernel
theorem dX12_draw_116 : decode cX12_draw 116 = .ok (.iaload, 1) := by decide +kernel
theorem dX12_draw_117 : decode cX12_draw 117 = .ok (.iconst 1, 1) := by decide +kernel
theorem dX12_draw_118 : decode cX12_draw 118 = .ok (.iadd, 1) := by decide +kernel
theorem dX12_draw_119 : decode cX12_draw 119 = .ok (.iastore, 1) := by decide +kernel
theorem dX12_draw_120 : decode cX12_draw 120 = .ok (.iload 5, 2) := by decide +kernel
theorem dX12_draw_122 : decode cX12_draw 122 = .ok (.ireturn, 1) := by decide +kernel
theorem dX12_divisor_0 : decode cX12_divisor 0 = .ok (.lload_n 0, 1) := by decide +kernel
theorem dX12_divisor_1 : decode cX12_divisor 1 = .ok (.lconst 0, 1) := by decide +kernel
theorem dX12_divisor_2 : decode cX12_divisor 2 = .ok (.lcmp, 1) := by decide +kernel
theorem dX12_divisor_3 : decode cX12_divisor 3 = .ok (.ifCond .ge 8, 3) := by decide +kernel
theorem dX12_divisor_6 : decode cX12_divisor 6 = .ok (.lload_n 0, 1) := by decide +kernel
theorem dX12_divisor_7 : decode cX12_divisor 7 = .ok (.lneg, 1) := by decide +kernel
theorem dX12_divisor_8 : decode cX12_divisor 8 = .ok (.goto 4, 3) := by decide +kernel
theorem dX12_divisor_11 : decode cX12_divisor 11 = .ok (.lload_n 0, 1) := by decide +kernel
theorem dX12_divisor_12 : decode cX12_divisor 12 = .ok (.lstore 4, 2) := by decide +kernel
theorem dX12_divisor_14 : decode cX12_divisor 14 = .ok (.lload_n 2, 1) := by decide +kernel
theorem dX12_divisor_15 : decode cX12_divisor 15 = .ok (.lstore 6, 2) := by decide +kernel
theorem dX12_divisor_17 : decode cX12_divisor 17 = .ok (.lload 6, 2) := by decide +kernel
theorem dX12_divisor_19 : decode cX12_divisor 19 = .ok (.lconst 0, 1) := by decide +kernel
theorem dX12_divisor_20 : decode cX12_divisor 20 = .ok (.lcmp, 1) := by decide +kernel
theorem dX12_divisor_21 : decode cX12_divisor 21 = .ok (.ifCond .eq 21, 3) := by decide +kernel
theorem dX12_divisor_24 : decode cX12_divisor 24 = .ok (.lload 4, 2) := by decide +kernel
theorem dX12_divisor_26 : decode cX12_divisor 26 = .ok (.lload 6, 2) := by decide +kernel
theorem dX12_divisor_28 : decode cX12_divisor 28 = .ok (.lrem, 1) := by decide +kernel
theorem dX12_divisor_29 : decode cX12_divisor 29 = .ok (.lstore 8, 2) := by decide +kernel
theorem dX12_divisor_31 : decode cX12_divisor 31 = .ok (.lload 6, 2) := by decide +kernel
theorem dX12_divisor_33 : decode cX12_divisor 33 = .ok (.lstore 4, 2) := by decide +kernel
theorem dX12_divisor_35 : decode cX12_divisor 35 = .ok (.lload 8, 2) := by decide +kernel
theorem dX12_divisor_37 : decode cX12_divisor 37 = .ok (.lstore 6, 2) := by decide +kernel
theorem dX12_divisor_39 : decode cX12_divisor 39 = .ok (.goto (-22), 3) := by decide +kernel
theorem dX12_divisor_42 : decode cX12_divisor 42 = .ok (.lload 4, 2) := by decide +kernel
theorem dX12_divisor_44 : decode cX12_divisor 44 = .ok (.lreturn, 1) := by decide +kernel
theorem dX12_lowest_0 : decode cX12_lowest 0 = .ok (.iload 4, 2) := by decide +kernel
theorem dX12_lowest_2 : decode cX12_lowest 2 = .ok (.ifCond .ne 7, 3) := by decide +kernel
theorem dX12_lowest_5 : decode cX12_lowest 5 = .ok (.lload_n 0, 1) := by decide +kernel
theorem dX12_lowest_6 : decode cX12_lowest 6 = .ok (.goto 4, 3) := by decide +kernel
theorem dX12_lowest_9 : decode cX12_lowest 9 = .ok (.lload_n 2, 1) := by decide +kernel
theorem dX12_lowest_10 : decode cX12_lowest 10 = .ok (.lload_n 0, 1) := by decide +kernel
theorem dX12_lowest_11 : decode cX12_lowest 11 = .ok (.lload_n 2, 1) := by decide +kernel
theorem dX12_lowest_12 : decode cX12_lowest 12 = .ok (.invokestatic 255, 3) := by decide +kernel
theorem dX12_lowest_15 : decode cX12_lowest 15 = .ok (.ldiv, 1) := by decide +kernel
theorem dX12_lowest_16 : decode cX12_lowest 16 = .ok (.lreturn, 1) := by decide +kernel
theorem dX12_next_0 : decode cX12_next 0 = .ok (.iload_n 1, 1) := by decide +kernel
theorem dX12_next_1 : decode cX12_next 1 = .ok (.invokestatic 73, 3) := by decide +kernel
theorem dX12_next_4 : decode cX12_next 4 = .ok (.ifCond .eq 12, 3) := by decide +kernel
theorem dX12_next_7 : decode cX12_next 7 = .ok (.iload_n 2, 1) := by decide +kernel
theorem dX12_next_8 : decode cX12_next 8 = .ok (.iconst 0, 1) := by decide +kernel
theorem dX12_next_9 : decode cX12_next 9 = .ok (.iconst 1, 1) := by decide +kernel
theorem dX12_next_10 : decode cX12_next 10 = .ok (.invokestatic 69, 3) := by decide +kernel
theorem dX12_next_13 : decode cX12_next 13 = .ok (.ifCond .ne 7, 3) := by decide +kernel
theorem dX12_next_16 : decode cX12_next 16 = .ok (.ldc2_w 259, 3) := by decide +kernel
theorem dX12_next_19 : decode cX12_next 19 = .ok (.lreturn, 1) := by decide +kernel
theorem dX12_next_20 : decode cX12_next 20 = .ok (.aload_n 0, 1) := by decide +kernel
theorem dX12_next_21 : decode cX12_next 21 = .ok (.invokevirtual 158, 3) := by decide +kernel
theorem dX12_next_24 : decode cX12_next 24 = .ok (.ifCond .ne 8, 3) := by decide +kernel
theorem dX12_next_27 : decode cX12_next 27 = .ok (.iload_n 2, 1) := by decide +kernel
theorem dX12_next_28 : decode cX12_next 28 = .ok (.i2l, 1) := by decide +kernel
theorem dX12_next_29 : decode cX12_next 29 = .ok (.goto 22, 3) := by decide +kernel
theorem dX12_next_32 : decode cX12_next 32 = .ok (.aload_n 0, 1) := by decide +kernel
theorem dX12_next_33 : decode cX12_next 33 = .ok (.getfield 9, 3) := by decide +kernel
theorem dX12_next_36 : decode cX12_next 36 = .ok (.bipush 6, 2) := by decide +kernel
theorem dX12_next_38 : decode cX12_next 38 = .ok (.iload_n 1, 1) := by decide +kernel
theorem dX12_next_39 : decode cX12_next 39 = .ok (.iadd, 1) := by decide +kernel
theorem dX12_next_40 : decode cX12_next 40 = .ok (.iaload, 1) := by decide +kernel
theorem dX12_next_41 : decode cX12_next 41 = .ok (.i2l, 1) := by decide +kernel
theorem dX12_next_42 : decode cX12_next 42 = .ok (.aload_n 0, 1) := by decide +kernel
theorem dX12_next_43 : decode cX12_next 43 = .ok (.invokevirtual 158, 3) := by decide +kernel
theorem dX12_next_46 : decode cX12_next 46 = .ok (.i2l, 1) := by decide +kernel
theorem dX12_next_47 : decode cX12_next 47 = .ok (.iload_n 2, 1) := by decide +kernel
theorem dX12_next_48 : decode cX12_next 48 = .ok (.invokestatic 261, 3) := by decide +kernel
theorem dX12_next_51 : decode cX12_next 51 = .ok (.lreturn, 1) := by decide +kernel
theorem dX12_run_0 : decode cX12_run 0 = .ok (.iload_n 1, 1) := by decide +kernel
theorem dX12_run_1 : decode cX12_run 1 = .ok (.invokestatic 73, 3) := by decide +kernel
theorem dX12_run_4 : decode cX12_run 4 = .ok (.ifCond .eq 21, 3) := by decide +kernel
theorem dX12_run_7 : decode cX12_run 7 = .ok (.iload_n 2, 1) := by decide +kernel
theorem dX12_run_8 : decode cX12_run 8 = .ok (.iconst 1, 1) := by decide +kernel
theorem dX12_run_9 : decode cX12_run 9 = .ok (.iconst 5, 1) := by decide +kernel
theorem dX12_run_10 : decode cX12_run 10 = .ok (.invokestatic 69, 3) := by decide +kernel
theorem dX12_run_13 : decode cX12_run 13 = .ok (.ifCond .eq 12, 3) := by decide +kernel
theorem dX12_run_16 : decode cX12_run 16 = .ok (.iload_n 3, 1) := by decide +kernel
theorem dX12_run_17 : decode cX12_run 17 = .ok (.iconst 0, 1) := by decide +kernel
theorem dX12_run_18 : decode cX12_run 18 = .ok (.iconst 1, 1) := by decide +kernel
theorem dX12_run_19 : decode cX12_run 19 = .ok (.invokestatic 69, 3) := by decide +kernel
theorem dX12_run_22 : decode cX12_run 22 = .ok (.ifCond .ne 7, 3) := by decide +kernel
theorem dX12_run_25 : decode cX12_run 25 = .ok (.ldc2_w 259, 3) := by decide +kernel
theorem dX12_run_28 : decode cX12_run 28 = .ok (.lreturn, 1) := by decide +kernel
theorem dX12_run_29 : decode cX12_run 29 = .ok (.aload_n 0, 1) := by decide +kernel
theorem dX12_run_30 : decode cX12_run 30 = .ok (.getfield 9, 3) := by decide +kernel
theorem dX12_run_33 : decode cX12_run 33 = .ok (.bipush 6, 2) := by decide +kernel
theorem dX12_run_35 : decode cX12_run 35 = .ok (.iload_n 1, 1) := by decide +kernel
theorem dX12_run_36 : decode cX12_run 36 = .ok (.iadd, 1) := by decide +kernel
theorem dX12_run_37 : decode cX12_run 37 = .ok (.iaload, 1) := by decide +kernel
theorem dX12_run_38 : decode cX12_run 38 = .ok (.iload_n 2, 1) := by decide +kernel
theorem dX12_run_39 : decode cX12_run 39 = .ok (.invokestatic 194, 3) := by decide +kernel
theorem dX12_run_42 : decode cX12_run 42 = .ok (.lstore 4, 2) := by decide +kernel
theorem dX12_run_44 : decode cX12_run 44 = .ok (.lload 4, 2) := by decide +kernel
theorem dX12_run_46 : decode cX12_run 46 = .ok (.lconst 0, 1) := by decide +kernel
theorem dX12_run_47 : decode cX12_run 47 = .ok (.lcmp, 1) := by decide +kernel
theorem dX12_run_48 : decode cX12_run 48 = .ok (.ifCond .ne 8, 3) := by decide +kernel
theorem dX12_run_51 : decode cX12_run 51 = .ok (.iload_n 3, 1) := by decide +kernel
theorem dX12_run_52 : decode cX12_run 52 = .ok (.i2l, 1) := by decide +kernel
theorem dX12_run_53 : decode cX12_run 53 = .ok (.goto 17, 3) := by decide +kernel
theorem dX12_run_56 : decode cX12_run 56 = .ok (.lload 4, 2) := by decide +kernel
theorem dX12_run_58 : decode cX12_run 58 = .ok (.aload_n 0, 1) := by decide +kernel
theorem dX12_run_59 : decode cX12_run 59 = .ok (.invokevirtual 158, 3) := by decide +kernel
theorem dX12_run_62 : decode cX12_run 62 = .ok (.iload_n 2, 1) := by decide +kernel
theorem dX12_run_63 : decode cX12_run 63 = .ok (.invokestatic 194, 3) := by decide +kernel
theorem dX12_run_66 : decode cX12_run 66 = .ok (.iload_n 3, 1) := by decide +kernel
theorem dX12_run_67 : decode cX12_run 67 = .ok (.invokestatic 261, 3) := by decide +kernel
theorem dX12_run_70 : decode cX12_run 70 = .ok (.lreturn, 1) := by decide +kernel
theorem dX12_by_0 : decode cX12_by 0 = .ok (.iload_n 1, 1) := by decide +kernel
theorem dX12_by_1 : decode cX12_by 1 = .ok (.invokestatic 73, 3) := by decide +kernel
theorem dX12_by_4 : decode cX12_by 4 = .ok (.ifCond .eq 40, 3) := by decide +kernel
theorem dX12_by_7 : decode cX12_by 7 = .ok (.iload_n 2, 1) := by decide +kernel
theorem dX12_by_8 : decode cX12_by 8 = .ok (.iconst 1, 1) := by decide +kernel
theorem dX12_by_9 : decode cX12_by 9 = .ok (.bipush 15, 2) := by decide +kernel
theorem dX12_by_11 : decode cX12_by 11 = .ok (.invokestatic 69, 3) := by decide +kernel
theorem dX12_by_14 : decode cX12_by 14 = .ok (.ifCond .eq 30, 3) := by decide +kernel
theorem dX12_by_17 : decode cX12_by 17 = .ok (.iload_n 3, 1) := by decide +kernel
theorem dX12_by_18 : decode cX12_by 18 = .ok (.iconst 0, 1) := by decide +kernel
theorem dX12_by_19 : decode cX12_by 19 = .ok (.iconst 5, 1) := by decide +kernel
theorem dX12_by_20 : decode cX12_by 20 = .ok (.invokestatic 69, 3) := by decide +kernel
theorem dX12_by_23 : decode cX12_by 23 = .ok (.ifCond .eq 21, 3) := by decide +kernel
theorem dX12_by_26 : decode cX12_by 26 = .ok (.iload 4, 2) := by decide +kernel
theorem dX12_by_28 : decode cX12_by 28 = .ok (.iconst 0, 1) := by decide +kernel
theorem dX12_by_29 : decode cX12_by 29 = .ok (.iconst 1, 1) := by decide +kernel
theorem dX12_by_30 : decode cX12_by 30 = .ok (.invokestatic 69, 3) := by decide +kernel
theorem dX12_by_33 : decode cX12_by 33 = .ok (.ifCond .eq 11, 3) := by decide +kernel
theorem dX12_by_36 : decode cX12_by 36 = .ok (.iload_n 2, 1) := by decide +kernel
theorem dX12_by_37 : decode cX12_by 37 = .ok (.aload_n 0, 1) := by decide +kernel
theorem dX12_by_38 : decode cX12_by 38 = .ok (.invokevirtual 158, 3) := by decide +kernel
theorem dX12_by_41 : decode cX12_by 41 = .ok (.if_icmp .le 7, 3) := by decide +kernel
theorem dX12_by_44 : decode cX12_by 44 = .ok (.ldc2_w 259, 3) := by decide +kernel
theorem dX12_by_47 : decode cX12_by 47 = .ok (.lreturn, 1) := by decide +kernel
theorem dX12_by_48 : decode cX12_by 48 = .ok (.aload_n 0, 1) := by decide +kernel
theorem dX12_by_49 : decode cX12_by 49 = .ok (.getfield 9, 3) := by decide +kernel
theorem dX12_by_52 : decode cX12_by 52 = .ok (.bipush 6, 2) := by decide +kernel
theorem dX12_by_54 : decode cX12_by 54 = .ok (.iload_n 1, 1) := by decide +kernel
theorem dX12_by_55 : decode cX12_by 55 = .ok (.iadd, 1) := by decide +kernel
theorem dX12_by_56 : decode cX12_by 56 = .ok (.iaload, 1) := by decide +kernel
theorem dX12_by_57 : decode cX12_by 57 = .ok (.istore 5, 2) := by decide +kernel
theorem dX12_by_59 : decode cX12_by 59 = .ok (.lconst 0, 1) := by decide +kernel
theorem dX12_by_60 : decode cX12_by 60 = .ok (.lstore 6, 2) := by decide +kernel
theorem dX12_by_62 : decode cX12_by 62 = .ok (.iload_n 3, 1) := by decide +kernel
theorem dX12_by_63 : decode cX12_by 63 = .ok (.istore 8, 2) := by decide +kernel
theorem dX12_by_65 : decode cX12_by 65 = .ok (.iload 8, 2) := by decide +kernel
theorem dX12_by_67 : decode cX12_by 67 = .ok (.iload 5, 2) := by decide +kernel
theorem dX12_by_69 : decode cX12_by 69 = .ok (.if_icmp .gt 36, 3) := by decide +kernel
theorem dX12_by_72 : decode cX12_by 72 = .ok (.lload 6, 2) := by decide +kernel
theorem dX12_by_74 : decode cX12_by 74 = .ok (.iload 5, 2) := by decide +kernel
theorem dX12_by_76 : decode cX12_by 76 = .ok (.iload 8, 2) := by decide +kernel
theorem dX12_by_78 : decode cX12_by 78 = .ok (.invokestatic 194, 3) := by decide +kernel
theorem dX12_by_81 : decode cX12_by 81 = .ok (.aload_n 0, 1) := by decide +kernel
theorem dX12_by_82 : decode cX12_by 82 = .ok (.invokevirtual 158, 3) := by decide +kernel
theorem dX12_by_85 : decode cX12_by 85 = .ok (.iload 5, 2) := by decide +kernel
theorem dX12_by_87 : decode cX12_by 87 = .ok (.isub, 1) := by decide +kernel
theorem dX12_by_88 : decode cX12_by 88 = .ok (.iload_n 2, 1) := by decide +kernel
theorem dX12_by_89 : decode cX12_by 89 = .ok (.iload 8, 2) := by decide +kernel
theorem dX12_by_91 : decode cX12_by 91 = .ok (.isub, 1) := by decide +kernel
theorem dX12_by_92 : decode cX12_by 92 = .ok (.invokestatic 194, 3) := by decide +kernel
theorem dX12_by_95 : decode cX12_by 95 = .ok (.lmul, 1) := by decide +kernel
theorem dX12_by_96 : decode cX12_by 96 = .ok (.ladd, 1) := by decide +kernel
theorem dX12_by_97 : decode cX12_by 97 = .ok (.lstore 6, 2) := by decide +kernel
theorem dX12_by_99 : decode cX12_by 99 = .ok (.iinc 8 1, 3) := by decide +kernel
theorem dX12_by_102 : decode cX12_by 102 = .ok (.goto (-37), 3) := by decide +kernel
theorem dX12_by_105 : decode cX12_by 105 = .ok (.lload 6, 2) := by decide +kernel
theorem dX12_by_107 : decode cX12_by 107 = .ok (.aload_n 0, 1) := by decide +kernel
theorem dX12_by_108 : decode cX12_by 108 = .ok (.invokevirtual 158, 3) := by decide +kernel
theorem dX12_by_111 : decode cX12_by 111 = .ok (.iload_n 2, 1) := by decide +kernel
theorem dX12_by_112 : decode cX12_by 112 = .ok (.invokestatic 194, 3) := by decide +kernel
theorem dX12_by_115 : decode cX12_by 115 = .ok (.iload 4, 2) := by decide +kernel
theorem dX12_by_117 : decode cX12_by 117 = .ok (.invokestatic 261, 3) := by decide +kernel
theorem dX12_by_120 : decode cX12_by 120 = .ok (.lreturn, 1) := by decide +kernel
theorem dX12_first_0 : decode cX12_first 0 = .ok (.iload_n 1, 1) := by decide +kernel
theorem dX12_first_1 : decode cX12_first 1 = .ok (.invokestatic 73, 3) := by decide +kernel
theorem dX12_first_4 : decode cX12_first 4 = .ok (.ifCond .eq 24, 3) := by decide +kernel
theorem dX12_first_7 : decode cX12_first 7 = .ok (.iload_n 2, 1) := by decide +kernel
theorem dX12_first_8 : decode cX12_first 8 = .ok (.iconst 0, 1) := by decide +kernel
theorem dX12_first_9 : decode cX12_first 9 = .ok (.iconst 1, 1) := by decide +kernel
theorem dX12_first_10 : decode cX12_first 10 = .ok (.invokestatic 69, 3) := by decide +kernel
theorem dX12_first_13 : decode cX12_first 13 = .ok (.ifCond .eq 15, 3) := by decide +kernel
theorem dX12_first_16 : decode cX12_first 16 = .ok (.aload_n 0, 1) := by decide +kernel
theorem dX12_first_17 : decode cX12_first 17 = .ok (.getfield 9, 3) := by decide +kernel
theorem dX12_first_20 : decode cX12_first 20 = .ok (.bipush 6, 2) := by decide +kernel
theorem dX12_first_22 : decode cX12_first 22 = .ok (.iload_n 1, 1) := by decide +kernel
theorem dX12_first_23 : decode cX12_first 23 = .ok (.iadd, 1) := by decide +kernel
theorem dX12_first_24 : decode cX12_first 24 = .ok (.iaload, 1) := by decide +kernel
theorem dX12_first_25 : decode cX12_first 25 = .ok (.ifCond .ne 7, 3) := by decide +kernel
theorem dX12_first_28 : decode cX12_first 28 = .ok (.ldc2_w 259, 3) := by decide +kernel
theorem dX12_first_31 : decode cX12_first 31 = .ok (.lreturn, 1) := by decide +kernel
theorem dX12_first_32 : decode cX12_first 32 = .ok (.aload_n 0, 1) := by decide +kernel
theorem dX12_first_33 : decode cX12_first 33 = .ok (.invokevirtual 158, 3) := by decide +kernel
theorem dX12_first_36 : decode cX12_first 36 = .ok (.iconst 1, 1) := by decide +kernel
theorem dX12_first_37 : decode cX12_first 37 = .ok (.iadd, 1) := by decide +kernel
theorem dX12_first_38 : decode cX12_first 38 = .ok (.i2l, 1) := by decide +kernel
theorem dX12_first_39 : decode cX12_first 39 = .ok (.aload_n 0, 1) := by decide +kernel
theorem dX12_first_40 : decode cX12_first 40 = .ok (.getfield 9, 3) := by decide +kernel
theorem dX12_first_43 : decode cX12_first 43 = .ok (.bipush 6, 2) := by decide +kernel
theorem dX12_first_45 : decode cX12_first 45 = .ok (.iload_n 1, 1) := by decide +kernel
theorem dX12_first_46 : decode cX12_first 46 = .ok (.iadd, 1) := by decide +kernel
theorem dX12_first_47 : decode cX12_first 47 = .ok (.iaload, 1) := by decide +kernel
theorem dX12_first_48 : decode cX12_first 48 = .ok (.iconst 1, 1) := by decide +kernel
theorem dX12_first_49 : decode cX12_first 49 = .ok (.iadd, 1) := by decide +kernel
theorem dX12_first_50 : decode cX12_first 50 = .ok (.i2l, 1) := by decide +kernel
theorem dX12_first_51 : decode cX12_first 51 = .ok (.iload_n 2, 1) := by decide +kernel
theorem dX12_first_52 : decode cX12_first 52 = .ok (.invokestatic 261, 3) := by decide +kernel
theorem dX12_first_55 : decode cX12_first 55 = .ok (.lreturn, 1) := by decide +kernel
theorem dX12_before_0 : decode cX12_before 0 = .ok (.iload_n 1, 1) := by decide +kernel
theorem dX12_before_1 : decode cX12_before 1 = .ok (.invokestatic 73, 3) := by decide +kernel
theorem dX12_before_4 : decode cX12_before 4 = .ok (.ifCond .eq 46, 3) := by decide +kernel
theorem dX12_before_7 : decode cX12_before 7 = .ok (.iload_n 2, 1) := by decide +kernel
theorem dX12_before_8 : decode cX12_before 8 = .ok (.invokestatic 73, 3) := by decide +kernel
theorem dX12_before_11 : decode cX12_before 11 = .ok (.ifCond .eq 39, 3) := by decide +kernel
theorem dX12_before_14 : decode cX12_before 14 = .ok (.iload_n 1, 1) := by decide +kernel
theorem dX12_before_15 : decode cX12_before 15 = .ok (.iload_n 2, 1) := by decide +kernel
theorem dX12_before_16 : decode cX12_before 16 = .ok (.if_icmp .eq 34, 3) := by decide +kernel
theorem dX12_before_19 : decode cX12_before 19 = .ok (.iload_n 3, 1) := by decide +kernel
theorem dX12_before_20 : decode cX12_before 20 = .ok (.iconst 0, 1) := by decide +kernel
theorem dX12_before_21 : decode cX12_before 21 = .ok (.iconst 1, 1) := by decide +kernel
theorem dX12_before_22 : decode cX12_before 22 = .ok (.invokestatic 69, 3) := by decide +kernel
theorem dX12_before_25 : decode cX12_before 25 = .ok (.ifCond .eq 25, 3) := by decide +kernel
theorem dX12_before_28 : decode cX12_before 28 = .ok (.aload_n 0, 1) := by decide +kernel
theorem dX12_before_29 : decode cX12_before 29 = .ok (.getfield 9, 3) := by decide +kernel
theorem dX12_before_32 : decode cX12_before 32 = .ok (.bipush 6, 2) := by decide +kernel
theorem dX12_before_34 : decode cX12_before 34 = .ok (.iload_n 1, 1) := by decide +kernel
theorem dX12_before_35 : decode cX12_before 35 = .ok (.iadd, 1) := by decide +kernel
theorem dX12_before_36 : decode cX12_before 36 = .ok (.iaload, 1) := by decide +kernel
theorem dX12_before_37 : decode cX12_before 37 = .ok (.aload_n 0, 1) := by decide +kernel
theorem dX12_before_38 : decode cX12_before 38 = .ok (.getfield 9, 3) := by decide +kernel
theorem dX12_before_41 : decode cX12_before 41 = .ok (.bipush 6, 2) := by decide +kernel
theorem dX12_before_43 : decode cX12_before 43 = .ok (.iload_n 2, 1) := by decide +kernel
theorem dX12_before_44 : decode cX12_before 44 = .ok (.iadd, 1) := by decide +kernel
theorem dX12_before_45 : decode cX12_before 45 = .ok (.iaload, 1) := by decide +kernel
theorem dX12_before_46 : decode cX12_before 46 = .ok (.iadd, 1) := by decide +kernel
theorem dX12_before_47 : decode cX12_before 47 = .ok (.ifCond .ne 7, 3) := by decide +kernel
theorem dX12_before_50 : decode cX12_before 50 = .ok (.ldc2_w 259, 3) := by decide +kernel
theorem dX12_before_53 : decode cX12_before 53 = .ok (.lreturn, 1) := by decide +kernel
theorem dX12_before_54 : decode cX12_before 54 = .ok (.aload_n 0, 1) := by decide +kernel
theorem dX12_before_55 : decode cX12_before 55 = .ok (.getfield 9, 3) := by decide +kernel
theorem dX12_before_58 : decode cX12_before 58 = .ok (.bipush 6, 2) := by decide +kernel
theorem dX12_before_60 : decode cX12_before 60 = .ok (.iload_n 1, 1) := by decide +kernel
theorem dX12_before_61 : decode cX12_before 61 = .ok (.iadd, 1) := by decide +kernel
theorem dX12_before_62 : decode cX12_before 62 = .ok (.iaload, 1) := by decide +kernel
theorem dX12_before_63 : decode cX12_before 63 = .ok (.i2l, 1) := by decide +kernel
theorem dX12_before_64 : decode cX12_before 64 = .ok (.aload_n 0, 1) := by decide +kernel
theorem dX12_before_65 : decode cX12_before 65 = .ok (.getfield 9, 3) := by decide +kernel
theorem dX12_before_68 : decode cX12_before 68 = .ok (.bipush 6, 2) := by decide +kernel
theorem dX12_before_70 : decode cX12_before 70 = .ok (.iload_n 1, 1) := by decide +kernel
theorem dX12_before_71 : decode cX12_before 71 = .ok (.iadd, 1) := by decide +kernel
theorem dX12_before_72 : decode cX12_before 72 = .ok (.iaload, 1) := by decide +kernel
theorem dX12_before_73 : decode cX12_before 73 = .ok (.aload_n 0, 1) := by decide +kernel
theorem dX12_before_74 : decode cX12_before 74 = .ok (.getfield 9, 3) := by decide +kernel
theorem dX12_before_77 : decode cX12_before 77 = .ok (.bipush 6, 2) := by decide +kernel
theorem dX12_before_79 : decode cX12_before 79 = .ok (.iload_n 2, 1) := by decide +kernel
theorem dX12_before_80 : decode cX12_before 80 = .ok (.iadd, 1) := by decide +kernel
theorem dX12_before_81 : decode cX12_before 81 = .ok (.iaload, 1) := by decide +kernel
theorem dX12_before_82 : decode cX12_before 82 = .ok (.iadd, 1) := by decide +kernel
theorem dX12_before_83 : decode cX12_before 83 = .ok (.i2l, 1) := by decide +kernel
theorem dX12_before_84 : decode cX12_before 84 = .ok (.iload_n 3, 1) := by decide +kernel
theorem dX12_before_85 : decode cX12_before 85 = .ok (.invokestatic 261, 3) := by decide +kernel
theorem dX12_before_88 : decode cX12_before 88 = .ok (.lreturn, 1) := by decide +kernel
theorem dX12_orders_0 : decode cX12_orders 0 = .ok (.aload_n 0, 1) := by decide +kernel
theorem dX12_orders_1 : decode cX12_orders 1 = .ok (.getfield 9, 3) := by decide +kernel
theorem dX12_orders_4 : decode cX12_orders 4 = .ok (.bipush 6, 2) := by decide +kernel
theorem dX12_orders_6 : decode cX12_orders 6 = .ok (.iaload, 1) := by decide +kernel
theorem dX12_orders_7 : decode cX12_orders 7 = .ok (.aload_n 0, 1) := by decide +kernel
theorem dX12_orders_8 : decode cX12_orders 8 = .ok (.getfield 9, 3) := by decide +kernel
theorem dX12_orders_11 : decode cX12_orders 11 = .ok (.bipush 7, 2) := by decide +kernel
theorem dX12_orders_13 : decode cX12_orders 13 = .ok (.iaload, 1) := by decide +kernel
theorem dX12_orders_14 : decode cX12_orders 14 = .ok (.aload_n 0, 1) := by decide +kernel
theorem dX12_orders_15 : decode cX12_orders 15 = .ok (.getfield 9, 3) := by decide +kernel
theorem dX12_orders_18 : decode cX12_orders 18 = .ok (.bipush 8, 2) := by decide +kernel
theorem dX12_orders_20 : decode cX12_orders 20 = .ok (.iaload, 1) := by decide +kernel
theorem dX12_orders_21 : decode cX12_orders 21 = .ok (.invokestatic 198, 3) := by decide +kernel
theorem dX12_orders_24 : decode cX12_orders 24 = .ok (.lreturn, 1) := by decide +kernel
theorem dX12_goesThrough_0 : decode cX12_goesThrough 0 = .ok (.aload_n 0, 1) := by decide +kernel
theorem dX12_goesThrough_1 : decode cX12_goesThrough 1 = .ok (.getfield 44, 3) := by decide +kernel
theorem dX12_goesThrough_4 : decode cX12_goesThrough 4 = .ok (.iload_n 2, 1) := by decide +kernel
theorem dX12_goesThrough_5 : decode cX12_goesThrough 5 = .ok (.iaload, 1) := by decide +kernel
theorem dX12_goesThrough_6 : decode cX12_goesThrough 6 = .ok (.aload_n 0, 1) := by decide +kernel
theorem dX12_goesThrough_7 : decode cX12_goesThrough 7 = .ok (.getfield 188, 3) := by decide +kernel
theorem dX12_goesThrough_10 : decode cX12_goesThrough 10 = .ok (.if_icmp .ne 4, 3) := by decide +kernel
theorem dX12_goesThrough_13 : decode cX12_goesThrough 13 = .ok (.return_, 1) := by decide +kernel
theorem dX12_goesThrough_14 : decode cX12_goesThrough 14 = .ok (.lconst 0, 1) := by decide +kernel
theorem dX12_goesThrough_15 : decode cX12_goesThrough 15 = .ok (.lstore_n 3, 1) := by decide +kernel
theorem dX12_goesThrough_16 : decode cX12_goesThrough 16 = .ok (.iload_n 2, 1) := by decide +kernel
theorem dX12_goesThrough_17 : decode cX12_goesThrough 17 = .ok (.invokestatic 185, 3) := by decide +kernel
theorem dX12_goesThrough_20 : decode cX12_goesThrough 20 = .ok (.ifCond .ne 16, 3) := by decide +kernel
theorem dX12_goesThrough_23 : decode cX12_goesThrough 23 = .ok (.iload_n 2, 1) := by decide +kernel
theorem dX12_goesThrough_24 : decode cX12_goesThrough 24 = .ok (.bipush 27, 2) := by decide +kernel
theorem dX12_goesThrough_26 : decode cX12_goesThrough 26 = .ok (.irem, 1) := by decide +kernel
theorem dX12_goesThrough_27 : decode cX12_goesThrough 27 = .ok (.bipush 26, 2) := by decide +kernel
theorem dX12_goesThrough_29 : decode cX12_goesThrough 29 = .ok (.if_icmp .ne 7, 3) := by decide +kernel
theorem dX12_goesThrough_32 : decode cX12_goesThrough 32 = .ok (.lconst 1, 1) := by decide +kernel
theorem dX12_goesThrough_33 : decode cX12_goesThrough 33 = .ok (.goto 4, 3) := by decide +kernel
theorem dX12_goesThrough_36 : decode cX12_goesThrough 36 = .ok (.lconst 0, 1) := by decide +kernel
theorem dX12_goesThrough_37 : decode cX12_goesThrough 37 = .ok (.lstore 5, 2) := by decide +kernel
theorem dX12_goesThrough_39 : decode cX12_goesThrough 39 = .ok (.iconst 0, 1) := by decide +kernel
theorem dX12_goesThrough_40 : decode cX12_goesThrough 40 = .ok (.istore 7, 2) := by decide +kernel
theorem dX12_goesThrough_42 : decode cX12_goesThrough 42 = .ok (.iload 7, 2) := by decide +kernel
theorem dX12_goesThrough_44 : decode cX12_goesThrough 44 = .ok (.iconst 3, 1) := by decide +kernel
theorem dX12_goesThrough_45 : decode cX12_goesThrough 45 = .ok (.if_icmp .ge 91, 3) := by decide +kernel
theorem dX12_goesThrough_48 : decode cX12_goesThrough 48 = .ok (.iload_n 2, 1) := by decide +kernel
theorem dX12_goesThrough_49 : decode cX12_goesThrough 49 = .ok (.iload 7, 2) := by decide +kernel
theorem dX12_goesThrough_51 : decode cX12_goesThrough 51 = .ok (.invokestatic 172, 3) := by decide +kernel
theorem dX12_goesThrough_54 : decode cX12_goesThrough 54 = .ok (.ifCond .le 76, 3) := by decide +kernel
theorem dX12_goesThrough_57 : decode cX12_goesThrough 57 = .ok (.iload_n 2, 1) := by decide +kernel
theorem dX12_goesThrough_58 : decode cX12_goesThrough 58 = .ok (.iload 7, 2) := by decide +kernel
theorem dX12_goesThrough_60 : decode cX12_goesThrough 60 = .ok (.invokestatic 218, 3) := by decide +kernel
theorem dX12_goesThrough_63 : decode cX12_goesThrough 63 = .ok (.istore 8, 2) := by decide +kernel
theorem dX12_goesThrough_65 : decode cX12_goesThrough 65 = .ok (.aload_n 0, 1) := by decide +kernel
theorem dX12_goesThrough_66 : decode cX12_goesThrough 66 = .ok (.iload_n 1, 1) := by decide +kernel
theorem dX12_goesThrough_67 : decode cX12_goesThrough 67 = .ok (.iload 8, 2) := by decide +kernel
theorem dX12_goesThrough_69 : decode cX12_goesThrough 69 = .ok (.iload 7, 2) := by decide +kernel
theorem dX12_goesThrough_71 : decode cX12_goesThrough 71 = .ok (.invokevirtual 252, 3) := by decide +kernel
theorem dX12_goesThrough_74 : decode cX12_goesThrough 74 = .ok (.istore 9, 2) := by decide +kernel
theorem dX12_goesThrough_76 : decode cX12_goesThrough 76 = .ok (.iload 8, 2) := by decide +kernel
theorem dX12_goesThrough_78 : decode cX12_goesThrough 78 = .ok (.iload 9, 2) := by decide +kernel
theorem dX12_goesThrough_80 : decode cX12_goesThrough 80 = .ok (.invokestatic 215, 3) := by decide +kernel
theorem dX12_goesThrough_83 : decode cX12_goesThrough 83 = .ok (.istore 10, 2) := by decide +kernel
theorem dX12_goesThrough_85 : decode cX12_goesThrough 85 = .ok (.aload_n 0, 1) := by decide +kernel
theorem dX12_goesThrough_86 : decode cX12_goesThrough 86 = .ok (.iload_n 1, 1) := by decide +kernel
theorem dX12_goesThrough_87 : decode cX12_goesThrough 87 = .ok (.iload 10, 2) := by decide +kernel
theorem dX12_goesThrough_89 : decode cX12_goesThrough 89 = .ok (.invokevirtual 265, 3) := by decide +kernel
theorem dX12_goesThrough_92 : decode cX12_goesThrough 92 = .ok (.lload_n 3, 1) := by decide +kernel
theorem dX12_goesThrough_93 : decode cX12_goesThrough 93 = .ok (.iload 8, 2) := by decide +kernel
theorem dX12_goesThrough_95 : decode cX12_goesThrough 95 = .ok (.invokestatic 209, 3) := by decide +kernel
theorem dX12_goesThrough_98 : decode cX12_goesThrough 98 = .ok (.aload_n 0, 1) := by decide +kernel
theorem dX12_goesThrough_99 : decode cX12_goesThrough 99 = .ok (.iload 8, 2) := by decide +kernel
theorem dX12_goesThrough_101 : decode cX12_goesThrough 101 = .ok (.iload 9, 2) := by decide +kernel
theorem dX12_goesThrough_103 : decode cX12_goesThrough 103 = .ok (.invokevirtual 212, 3) := by decide +kernel
theorem dX12_goesThrough_106 : decode cX12_goesThrough 106 = .ok (.i2l, 1) := by decide +kernel
theorem dX12_goesThrough_107 : decode cX12_goesThrough 107 = .ok (.lmul, 1) := by decide +kernel
theorem dX12_goesThrough_108 : decode cX12_goesThrough 108 = .ok (.aload_n 0, 1) := by decide +kernel
theorem dX12_goesThrough_109 : decode cX12_goesThrough 109 = .ok (.getfield 38, 3) := by decide +kernel
theorem dX12_goesThrough_112 : decode cX12_goesThrough 112 = .ok (.iload 10, 2) := by decide +kernel
theorem dX12_goesThrough_114 : decode cX12_goesThrough 114 = .ok (.laload, 1) := by decide +kernel
theorem dX12_goesThrough_115 : decode cX12_goesThrough 115 = .ok (.ladd, 1) := by decide +kernel
theorem dX12_goesThrough_116 : decode cX12_goesThrough 116 = .ok (.ladd, 1) := by decide +kernel
theorem dX12_goesThrough_117 : decode cX12_goesThrough 117 = .ok (.lstore_n 3, 1) := by decide +kernel
theorem dX12_goesThrough_118 : decode cX12_goesThrough 118 = .ok (.lload 5, 2) := by decide +kernel
theorem dX12_goesThrough_120 : decode cX12_goesThrough 120 = .ok (.aload_n 0, 1) := by decide +kernel
theorem dX12_goesThrough_121 : decode cX12_goesThrough 121 = .ok (.getfield 41, 3) := by decide +kernel
theorem dX12_goesThrough_124 : decode cX12_goesThrough 124 = .ok (.iload 10, 2) := by decide +kernel
theorem dX12_goesThrough_126 : decode cX12_goesThrough 126 = .ok (.laload, 1) := by decide +kernel
theorem dX12_goesThrough_127 : decode cX12_goesThrough 127 = .ok (.ladd, 1) := by decide +kernel
theorem dX12_goesThrough_128 : decode cX12_goesThrough 128 = .ok (.lstore 5, 2) := by decide +kernel
theorem dX12_goesThrough_130 : decode cX12_goesThrough 130 = .ok (.iinc 7 1, 3) := by decide +kernel
theorem dX12_goesThrough_133 : decode cX12_goesThrough 133 = .ok (.goto (-91), 3) := by decide +kernel
theorem dX12_goesThrough_136 : decode cX12_goesThrough 136 = .ok (.aload_n 0, 1) := by decide +kernel
theorem dX12_goesThrough_137 : decode cX12_goesThrough 137 = .ok (.getfield 44, 3) := by decide +kernel
theorem dX12_goesThrough_140 : decode cX12_goesThrough 140 = .ok (.iload_n 2, 1) := by decide +kernel
theorem dX12_goesThrough_141 : decode cX12_goesThrough 141 = .ok (.aload_n 0, 1) := by decide +kernel
theorem dX12_goesThrough_142 : decode cX12_goesThrough 142 = .ok (.getfield 188, 3) := by decide +kernel
theorem dX12_goesThrough_145 : decode cX12_goesThrough 145 = .ok (.iastore, 1) := by decide +kernel
theorem dX12_goesThrough_146 : decode cX12_goesThrough 146 = .ok (.aload_n 0, 1) := by decide +kernel
theorem dX12_goesThrough_147 : decode cX12_goesThrough 147 = .ok (.getfield 38, 3) := by decide +kernel
theorem dX12_goesThrough_150 : decode cX12_goesThrough 150 = .ok (.iload_n 2, 1) := by decide +kernel
theorem dX12_goesThrough_151 : decode cX12_goesThrough 151 = .ok (.lload_n 3, 1) := by decide +kernel
theorem dX12_goesThrough_152 : decode cX12_goesThrough 152 = .ok (.lastore, 1) := by decide +kernel
theorem dX12_goesThrough_153 : decode cX12_goesThrough 153 = .ok (.aload_n 0, 1) := by decide +kernel
theorem dX12_goesThrough_154 : decode cX12_goesThrough 154 = .ok (.getfield 41, 3) := by decide +kernel
theorem dX12_goesThrough_157 : decode cX12_goesThrough 157 = .ok (.iload_n 2, 1) := by decide +kernel
theorem dX12_goesThrough_158 : decode cX12_goesThrough 158 = .ok (.lload 5, 2) := by decide +kernel
theorem dX12_goesThrough_160 : decode cX12_goesThrough 160 = .ok (.lastore, 1) := by decide +kernel
theorem dX12_goesThrough_161 : decode cX12_goesThrough 161 = .ok (.return_, 1) := by decide +kernel
theorem dX12_mean_0 : decode cX12_mean 0 = .ok (.aload_n 0, 1) := by decide +kernel
theorem dX12_mean_1 : decode cX12_mean 1 = .ok (.iload_n 1, 1) := by decide +kernel
theorem dX12_mean_2 : decode cX12_mean 2 = .ok (.invokevirtual 227, 3) := by decide +kernel
theorem dX12_mean_5 : decode cX12_mean 5 = .ok (.ifCond .eq 21, 3) := by decide +kernel
theorem dX12_mean_8 : decode cX12_mean 8 = .ok (.iload_n 2, 1) := by decide +kernel
theorem dX12_mean_9 : decode cX12_mean 9 = .ok (.iconst 0, 1) := by decide +kernel
theorem dX12_mean_10 : decode cX12_mean 10 = .ok (.iconst 2, 1) := by decide +kernel
theorem dX12_mean_11 : decode cX12_mean 11 = .ok (.invokestatic 69, 3) := by decide +kernel
theorem dX12_mean_14 : decode cX12_mean 14 = .ok (.ifCond .eq 12, 3) := by decide +kernel
theorem dX12_mean_17 : decode cX12_mean 17 = .ok (.iload_n 3, 1) := by decide +kernel
theorem dX12_mean_18 : decode cX12_mean 18 = .ok (.iconst 0, 1) := by decide +kernel
theorem dX12_mean_19 : decode cX12_mean 19 = .ok (.iconst 1, 1) := by decide +kernel
theorem dX12_mean_20 : decode cX12_mean 20 = .ok (.invokestatic 69, 3) := by decide +kernel
theorem dX12_mean_23 : decode cX12_mean 23 = .ok (.ifCond .ne 7, 3) := by decide +kernel
theorem dX12_mean_26 : decode cX12_mean 26 = .ok (.ldc2_w 259, 3) := by decide +kernel
theorem dX12_mean_29 : decode cX12_mean 29 = .ok (.lreturn, 1) := by decide +kernel
theorem dX12_mean_30 : decode cX12_mean 30 = .ok (.aload_n 0, 1) := by decide +kernel
theorem dX12_mean_31 : decode cX12_mean 31 = .ok (.invokevirtual 246, 3) := by decide +kernel
theorem dX12_mean_34 : decode cX12_mean 34 = .ok (.aload_n 0, 1) := by decide +kernel
theorem dX12_mean_35 : decode cX12_mean 35 = .ok (.invokevirtual 249, 3) := by decide +kernel
theorem dX12_mean_38 : decode cX12_mean 38 = .ok (.istore 4, 2) := by decide +kernel
theorem dX12_mean_40 : decode cX12_mean 40 = .ok (.aload_n 0, 1) := by decide +kernel
theorem dX12_mean_41 : decode cX12_mean 41 = .ok (.iload_n 1, 1) := by decide +kernel
theorem dX12_mean_42 : decode cX12_mean 42 = .ok (.iload 4, 2) := by decide +kernel
theorem dX12_mean_44 : decode cX12_mean 44 = .ok (.invokevirtual 265, 3) := by decide +kernel
theorem dX12_mean_47 : decode cX12_mean 47 = .ok (.iload_n 2, 1) := by decide +kernel
theorem dX12_mean_48 : decode cX12_mean 48 = .ok (.ifCond .ne 13, 3) := by decide +kernel
theorem dX12_mean_51 : decode cX12_mean 51 = .ok (.aload_n 0, 1) := by decide +kernel
theorem dX12_mean_52 : decode cX12_mean 52 = .ok (.getfield 38, 3) := by decide +kernel
theorem dX12_mean_55 : decode cX12_mean 55 = .ok (.iload 4, 2) := by decide +kernel
theorem dX12_mean_57 : decode cX12_mean 57 = .ok (.laload, 1) := by decide +kernel
theorem dX12_mean_58 : decode cX12_mean 58 = .ok (.goto 32, 3) := by decide +kernel
theorem dX12_mean_61 : decode cX12_mean 61 = .ok (.iload_n 2, 1) := by decide +kernel
theorem dX12_mean_62 : decode cX12_mean 62 = .ok (.iconst 1, 1) := by decide +kernel
theorem dX12_mean_63 : decode cX12_mean 63 = .ok (.if_icmp .ne 13, 3) := by decide +kernel
theorem dX12_mean_66 : decode cX12_mean 66 = .ok (.aload_n 0, 1) := by decide +kernel
theorem dX12_mean_67 : decode cX12_mean 67 = .ok (.getfield 41, 3) := by decide +kernel
theorem dX12_mean_70 : decode cX12_mean 70 = .ok (.iload 4, 2) := by decide +kernel
theorem dX12_mean_72 : decode cX12_mean 72 = .ok (.laload, 1) := by decide +kernel
theorem dX12_mean_73 : decode cX12_mean 73 = .ok (.goto 17, 3) := by decide +kernel
theorem dX12_mean_76 : decode cX12_mean 76 = .ok (.aload_n 0, 1) := by decide +kernel
theorem dX12_mean_77 : decode cX12_mean 77 = .ok (.iload 4, 2) := by decide +kernel
theorem dX12_mean_79 : decode cX12_mean 79 = .ok (.invokevirtual 202, 3) := by decide +kernel
theorem dX12_mean_82 : decode cX12_mean 82 = .ok (.aload_n 0, 1) := by decide +kernel
theorem dX12_mean_83 : decode cX12_mean 83 = .ok (.getfield 38, 3) := by decide +kernel
theorem dX12_mean_86 : decode cX12_mean 86 = .ok (.iload 4, 2) := by decide +kernel
theorem dX12_mean_88 : decode cX12_mean 88 = .ok (.laload, 1) := by decide +kernel
theorem dX12_mean_89 : decode cX12_mean 89 = .ok (.lsub, 1) := by decide +kernel
theorem dX12_mean_90 : decode cX12_mean 90 = .ok (.lstore 5, 2) := by decide +kernel
theorem dX12_mean_92 : decode cX12_mean 92 = .ok (.lload 5, 2) := by decide +kernel
theorem dX12_mean_94 : decode cX12_mean 94 = .ok (.iload 4, 2) := by decide +kernel
theorem dX12_mean_96 : decode cX12_mean 96 = .ok (.invokestatic 209, 3) := by decide +kernel
theorem dX12_mean_99 : decode cX12_mean 99 = .ok (.iload_n 3, 1) := by decide +kernel
theorem dX12_mean_100 : decode cX12_mean 100 = .ok (.invokestatic 261, 3) := by decide +kernel
theorem dX12_mean_103 : decode cX12_mean 103 = .ok (.lreturn, 1) := by decide +kernel
theorem dX12_today_0 : decode cX12_today 0 = .ok (.iload_n 1, 1) := by decide +kernel
theorem dX12_today_1 : decode cX12_today 1 = .ok (.invokestatic 73, 3) := by decide +kernel
theorem dX12_today_4 : decode cX12_today 4 = .ok (.ifCond .ne 5, 3) := by decide +kernel
theorem dX12_today_7 : decode cX12_today 7 = .ok (.iconst (-1), 1) := by decide +kernel
theorem dX12_today_8 : decode cX12_today 8 = .ok (.ireturn, 1) := by decide +kernel
theorem dX12_today_9 : decode cX12_today 9 = .ok (.aload_n 0, 1) := by decide +kernel
theorem dX12_today_10 : decode cX12_today 10 = .ok (.getfield 9, 3) := by decide +kernel
theorem dX12_today_13 : decode cX12_today 13 = .ok (.bipush 6, 2) := by decide +kernel
theorem dX12_today_15 : decode cX12_today 15 = .ok (.iload_n 1, 1) := by decide +kernel
theorem dX12_today_16 : decode cX12_today 16 = .ok (.iadd, 1) := by decide +kernel
theorem dX12_today_17 : decode cX12_today 17 = .ok (.iaload, 1) := by decide +kernel
theorem dX12_today_18 : decode cX12_today 18 = .ok (.ifCond .ne 6, 3) := by decide +kernel
theorem dX12_today_21 : decode cX12_today 21 = .ok (.bipush (-3), 2) := by decide +kernel
theorem dX12_today_23 : decode cX12_today 23 = .ok (.ireturn, 1) := by decide +kernel
theorem dX12_today_24 : decode cX12_today 24 = .ok (.aload_n 0, 1) := by decide +kernel
theorem dX12_today_25 : decode cX12_today 25 = .ok (.invokevirtual 246, 3) := by decide +kernel
theorem dX12_today_28 : decode cX12_today 28 = .ok (.aload_n 0, 1) := by decide +kernel
theorem dX12_today_29 : decode cX12_today 29 = .ok (.aload_n 0, 1) := by decide +kernel
theorem dX12_today_30 : decode cX12_today 30 = .ok (.invokevirtual 249, 3) := by decide +kernel
theorem dX12_today_33 : decode cX12_today 33 = .ok (.iload_n 1, 1) := by decide +kernel
theorem dX12_today_34 : decode cX12_today 34 = .ok (.invokestatic 218, 3) := by decide +kernel
theorem dX12_today_37 : decode cX12_today 37 = .ok (.iload_n 1, 1) := by decide +kernel
theorem dX12_today_38 : decode cX12_today 38 = .ok (.invokevirtual 243, 3) := by decide +kernel
theorem dX12_today_41 : decode cX12_today 41 = .ok (.istore_n 2, 1) := by decide +kernel
theorem dX12_today_42 : decode cX12_today 42 = .ok (.iload_n 2, 1) := by decide +kernel
theorem dX12_today_43 : decode cX12_today 43 = .ok (.iconst (-1), 1) := by decide +kernel
theorem dX12_today_44 : decode cX12_today 44 = .ok (.if_icmp .ne 8, 3) := by decide +kernel
theorem dX12_today_47 : decode cX12_today 47 = .ok (.bipush (-5), 2) := by decide +kernel
theorem dX12_today_49 : decode cX12_today 49 = .ok (.goto 4, 3) := by decide +kernel
theorem dX12_today_52 : decode cX12_today 52 = .ok (.iload_n 2, 1) := by decide +kernel
theorem dX12_today_53 : decode cX12_today 53 = .ok (.ireturn, 1) := by decide +kernel
theorem dX12_isSure_0 : decode cX12_isSure 0 = .ok (.iload_n 1, 1) := by decide +kernel
theorem dX12_isSure_1 : decode cX12_isSure 1 = .ok (.iload_n 2, 1) := by decide +kernel
theorem dX12_isSure_2 : decode cX12_isSure 2 = .ok (.invokestatic 182, 3) := by decide +kernel
theorem dX12_isSure_5 : decode cX12_isSure 5 = .ok (.iconst 2, 1) := by decide +kernel
theorem dX12_isSure_6 : decode cX12_isSure 6 = .ok (.if_icmp .ne 5, 3) := by decide +kernel
theorem dX12_isSure_9 : decode cX12_isSure 9 = .ok (.iconst 1, 1) := by decide +kernel
theorem dX12_isSure_10 : decode cX12_isSure 10 = .ok (.ireturn, 1) := by decide +kernel
theorem dX12_isSure_11 : decode cX12_isSure 11 = .ok (.aload_n 0, 1) := by decide +kernel
theorem dX12_isSure_12 : decode cX12_isSure 12 = .ok (.getfield 47, 3) := by decide +kernel
theorem dX12_isSure_15 : decode cX12_isSure 15 = .ok (.iload_n 1, 1) := by decide +kernel
theorem dX12_isSure_16 : decode cX12_isSure 16 = .ok (.iaload, 1) := by decide +kernel
theorem dX12_isSure_17 : decode cX12_isSure 17 = .ok (.ifCond .eq 19, 3) := by decide +kernel
theorem dX12_isSure_20 : decode cX12_isSure 20 = .ok (.aload_n 0, 1) := by decide +kernel
theorem dX12_isSure_21 : decode cX12_isSure 21 = .ok (.getfield 47, 3) := by decide +kernel
theorem dX12_isSure_24 : decode cX12_isSure 24 = .ok (.iload_n 1, 1) := by decide +kernel
theorem dX12_isSure_25 : decode cX12_isSure 25 = .ok (.iaload, 1) := by decide +kernel
theorem dX12_isSure_26 : decode cX12_isSure 26 = .ok (.iconst 2, 1) := by decide +kernel
theorem dX12_isSure_27 : decode cX12_isSure 27 = .ok (.if_icmp .ne 7, 3) := by decide +kernel
theorem dX12_isSure_30 : decode cX12_isSure 30 = .ok (.iconst 1, 1) := by decide +kernel
theorem dX12_isSure_31 : decode cX12_isSure 31 = .ok (.goto 4, 3) := by decide +kernel
theorem dX12_isSure_34 : decode cX12_isSure 34 = .ok (.iconst 0, 1) := by decide +kernel
theorem dX12_isSure_35 : decode cX12_isSure 35 = .ok (.ireturn, 1) := by decide +kernel
theorem dX12_isSure_36 : decode cX12_isSure 36 = .ok (.iload_n 1, 1) := by decide +kernel
theorem dX12_isSure_37 : decode cX12_isSure 37 = .ok (.invokestatic 185, 3) := by decide +kernel
theorem dX12_isSure_40 : decode cX12_isSure 40 = .ok (.ifCond .le 7, 3) := by decide +kernel
theorem dX12_isSure_43 : decode cX12_isSure 43 = .ok (.iconst 1, 1) := by decide +kernel
theorem dX12_isSure_44 : decode cX12_isSure 44 = .ok (.goto 4, 3) := by decide +kernel
theorem dX12_isSure_47 : decode cX12_isSure 47 = .ok (.iconst 0, 1) := by decide +kernel
theorem dX12_isSure_48 : decode cX12_isSure 48 = .ok (.istore_n 3, 1) := by decide +kernel
theorem dX12_isSure_49 : decode cX12_isSure 49 = .ok (.iconst 0, 1) := by decide +kernel
theorem dX12_isSure_50 : decode cX12_isSure 50 = .ok (.istore 4, 2) := by decide +kernel
theorem dX12_isSure_52 : decode cX12_isSure 52 = .ok (.iload 4, 2) := by decide +kernel
theorem dX12_isSure_54 : decode cX12_isSure 54 = .ok (.iconst 3, 1) := by decide +kernel
theorem dX12_isSure_55 : decode cX12_isSure 55 = .ok (.if_icmp .ge 59, 3) := by decide +kernel
theorem dX12_isSure_58 : decode cX12_isSure 58 = .ok (.iload_n 3, 1) := by decide +kernel
theorem dX12_isSure_59 : decode cX12_isSure 59 = .ok (.ifCond .eq 55, 3) := by decide +kernel
theorem dX12_isSure_62 : decode cX12_isSure 62 = .ok (.iload_n 1, 1) := by decide +kernel
theorem dX12_isSure_63 : decode cX12_isSure 63 = .ok (.iload 4, 2) := by decide +kernel
theorem dX12_isSure_65 : decode cX12_isSure 65 = .ok (.invokestatic 172, 3) := by decide +kernel
theorem dX12_isSure_68 : decode cX12_isSure 68 = .ok (.ifCond .le 40, 3) := by decide +kernel
theorem dX12_isSure_71 : decode cX12_isSure 71 = .ok (.iload_n 1, 1) := by decide +kernel
theorem dX12_isSure_72 : decode cX12_isSure 72 = .ok (.iload 4, 2) := by decide +kernel
theorem dX12_isSure_74 : decode cX12_isSure 74 = .ok (.invokestatic 218, 3) := by decide +kernel
theorem dX12_isSure_77 : decode cX12_isSure 77 = .ok (.istore 5, 2) := by decide +kernel
theorem dX12_isSure_79 : decode cX12_isSure 79 = .ok (.aload_n 0, 1) := by decide +kernel
theorem dX12_isSure_80 : decode cX12_isSure 80 = .ok (.aload_n 0, 1) := by decide +kernel
theorem dX12_isSure_81 : decode cX12_isSure 81 = .ok (.iload 5, 2) := by decide +kernel
theorem dX12_isSure_83 : decode cX12_isSure 83 = .ok (.iload 4, 2) := by decide +kernel
theorem dX12_isSure_85 : decode cX12_isSure 85 = .ok (.iload_n 2, 1) := by decide +kernel
theorem dX12_isSure_86 : decode cX12_isSure 86 = .ok (.invokevirtual 206, 3) := by decide +kernel
theorem dX12_isSure_89 : decode cX12_isSure 89 = .ok (.ifCond .eq 12, 3) := by decide +kernel
theorem dX12_isSure_92 : decode cX12_isSure 92 = .ok (.iload 5, 2) := by decide +kernel
theorem dX12_isSure_94 : decode cX12_isSure 94 = .ok (.iload_n 2, 1) := by decide +kernel
theorem dX12_isSure_95 : decode cX12_isSure 95 = .ok (.invokestatic 215, 3) := by decide +kernel
theorem dX12_isSure_98 : decode cX12_isSure 98 = .ok (.goto 5, 3) := by decide +kernel
theorem dX12_isSure_101 : decode cX12_isSure 101 = .ok (.iload 5, 2) := by decide +kernel
theorem dX12_isSure_103 : decode cX12_isSure 103 = .ok (.iload_n 2, 1) := by decide +kernel
theorem dX12_isSure_104 : decode cX12_isSure 104 = .ok (.invokevirtual 269, 3) := by decide +kernel
theorem dX12_isSure_107 : decode cX12_isSure 107 = .ok (.istore_n 3, 1) := by decide +kernel
theorem dX12_isSure_108 : decode cX12_isSure 108 = .ok (.iinc 4 1, 3) := by decide +kernel
theorem dX12_isSure_111 : decode cX12_isSure 111 = .ok (.goto (-59), 3) := by decide +kernel
theorem dX12_isSure_114 : decode cX12_isSure 114 = .ok (.aload_n 0, 1) := by decide +kernel
theorem dX12_isSure_115 : decode cX12_isSure 115 = .ok (.getfield 47, 3) := by decide +kernel
theorem dX12_isSure_118 : decode cX12_isSure 118 = .ok (.iload_n 1, 1) := by decide +kernel
theorem dX12_isSure_119 : decode cX12_isSure 119 = .ok (.iload_n 3, 1) := by decide +kernel
theorem dX12_isSure_120 : decode cX12_isSure 120 = .ok (.ifCond .eq 7, 3) := by decide +kernel
theorem dX12_isSure_123 : decode cX12_isSure 123 = .ok (.iconst 2, 1) := by decide +kernel
theorem dX12_isSure_124 : decode cX12_isSure 124 = .ok (.goto 4, 3) := by decide +kernel
theorem dX12_isSure_127 : decode cX12_isSure 127 = .ok (.iconst 1, 1) := by decide +kernel
theorem dX12_isSure_128 : decode cX12_isSure 128 = .ok (.iastore, 1) := by decide +kernel
theorem dX12_isSure_129 : decode cX12_isSure 129 = .ok (.iload_n 3, 1) := by decide +kernel
theorem dX12_isSure_130 : decode cX12_isSure 130 = .ok (.ireturn, 1) := by decide +kernel
theorem dX12_whatever_0 : decode cX12_whatever 0 = .ok (.aload_n 0, 1) := by decide +kernel
theorem dX12_whatever_1 : decode cX12_whatever 1 = .ok (.invokevirtual 246, 3) := by decide +kernel
theorem dX12_whatever_4 : decode cX12_whatever 4 = .ok (.iconst 0, 1) := by decide +kernel
theorem dX12_whatever_5 : decode cX12_whatever 5 = .ok (.istore_n 1, 1) := by decide +kernel
theorem dX12_whatever_6 : decode cX12_whatever 6 = .ok (.iconst 0, 1) := by decide +kernel
theorem dX12_whatever_7 : decode cX12_whatever 7 = .ok (.istore_n 2, 1) := by decide +kernel
theorem dX12_whatever_8 : decode cX12_whatever 8 = .ok (.iload_n 2, 1) := by decide +kernel
theorem dX12_whatever_9 : decode cX12_whatever 9 = .ok (.iconst 3, 1) := by decide +kernel
theorem dX12_whatever_10 : decode cX12_whatever 10 = .ok (.if_icmp .ge 53, 3) := by decide +kernel
theorem dX12_whatever_13 : decode cX12_whatever 13 = .ok (.iconst 0, 1) := by decide +kernel
theorem dX12_whatever_14 : decode cX12_whatever 14 = .ok (.istore_n 3, 1) := by decide +kernel
theorem dX12_whatever_15 : decode cX12_whatever 15 = .ok (.iload_n 3, 1) := by decide +kernel
theorem dX12_whatever_16 : decode cX12_whatever 16 = .ok (.sipush 5832, 3) := by decide +kernel
theorem dX12_whatever_19 : decode cX12_whatever 19 = .ok (.if_icmp .ge 16, 3) := by decide +kernel
theorem dX12_whatever_22 : decode cX12_whatever 22 = .ok (.aload_n 0, 1) := by decide +kernel
theorem dX12_whatever_23 : decode cX12_whatever 23 = .ok (.getfield 47, 3) := by decide +kernel
theorem dX12_whatever_26 : decode cX12_whatever 26 = .ok (.iload_n 3, 1) := by decide +kernel
theorem dX12_whatever_27 : decode cX12_whatever 27 = .ok (.iconst 0, 1) := by decide +kernel
theorem dX12_whatever_28 : decode cX12_whatever 28 = .ok (.iastore, 1) := by decide +kernel
theorem dX12_whatever_29 : decode cX12_whatever 29 = .ok (.iinc 3 1, 3) := by decide +kernel
theorem dX12_whatever_32 : decode cX12_whatever 32 = .ok (.goto (-17), 3) := by decide +kernel
theorem dX12_whatever_35 : decode cX12_whatever 35 = .ok (.iload_n 1, 1) := by decide +kernel
theorem dX12_whatever_36 : decode cX12_whatever 36 = .ok (.aload_n 0, 1) := by decide +kernel
theorem dX12_whatever_37 : decode cX12_whatever 37 = .ok (.aload_n 0, 1) := by decide +kernel
theorem dX12_whatever_38 : decode cX12_whatever 38 = .ok (.invokevirtual 249, 3) := by decide +kernel
theorem dX12_whatever_41 : decode cX12_whatever 41 = .ok (.iload_n 2, 1) := by decide +kernel
theorem dX12_whatever_42 : decode cX12_whatever 42 = .ok (.invokevirtual 269, 3) := by decide +kernel
theorem dX12_whatever_45 : decode cX12_whatever 45 = .ok (.ifCond .eq 9, 3) := by decide +kernel
theorem dX12_whatever_48 : decode cX12_whatever 48 = .ok (.iconst 1, 1) := by decide +kernel
theorem dX12_whatever_49 : decode cX12_whatever 49 = .ok (.iload_n 2, 1) := by decide +kernel
theorem dX12_whatever_50 : decode cX12_whatever 50 = .ok (.ishl, 1) := by decide +kernel
theorem dX12_whatever_51 : decode cX12_whatever 51 = .ok (.goto 4, 3) := by decide +kernel
theorem dX12_whatever_54 : decode cX12_whatever 54 = .ok (.iconst 0, 1) := by decide +kernel
theorem dX12_whatever_55 : decode cX12_whatever 55 = .ok (.ior, 1) := by decide +kernel
theorem dX12_whatever_56 : decode cX12_whatever 56 = .ok (.istore_n 1, 1) := by decide +kernel
theorem dX12_whatever_57 : decode cX12_whatever 57 = .ok (.iinc 2 1, 3) := by decide +kernel
theorem dX12_whatever_60 : decode cX12_whatever 60 = .ok (.goto (-52), 3) := by decide +kernel
theorem dX12_whatever_63 : decode cX12_whatever 63 = .ok (.iload_n 1, 1) := by decide +kernel
theorem dX12_whatever_64 : decode cX12_whatever 64 = .ok (.ireturn, 1) := by decide +kernel
theorem dX12_mostFrom_0 : decode cX12_mostFrom 0 = .ok (.aload_n 0, 1) := by decide +kernel
