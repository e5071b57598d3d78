theorem dX0_init_0 : decode cX0_init 0 = .ok (.aload_n 0, 1) := by decide +kernel
theorem dX0_init_1 : decode cX0_init 1 = .ok (.invokespecial 3, 3) := by decide +kernel
theorem dX0_init_4 : decode cX0_init 4 = .ok (.aload_n 0, 1) := by decide +kernel
theorem dX0_init_5 : decode cX0_init 5 = .ok (.iconst 3, 1) := by decide +kernel
theorem dX0_init_6 : decode cX0_init 6 = .ok (.newarray .int, 2) := by decide +kernel
theorem dX0_init_8 : decode cX0_init 8 = .ok (.putfield 9, 3) := by decide +kernel
theorem dX0_init_11 : decode cX0_init 11 = .ok (.aload_n 0, 1) := by decide +kernel
theorem dX0_init_12 : decode cX0_init 12 = .ok (.iconst (-1), 1) := by decide +kernel
theorem dX0_init_13 : decode cX0_init 13 = .ok (.putfield 15, 3) := by decide +kernel
theorem dX0_init_16 : decode cX0_init 16 = .ok (.aload_n 0, 1) := by decide +kernel
theorem dX0_init_17 : decode cX0_init 17 = .ok (.iconst (-1), 1) := by decide +kernel
theorem dX0_init_18 : decode cX0_init 18 = .ok (.putfield 19, 3) := by decide +kernel
theorem dX0_init_21 : decode cX0_init 21 = .ok (.aload_n 0, 1) := by decide +kernel
theorem dX0_init_22 : decode cX0_init 22 = .ok (.sipush 270, 3) := by decide +kernel
theorem dX0_init_25 : decode cX0_init 25 = .ok (.newarray .int, 2) := by decide +kernel
theorem dX0_init_27 : decode cX0_init 27 = .ok (.putfield 22, 3) := by decide +kernel
theorem dX0_init_30 : decode cX0_init 30 = .ok (.aload_n 0, 1) := by decide +kernel
theorem dX0_init_31 : decode cX0_init 31 = .ok (.iconst 5, 1) := by decide +kernel
theorem dX0_init_32 : decode cX0_init 32 = .ok (.newarray .int, 2) := by decide +kernel
theorem dX0_init_34 : decode cX0_init 34 = .ok (.putfield 25, 3) := by decide +kernel
theorem dX0_init_37 : decode cX0_init 37 = .ok (.aload_n 0, 1) := by decide +kernel
theorem dX0_init_38 : decode cX0_init 38 = .ok (.sipush 5832, 3) := by decide +kernel
theorem dX0_init_41 : decode cX0_init 41 = .ok (.newarray .int, 2) := by decide +kernel
theorem dX0_init_43 : decode cX0_init 43 = .ok (.putfield 28, 3) := by decide +kernel
theorem dX0_init_46 : decode cX0_init 46 = .ok (.aload_n 0, 1) := by decide +kernel
theorem dX0_init_47 : decode cX0_init 47 = .ok (.aload_n 1, 1) := by decide +kernel
theorem dX0_init_48 : decode cX0_init 48 = .ok (.putfield 31, 3) := by decide +kernel
theorem dX0_init_51 : decode cX0_init 51 = .ok (.aload_n 0, 1) := by decide +kernel
theorem dX0_init_52 : decode cX0_init 52 = .ok (.aload_n 2, 1) := by decide +kernel
theorem dX0_init_53 : decode cX0_init 53 = .ok (.putfield 35, 3) := by decide +kernel
theorem dX0_init_56 : decode cX0_init 56 = .ok (.return_, 1) := by decide +kernel
theorem dX0_look_0 : decode cX0_look 0 = .ok (.iconst 0, 1) := by decide +kernel
theorem dX0_look_1 : decode cX0_look 1 = .ok (.istore 4, 2) := by decide +kernel
theorem dX0_look_3 : decode cX0_look 3 = .ok (.iload 4, 2) := by decide +kernel
theorem dX0_look_5 : decode cX0_look 5 = .ok (.iconst 3, 1) := by decide +kernel
theorem dX0_look_6 : decode cX0_look 6 = .ok (.if_icmp .ge 35, 3) := by decide +kernel
theorem dX0_look_9 : decode cX0_look 9 = .ok (.aload_n 0, 1) := by decide +kernel
theorem dX0_look_10 : decode cX0_look 10 = .ok (.getfield 9, 3) := by decide +kernel
theorem dX0_look_13 : decode cX0_look 13 = .ok (.iload 4, 2) := by decide +kernel
theorem dX0_look_15 : decode cX0_look 15 = .ok (.aload_n 1, 1) := by decide +kernel
theorem dX0_look_16 : decode cX0_look 16 = .ok (.getfield 38, 3) := by decide +kernel
theorem dX0_look_19 : decode cX0_look 19 = .ok (.iload 4, 2) := by decide +kernel
theorem dX0_look_21 : decode cX0_look 21 = .ok (.iaload, 1) := by decide +kernel
theorem dX0_look_22 : decode cX0_look 22 = .ok (.iload 4, 2) := by decide +kernel
theorem dX0_look_24 : decode cX0_look 24 = .ok (.iload_n 2, 1) := by decide +kernel
theorem dX0_look_25 : decode cX0_look 25 = .ok (.if_icmp .ne 7, 3) := by decide +kernel
theorem dX0_look_28 : decode cX0_look 28 = .ok (.iconst 1, 1) := by decide +kernel
theorem dX0_look_29 : decode cX0_look 29 = .ok (.goto 4, 3) := by decide +kernel
theorem dX0_look_32 : decode cX0_look 32 = .ok (.iconst 0, 1) := by decide +kernel
theorem dX0_look_33 : decode cX0_look 33 = .ok (.iadd, 1) := by decide +kernel
theorem dX0_look_34 : decode cX0_look 34 = .ok (.iastore, 1) := by decide +kernel
theorem dX0_look_35 : decode cX0_look 35 = .ok (.iinc 4 1, 3) := by decide +kernel
theorem dX0_look_38 : decode cX0_look 38 = .ok (.goto (-35), 3) := by decide +kernel
theorem dX0_look_41 : decode cX0_look 41 = .ok (.aload_n 0, 1) := by decide +kernel
theorem dX0_look_42 : decode cX0_look 42 = .ok (.aload_n 0, 1) := by decide +kernel
theorem dX0_look_43 : decode cX0_look 43 = .ok (.getfield 9, 3) := by decide +kernel
theorem dX0_look_46 : decode cX0_look 46 = .ok (.invokestatic 43, 3) := by decide +kernel
theorem dX0_look_49 : decode cX0_look 49 = .ok (.putfield 47, 3) := by decide +kernel
theorem dX0_look_52 : decode cX0_look 52 = .ok (.aload_n 1, 1) := by decide +kernel
theorem dX0_look_53 : decode cX0_look 53 = .ok (.getfield 50, 3) := by decide +kernel
theorem dX0_look_56 : decode cX0_look 56 = .ok (.aload_n 0, 1) := by decide +kernel
theorem dX0_look_57 : decode cX0_look 57 = .ok (.getfield 47, 3) := by decide +kernel
theorem dX0_look_60 : decode cX0_look 60 = .ok (.iadd, 1) := by decide +kernel
theorem dX0_look_61 : decode cX0_look 61 = .ok (.istore 4, 2) := by decide +kernel
theorem dX0_look_63 : decode cX0_look 63 = .ok (.iload_n 3, 1) := by decide +kernel
theorem dX0_look_64 : decode cX0_look 64 = .ok (.ifCond .lt 19, 3) := by decide +kernel
theorem dX0_look_67 : decode cX0_look 67 = .ok (.iload_n 3, 1) := by decide +kernel
theorem dX0_look_68 : decode cX0_look 68 = .ok (.iconst 3, 1) := by decide +kernel
theorem dX0_look_69 : decode cX0_look 69 = .ok (.if_icmp .ge 14, 3) := by decide +kernel
theorem dX0_look_72 : decode cX0_look 72 = .ok (.aload_n 0, 1) := by decide +kernel
theorem dX0_look_73 : decode cX0_look 73 = .ok (.getfield 9, 3) := by decide +kernel
theorem dX0_look_76 : decode cX0_look 76 = .ok (.iload_n 3, 1) := by decide +kernel
theorem dX0_look_77 : decode cX0_look 77 = .ok (.iaload, 1) := by decide +kernel
theorem dX0_look_78 : decode cX0_look 78 = .ok (.iconst 1, 1) := by decide +kernel
theorem dX0_look_79 : decode cX0_look 79 = .ok (.isub, 1) := by decide +kernel
theorem dX0_look_80 : decode cX0_look 80 = .ok (.goto 4, 3) := by decide +kernel
theorem dX0_look_83 : decode cX0_look 83 = .ok (.iconst 0, 1) := by decide +kernel
theorem dX0_look_84 : decode cX0_look 84 = .ok (.istore 5, 2) := by decide +kernel
theorem dX0_look_86 : decode cX0_look 86 = .ok (.aload_n 1, 1) := by decide +kernel
theorem dX0_look_87 : decode cX0_look 87 = .ok (.getfield 52, 3) := by decide +kernel
theorem dX0_look_90 : decode cX0_look 90 = .ok (.aload_n 0, 1) := by decide +kernel
theorem dX0_look_91 : decode cX0_look 91 = .ok (.getfield 31, 3) := by decide +kernel
theorem dX0_look_94 : decode cX0_look 94 = .ok (.if_acmp .ne 30, 3) := by decide +kernel
theorem dX0_look_97 : decode cX0_look 97 = .ok (.iload 4, 2) := by decide +kernel
theorem dX0_look_99 : decode cX0_look 99 = .ok (.aload_n 0, 1) := by decide +kernel
theorem dX0_look_100 : decode cX0_look 100 = .ok (.getfield 15, 3) := by decide +kernel
theorem dX0_look_103 : decode cX0_look 103 = .ok (.if_icmp .ne 21, 3) := by decide +kernel
theorem dX0_look_106 : decode cX0_look 106 = .ok (.iload_n 3, 1) := by decide +kernel
theorem dX0_look_107 : decode cX0_look 107 = .ok (.aload_n 0, 1) := by decide +kernel
theorem dX0_look_108 : decode cX0_look 108 = .ok (.getfield 19, 3) := by decide +kernel
theorem dX0_look_111 : decode cX0_look 111 = .ok (.if_icmp .ne 13, 3) := by decide +kernel
theorem dX0_look_114 : decode cX0_look 114 = .ok (.iload 5, 2) := by decide +kernel
theorem dX0_look_116 : decode cX0_look 116 = .ok (.aload_n 0, 1) := by decide +kernel
theorem dX0_look_117 : decode cX0_look 117 = .ok (.getfield 55, 3) := by decide +kernel
theorem dX0_look_120 : decode cX0_look 120 = .ok (.if_icmp .ne 4, 3) := by decide +kernel
theorem dX0_look_123 : decode cX0_look 123 = .ok (.return_, 1) := by decide +kernel
theorem dX0_look_124 : decode cX0_look 124 = .ok (.aload_n 0, 1) := by decide +kernel
theorem dX0_look_125 : decode cX0_look 125 = .ok (.aload_n 1, 1) := by decide +kernel
theorem dX0_look_126 : decode cX0_look 126 = .ok (.getfield 52, 3) := by decide +kernel
theorem dX0_look_129 : decode cX0_look 129 = .ok (.putfield 31, 3) := by decide +kernel
theorem dX0_look_132 : decode cX0_look 132 = .ok (.aload_n 0, 1) := by decide +kernel
theorem dX0_look_133 : decode cX0_look 133 = .ok (.iload 4, 2) := by decide +kernel
theorem dX0_look_135 : decode cX0_look 135 = .ok (.putfield 15, 3) := by decide +kernel
theorem dX0_look_138 : decode cX0_look 138 = .ok (.aload_n 0, 1) := by decide +kernel
theorem dX0_look_139 : decode cX0_look 139 = .ok (.iload_n 3, 1) := by decide +kernel
theorem dX0_look_140 : decode cX0_look 140 = .ok (.putfield 19, 3) := by decide +kernel
theorem dX0_look_143 : decode cX0_look 143 = .ok (.aload_n 0, 1) := by decide +kernel
theorem dX0_look_144 : decode cX0_look 144 = .ok (.iload 5, 2) := by decide +kernel
theorem dX0_look_146 : decode cX0_look 146 = .ok (.putfield 55, 3) := by decide +kernel
theorem dX0_look_149 : decode cX0_look 149 = .ok (.aload_n 0, 1) := by decide +kernel
theorem dX0_look_150 : decode cX0_look 150 = .ok (.getfield 22, 3) := by decide +kernel
theorem dX0_look_153 : decode cX0_look 153 = .ok (.iconst (-1), 1) := by decide +kernel
theorem dX0_look_154 : decode cX0_look 154 = .ok (.invokestatic 58, 3) := by decide +kernel
theorem dX0_look_157 : decode cX0_look 157 = .ok (.aload_n 0, 1) := by decide +kernel
theorem dX0_look_158 : decode cX0_look 158 = .ok (.getfield 28, 3) := by decide +kernel
theorem dX0_look_161 : decode cX0_look 161 = .ok (.iconst (-1), 1) := by decide +kernel
theorem dX0_look_162 : decode cX0_look 162 = .ok (.invokestatic 58, 3) := by decide +kernel
theorem dX0_look_165 : decode cX0_look 165 = .ok (.return_, 1) := by decide +kernel
theorem dX0_has_0 : decode cX0_has 0 = .ok (.aload_n 0, 1) := by decide +kernel
theorem dX0_has_1 : decode cX0_has 1 = .ok (.getfield 9, 3) := by decide +kernel
theorem dX0_has_4 : decode cX0_has 4 = .ok (.iload_n 1, 1) := by decide +kernel
theorem dX0_has_5 : decode cX0_has 5 = .ok (.iaload, 1) := by decide +kernel
theorem dX0_has_6 : decode cX0_has 6 = .ok (.ifCond .le 7, 3) := by decide +kernel
theorem dX0_has_9 : decode cX0_has 9 = .ok (.iconst 1, 1) := by decide +kernel
theorem dX0_has_10 : decode cX0_has 10 = .ok (.goto 4, 3) := by decide +kernel
theorem dX0_has_13 : decode cX0_has 13 = .ok (.iconst 0, 1) := by decide +kernel
theorem dX0_has_14 : decode cX0_has 14 = .ok (.ireturn, 1) := by decide +kernel
theorem dX0_take_0 : decode cX0_take 0 = .ok (.aload_n 0, 1) := by decide +kernel
theorem dX0_take_1 : decode cX0_take 1 = .ok (.getfield 9, 3) := by decide +kernel
theorem dX0_take_4 : decode cX0_take 4 = .ok (.iload_n 1, 1) := by decide +kernel
theorem dX0_take_5 : decode cX0_take 5 = .ok (.dup2, 1) := by decide +kernel
theorem dX0_take_6 : decode cX0_take 6 = .ok (.iaload, 1) := by decide +kernel
theorem dX0_take_7 : decode cX0_take 7 = .ok (.iconst 1, 1) := by decide +kernel
theorem dX0_take_8 : decode cX0_take 8 = .ok (.isub, 1) := by decide +kernel
theorem dX0_take_9 : decode cX0_take 9 = .ok (.iastore, 1) := by decide +kernel
theorem dX0_take_10 : decode cX0_take 10 = .ok (.aload_n 0, 1) := by decide +kernel
theorem dX0_take_11 : decode cX0_take 11 = .ok (.dup, 1) := by decide +kernel
theorem dX0_take_12 : decode cX0_take 12 = .ok (.getfield 47, 3) := by decide +kernel
theorem dX0_take_15 : decode cX0_take 15 = .ok (.iconst 1, 1) := by decide +kernel
theorem dX0_take_16 : decode cX0_take 16 = .ok (.isub, 1) := by decide +kernel
theorem dX0_take_17 : decode cX0_take 17 = .ok (.putfield 47, 3) := by decide +kernel
theorem dX0_take_20 : decode cX0_take 20 = .ok (.return_, 1) := by decide +kernel
theorem dX0_back_0 : decode cX0_back 0 = .ok (.aload_n 0, 1) := by decide +kernel
theorem dX0_back_1 : decode cX0_back 1 = .ok (.getfield 9, 3) := by decide +kernel
theorem dX0_back_4 : decode cX0_back 4 = .ok (.iload_n 1, 1) := by decide +kernel
theorem dX0_back_5 : decode cX0_back 5 = .ok (.dup2, 1) := by decide +kernel
theorem dX0_back_6 : decode cX0_back 6 = .ok (.iaload, 1) := by decide +kernel
theorem dX0_back_7 : decode cX0_back 7 = .ok (.iconst 1, 1) := by decide +kernel
theorem dX0_back_8 : decode cX0_back 8 = .ok (.iadd, 1) := by decide +kernel
theorem dX0_back_9 : decode cX0_back 9 = .ok (.iastore, 1) := by decide +kernel
theorem dX0_back_10 : decode cX0_back 10 = .ok (.aload_n 0, 1) := by decide +kernel
theorem dX0_back_11 : decode cX0_back 11 = .ok (.dup, 1) := by decide +kernel
theorem dX0_back_12 : decode cX0_back 12 = .ok (.getfield 47, 3) := by decide +kernel
theorem dX0_back_15 : decode cX0_back 15 = .ok (.iconst 1, 1) := by decide +kernel
theorem dX0_back_16 : decode cX0_back 16 = .ok (.iadd, 1) := by decide +kernel
theorem dX0_back_17 : decode cX0_back 17 = .ok (.putfield 47, 3) := by decide +kernel
theorem dX0_back_20 : decode cX0_back 20 = .ok (.return_, 1) := by decide +kernel
theorem dX0_ways_0 : decode cX0_ways 0 = .ok (.aload_n 0, 1) := by decide +kernel
theorem dX0_ways_1 : decode cX0_ways 1 = .ok (.getfield 47, 3) := by decide +kernel
theorem dX0_ways_4 : decode cX0_ways 4 = .ok (.aload_n 0, 1) := by decide +kernel
theorem dX0_ways_5 : decode cX0_ways 5 = .ok (.getfield 9, 3) := by decide +kernel
theorem dX0_ways_8 : decode cX0_ways 8 = .ok (.iconst 0, 1) := by decide +kernel
theorem dX0_ways_9 : decode cX0_ways 9 = .ok (.iaload, 1) := by decide +kernel
theorem dX0_ways_10 : decode cX0_ways 10 = .ok (.invokestatic 64, 3) := by decide +kernel
theorem dX0_ways_13 : decode cX0_ways 13 = .ok (.aload_n 0, 1) := by decide +kernel
theorem dX0_ways_14 : decode cX0_ways 14 = .ok (.getfield 47, 3) := by decide +kernel
theorem dX0_ways_17 : decode cX0_ways 17 = .ok (.aload_n 0, 1) := by decide +kernel
theorem dX0_ways_18 : decode cX0_ways 18 = .ok (.getfield 9, 3) := by decide +kernel
theorem dX0_ways_21 : decode cX0_ways 21 = .ok (.iconst 0, 1) := by decide +kernel
theorem dX0_ways_22 : decode cX0_ways 22 = .ok (.iaload, 1) := by decide +kernel
theorem dX0_ways_23 : decode cX0_ways 23 = .ok (.isub, 1) := by decide +kernel
theorem dX0_ways_24 : decode cX0_ways 24 = .ok (.aload_n 0, 1) := by decide +kernel
theorem dX0_ways_25 : decode cX0_ways 25 = .ok (.getfield 9, 3) := by decide +kernel
theorem dX0_ways_28 : decode cX0_ways 28 = .ok (.iconst 1, 1) := by decide +kernel
theorem dX0_ways_29 : decode cX0_ways 29 = .ok (.iaload, 1) := by decide +kernel
theorem dX0_ways_30 : decode cX0_ways 30 = .ok (.invokestatic 64, 3) := by decide +kernel
theorem dX0_ways_33 : decode cX0_ways 33 = .ok (.imul, 1) := by decide +kernel
theorem dX0_ways_34 : decode cX0_ways 34 = .ok (.ireturn, 1) := by decide +kernel
theorem dX0_payOf_0 : decode cX0_payOf 0 = .ok (.aload_n 0, 1) := by decide +kernel
theorem dX0_payOf_1 : decode cX0_payOf 1 = .ok (.getfield 31, 3) := by decide +kernel
theorem dX0_payOf_4 : decode cX0_payOf 4 = .ok (.getfield 68, 3) := by decide +kernel
theorem dX0_payOf_7 : decode cX0_payOf 7 = .ok (.iload_n 1, 1) := by decide +kernel
theorem dX0_payOf_8 : decode cX0_payOf 8 = .ok (.iaload, 1) := by decide +kernel
theorem dX0_payOf_9 : decode cX0_payOf 9 = .ok (.ireturn, 1) := by decide +kernel
theorem dX0_place_0 : decode cX0_place 0 = .ok (.aload_n 0, 1) := by decide +kernel
theorem dX0_place_1 : decode cX0_place 1 = .ok (.getfield 9, 3) := by decide +kernel
theorem dX0_place_4 : decode cX0_place 4 = .ok (.iconst 0, 1) := by decide +kernel
theorem dX0_place_5 : decode cX0_place 5 = .ok (.iaload, 1) := by decide +kernel
theorem dX0_place_6 : decode cX0_place 6 = .ok (.bipush 6, 2) := by decide +kernel
theorem dX0_place_8 : decode cX0_place 8 = .ok (.imul, 1) := by decide +kernel
theorem dX0_place_9 : decode cX0_place 9 = .ok (.aload_n 0, 1) := by decide +kernel
theorem dX0_place_10 : decode cX0_place 10 = .ok (.getfield 9, 3) := by decide +kernel
theorem dX0_place_13 : decode cX0_place 13 = .ok (.iconst 1, 1) := by decide +kernel
theorem dX0_place_14 : decode cX0_place 14 = .ok (.iaload, 1) := by decide +kernel
theorem dX0_place_15 : decode cX0_place 15 = .ok (.iadd, 1) := by decide +kernel
theorem dX0_place_16 : decode cX0_place 16 = .ok (.bipush 6, 2) := by decide +kernel
theorem dX0_place_18 : decode cX0_place 18 = .ok (.imul, 1) := by decide +kernel
theorem dX0_place_19 : decode cX0_place 19 = .ok (.aload_n 0, 1) := by decide +kernel
theorem dX0_place_20 : decode cX0_place 20 = .ok (.getfield 9, 3) := by decide +kernel
theorem dX0_place_23 : decode cX0_place 23 = .ok (.iconst 2, 1) := by decide +kernel
theorem dX0_place_24 : decode cX0_place 24 = .ok (.iaload, 1) := by decide +kernel
theorem dX0_place_25 : decode cX0_place 25 = .ok (.iadd, 1) := by decide +kernel
theorem dX0_place_26 : decode cX0_place 26 = .ok (.bipush 27, 2) := by decide +kernel
theorem dX0_place_28 : decode cX0_place 28 = .ok (.imul, 1) := by decide +kernel
theorem dX0_place_29 : decode cX0_place 29 = .ok (.iload_n 1, 1) := by decide +kernel
theorem dX0_place_30 : decode cX0_place 30 = .ok (.iadd, 1) := by decide +kernel
theorem dX0_place_31 : decode cX0_place 31 = .ok (.ireturn, 1) := by decide +kernel
theorem dX0_cans_0 : decode cX0_cans 0 = .ok (.iload_n 1, 1) := by decide +kernel
theorem dX0_cans_1 : decode cX0_cans 1 = .ok (.aload_n 0, 1) := by decide +kernel
theorem dX0_cans_2 : decode cX0_cans 2 = .ok (.getfield 19, 3) := by decide +kernel
theorem dX0_cans_5 : decode cX0_cans 5 = .ok (.if_icmp .ne 18, 3) := by decide +kernel
theorem dX0_cans_8 : decode cX0_cans 8 = .ok (.aload_n 0, 1) := by decide +kernel
theorem dX0_cans_9 : decode cX0_cans 9 = .ok (.getfield 9, 3) := by decide +kernel
theorem dX0_cans_12 : decode cX0_cans 12 = .ok (.iload_n 1, 1) := by decide +kernel
theorem dX0_cans_13 : decode cX0_cans 13 = .ok (.iaload, 1) := by decide +kernel
theorem dX0_cans_14 : decode cX0_cans 14 = .ok (.aload_n 0, 1) := by decide +kernel
theorem dX0_cans_15 : decode cX0_cans 15 = .ok (.getfield 55, 3) := by decide +kernel
theorem dX0_cans_18 : decode cX0_cans 18 = .ok (.if_icmp .ne 5, 3) := by decide +kernel
theorem dX0_cans_21 : decode cX0_cans 21 = .ok (.iconst 0, 1) := by decide +kernel
theorem dX0_cans_22 : decode cX0_cans 22 = .ok (.ireturn, 1) := by decide +kernel
theorem dX0_cans_23 : decode cX0_cans 23 = .ok (.aload_n 0, 1) := by decide +kernel
theorem dX0_cans_24 : decode cX0_cans 24 = .ok (.getfield 47, 3) := by decide +kernel
theorem dX0_cans_27 : decode cX0_cans 27 = .ok (.iconst 3, 1) := by decide +kernel
theorem dX0_cans_28 : decode cX0_cans 28 = .ok (.imul, 1) := by decide +kernel
theorem dX0_cans_29 : decode cX0_cans 29 = .ok (.iload_n 1, 1) := by decide +kernel
theorem dX0_cans_30 : decode cX0_cans 30 = .ok (.iadd, 1) := by decide +kernel
theorem dX0_cans_31 : decode cX0_cans 31 = .ok (.bipush 6, 2) := by decide +kernel
theorem dX0_cans_33 : decode cX0_cans 33 = .ok (.imul, 1) := by decide +kernel
theorem dX0_cans_34 : decode cX0_cans 34 = .ok (.aload_n 0, 1) := by decide +kernel
theorem dX0_cans_35 : decode cX0_cans 35 = .ok (.getfield 9, 3) := by decide +kernel
theorem dX0_cans_38 : decode cX0_cans 38 = .ok (.iload_n 1, 1) := by decide +kernel
theorem dX0_cans_39 : decode cX0_cans 39 = .ok (.iaload, 1) := by decide +kernel
theorem dX0_cans_40 : decode cX0_cans 40 = .ok (.iadd, 1) := by decide +kernel
theorem dX0_cans_41 : decode cX0_cans 41 = .ok (.istore_n 3, 1) := by decide +kernel
theorem dX0_cans_42 : decode cX0_cans 42 = .ok (.aload_n 0, 1) := by decide +kernel
theorem dX0_cans_43 : decode cX0_cans 43 = .ok (.getfield 22, 3) := by decide +kernel
theorem dX0_cans_46 : decode cX0_cans 46 = .ok (.iload_n 3, 1) := by decide +kernel
theorem dX0_cans_47 : decode cX0_cans 47 = .ok (.iaload, 1) := by decide +kernel
theorem dX0_cans_48 : decode cX0_cans 48 = .ok (.iconst (-1), 1) := by decide +kernel
theorem dX0_cans_49 : decode cX0_cans 49 = .ok (.if_icmp .ne 66, 3) := by decide +kernel
theorem dX0_cans_52 : decode cX0_cans 52 = .ok (.aload_n 0, 1) := by decide +kernel
theorem dX0_cans_53 : decode cX0_cans 53 = .ok (.getfield 25, 3) := by decide +kernel
theorem dX0_cans_56 : decode cX0_cans 56 = .ok (.iconst 0, 1) := by decide +kernel
theorem dX0_cans_57 : decode cX0_cans 57 = .ok (.iload_n 1, 1) := by decide +kernel
theorem dX0_cans_58 : decode cX0_cans 58 = .ok (.iastore, 1) := by decide +kernel
theorem dX0_cans_59 : decode cX0_cans 59 = .ok (.aload_n 0, 1) := by decide +kernel
theorem dX0_cans_60 : decode cX0_cans 60 = .ok (.getfield 25, 3) := by decide +kernel
theorem dX0_cans_63 : decode cX0_cans 63 = .ok (.iconst 2, 1) := by decide +kernel
theorem dX0_cans_64 : decode cX0_cans 64 = .ok (.aload_n 0, 1) := by decide +kernel
theorem dX0_cans_65 : decode cX0_cans 65 = .ok (.getfield 47, 3) := by decide +kernel
theorem dX0_cans_68 : decode cX0_cans 68 = .ok (.iastore, 1) := by decide +kernel
theorem dX0_cans_69 : decode cX0_cans 69 = .ok (.aload_n 0, 1) := by decide +kernel
theorem dX0_cans_70 : decode cX0_cans 70 = .ok (.getfield 25, 3) := by decide +kernel
theorem dX0_cans_73 : decode cX0_cans 73 = .ok (.iconst 3, 1) := by decide +kernel
theorem dX0_cans_74 : decode cX0_cans 74 = .ok (.aload_n 0, 1) := by decide +kernel
theorem dX0_cans_75 : decode cX0_cans 75 = .ok (.getfield 9, 3) := by decide +kernel
theorem dX0_cans_78 : decode cX0_cans 78 = .ok (.iload_n 1, 1) := by decide +kernel
theorem dX0_cans_79 : decode cX0_cans 79 = .ok (.iaload, 1) := by decide +kernel
theorem dX0_cans_80 : decode cX0_cans 80 = .ok (.iastore, 1) := by decide +kernel
theorem dX0_cans_81 : decode cX0_cans 81 = .ok (.aload_n 0, 1) := by decide +kernel
theorem dX0_cans_82 : decode cX0_cans 82 = .ok (.getfield 25, 3) := by decide +kernel
theorem dX0_cans_85 : decode cX0_cans 85 = .ok (.iconst 4, 1) := by decide +kernel
theorem dX0_cans_86 : decode cX0_cans 86 = .ok (.aload_n 0, 1) := by decide +kernel
theorem dX0_cans_87 : decode cX0_cans 87 = .ok (.getfield 15, 3) := by decide +kernel
theorem dX0_cans_90 : decode cX0_cans 90 = .ok (.iconst 1, 1) := by decide +kernel
theorem dX0_cans_91 : decode cX0_cans 91 = .ok (.isub, 1) := by decide +kernel
theorem dX0_cans_92 : decode cX0_cans 92 = .ok (.aload_n 0, 1) := by decide +kernel
theorem dX0_cans_93 : decode cX0_cans 93 = .ok (.getfield 47, 3) := by decide +kernel
theorem dX0_cans_96 : decode cX0_cans 96 = .ok (.isub, 1) := by decide +kernel
theorem dX0_cans_97 : decode cX0_cans 97 = .ok (.iastore, 1) := by decide +kernel
theorem dX0_cans_98 : decode cX0_cans 98 = .ok (.aload_n 0, 1) := by decide +kernel
theorem dX0_cans_99 : decode cX0_cans 99 = .ok (.getfield 22, 3) := by decide +kernel
theorem dX0_cans_102 : decode cX0_cans 102 = .ok (.iload_n 3, 1) := by decide +kernel
theorem dX0_cans_103 : decode cX0_cans 103 = .ok (.aload_n 0, 1) := by decide +kernel
theorem dX0_cans_104 : decode cX0_cans 104 = .ok (.getfield 31, 3) := by decide +kernel
theorem dX0_cans_107 : decode cX0_cans 107 = .ok (.aload_n 0, 1) := by decide +kernel
theorem dX0_cans_108 : decode cX0_cans 108 = .ok (.getfield 25, 3) := by decide +kernel
theorem dX0_cans_111 : decode cX0_cans 111 = .ok (.invokevirtual 73, 3) := by decide +kernel
theorem dX0_cans_114 : decode cX0_cans 114 = .ok (.iastore, 1) := by decide +kernel
theorem dX0_cans_115 : decode cX0_cans 115 = .ok (.aload_n 0, 1) := by decide +kernel
theorem dX0_cans_116 : decode cX0_cans 116 = .ok (.getfield 22, 3) := by decide +kernel
theorem dX0_cans_119 : decode cX0_cans 119 = .ok (.iload_n 3, 1) := by decide +kernel
theorem dX0_cans_120 : decode cX0_cans 120 = .ok (.iaload, 1) := by decide +kernel
theorem dX0_cans_121 : decode cX0_cans 121 = .ok (.getstatic 75, 3) := by decide +kernel
theorem dX0_cans_124 : decode cX0_cans 124 = .ok (.iload_n 2, 1) := by decide +kernel
theorem dX0_cans_125 : decode cX0_cans 125 = .ok (.iaload, 1) := by decide +kernel
theorem dX0_cans_126 : decode cX0_cans 126 = .ok (.iand, 1) := by decide +kernel
theorem dX0_cans_127 : decode cX0_cans 127 = .ok (.ireturn, 1) := by decide +kernel
theorem dX0_bestSum_0 : decode cX0_bestSum 0 = .ok (.aload_n 0, 1) := by decide +kernel
theorem dX0_bestSum_1 : decode cX0_bestSum 1 = .ok (.getfield 47, 3) := by decide +kernel
theorem dX0_bestSum_4 : decode cX0_bestSum 4 = .ok (.ifCond .gt 5, 3) := by decide +kernel
theorem dX0_bestSum_7 : decode cX0_bestSum 7 = .ok (.iconst 0, 1) := by decide +kernel
theorem dX0_bestSum_8 : decode cX0_bestSum 8 = .ok (.ireturn, 1) := by decide +kernel
theorem dX0_bestSum_9 : decode cX0_bestSum 9 = .ok (.aload_n 0, 1) := by decide +kernel
theorem dX0_bestSum_10 : decode cX0_bestSum 10 = .ok (.iload_n 1, 1) := by decide +kernel
theorem dX0_bestSum_11 : decode cX0_bestSum 11 = .ok (.invokevirtual 78, 3) := by decide +kernel
theorem dX0_bestSum_14 : decode cX0_bestSum 14 = .ok (.istore_n 2, 1) := by decide +kernel
theorem dX0_bestSum_15 : decode cX0_bestSum 15 = .ok (.aload_n 0, 1) := by decide +kernel
theorem dX0_bestSum_16 : decode cX0_bestSum 16 = .ok (.getfield 28, 3) := by decide +kernel
theorem dX0_bestSum_19 : decode cX0_bestSum 19 = .ok (.iload_n 2, 1) := by decide +kernel
theorem dX0_bestSum_20 : decode cX0_bestSum 20 = .ok (.iaload, 1) := by decide +kernel
theorem dX0_bestSum_21 : decode cX0_bestSum 21 = .ok (.iconst (-1), 1) := by decide +kernel
theorem dX0_bestSum_22 : decode cX0_bestSum 22 = .ok (.if_icmp .eq 10, 3) := by decide +kernel
theorem dX0_bestSum_25 : decode cX0_bestSum 25 = .ok (.aload_n 0, 1) := by decide +kernel
theorem dX0_bestSum_26 : decode cX0_bestSum 26 = .ok (.getfield 28, 3) := by decide +kernel
theorem dX0_bestSum_29 : decode cX0_bestSum 29 = .ok (.iload_n 2, 1) := by decide +kernel
theorem dX0_bestSum_30 : decode cX0_bestSum 30 = .ok (.iaload, 1) := by decide +kernel
theorem dX0_bestSum_31 : decode cX0_bestSum 31 = .ok (.ireturn, 1) := by decide +kernel
theorem dX0_bestSum_32 : decode cX0_bestSum 32 = .ok (.iconst 0, 1) := by decide +kernel
theorem dX0_bestSum_33 : decode cX0_bestSum 33 = .ok (.istore_n 3, 1) := by decide +kernel
theorem dX0_bestSum_34 : decode cX0_bestSum 34 = .ok (.iconst 0, 1) := by decide +kernel
theorem dX0_bestSum_35 : decode cX0_bestSum 35 = .ok (.istore 4, 2) := by decide +kernel
theorem dX0_bestSum_37 : decode cX0_bestSum 37 = .ok (.iload 4, 2) := by decide +kernel
theorem dX0_bestSum_39 : decode cX0_bestSum 39 = .ok (.iconst 3, 1) := by decide +kernel
theorem dX0_bestSum_40 : decode cX0_bestSum 40 = .ok (.if_icmp .ge 41, 3) := by decide +kernel
theorem dX0_bestSum_43 : decode cX0_bestSum 43 = .ok (.aload_n 0, 1) := by decide +kernel
theorem dX0_bestSum_44 : decode cX0_bestSum 44 = .ok (.getfield 9, 3) := by decide +kernel
theorem dX0_bestSum_47 : decode cX0_bestSum 47 = .ok (.iload 4, 2) := by decide +kernel
theorem dX0_bestSum_49 : decode cX0_bestSum 49 = .ok (.iaload, 1) := by decide +kernel
theorem dX0_bestSum_50 : decode cX0_bestSum 50 = .ok (.ifCond .le 25, 3) := by decide +kernel
theorem dX0_bestSum_53 : decode cX0_bestSum 53 = .ok (.aload_n 0, 1) := by decide +kernel
theorem dX0_bestSum_54 : decode cX0_bestSum 54 = .ok (.iload 4, 2) := by decide +kernel
theorem dX0_bestSum_56 : decode cX0_bestSum 56 = .ok (.invokevirtual 82, 3) := by decide +kernel
theorem dX0_bestSum_59 : decode cX0_bestSum 59 = .ok (.iload_n 3, 1) := by decide +kernel
theorem dX0_bestSum_60 : decode cX0_bestSum 60 = .ok (.aload_n 0, 1) := by decide +kernel
theorem dX0_bestSum_61 : decode cX0_bestSum 61 = .ok (.iload 4, 2) := by decide +kernel
theorem dX0_bestSum_63 : decode cX0_bestSum 63 = .ok (.iload_n 1, 1) := by decide +kernel
theorem dX0_bestSum_64 : decode cX0_bestSum 64 = .ok (.invokevirtual 86, 3) := by decide +kernel
theorem dX0_bestSum_67 : decode cX0_bestSum 67 = .ok (.iadd, 1) := by decide +kernel
theorem dX0_bestSum_68 : decode cX0_bestSum 68 = .ok (.istore_n 3, 1) := by decide +kernel
theorem dX0_bestSum_69 : decode cX0_bestSum 69 = .ok (.aload_n 0, 1) := by decide +kernel
theorem dX0_bestSum_70 : decode cX0_bestSum 70 = .ok (.iload 4, 2) := by decide +kernel
theorem dX0_bestSum_72 : decode cX0_bestSum 72 = .ok (.invokevirtual 89, 3) := by decide +kernel
theorem dX0_bestSum_75 : decode cX0_bestSum 75 = .ok (.iinc 4 1, 3) := by decide +kernel
theorem dX0_bestSum_78 : decode cX0_bestSum 78 = .ok (.goto (-41), 3) := by decide +kernel
theorem dX0_bestSum_81 : decode cX0_bestSum 81 = .ok (.aload_n 0, 1) := by decide +kernel
theorem dX0_bestSum_82 : decode cX0_bestSum 82 = .ok (.getfield 28, 3) := by decide +kernel
theorem dX0_bestSum_85 : decode cX0_bestSum 85 = .ok (.iload_n 2, 1) := by decide +kernel
theorem dX0_bestSum_86 : decode cX0_bestSum 86 = .ok (.iload_n 3, 1) := by decide +kernel
theorem dX0_bestSum_87 : decode cX0_bestSum 87 = .ok (.iastore, 1) := by decide +kernel
theorem dX0_bestSum_88 : decode cX0_bestSum 88 = .ok (.iload_n 3, 1) := by decide +kernel
theorem dX0_bestSum_89 : decode cX0_bestSum 89 = .ok (.ireturn, 1) := by decide +kernel
theorem dX0_bestOn_0 : decode cX0_bestOn 0 = .ok (.aload_n 0, 1) := by decide +kernel
theorem dX0_bestOn_1 : decode cX0_bestOn 1 = .ok (.iload_n 1, 1) := by decide +kernel
theorem dX0_bestOn_2 : decode cX0_bestOn 2 = .ok (.iload_n 2, 1) := by decide +kernel
theorem dX0_bestOn_3 : decode cX0_bestOn 3 = .ok (.invokevirtual 92, 3) := by decide +kernel
theorem dX0_bestOn_6 : decode cX0_bestOn 6 = .ok (.istore_n 3, 1) := by decide +kernel
theorem dX0_bestOn_7 : decode cX0_bestOn 7 = .ok (.aload_n 0, 1) := by decide +kernel
theorem dX0_bestOn_8 : decode cX0_bestOn 8 = .ok (.iload_n 2, 1) := by decide +kernel
theorem dX0_bestOn_9 : decode cX0_bestOn 9 = .ok (.invokevirtual 95, 3) := by decide +kernel
theorem dX0_bestOn_12 : decode cX0_bestOn 12 = .ok (.istore 4, 2) := by decide +kernel
theorem dX0_bestOn_14 : decode cX0_bestOn 14 = .ok (.iconst 0, 1) := by decide +kernel
theorem dX0_bestOn_15 : decode cX0_bestOn 15 = .ok (.istore 5, 2) := by decide +kernel
theorem dX0_bestOn_17 : decode cX0_bestOn 17 = .ok (.iload 5, 2) := by decide +kernel
theorem dX0_bestOn_19 : decode cX0_bestOn 19 = .ok (.iconst 3, 1) := by decide +kernel
theorem dX0_bestOn_20 : decode cX0_bestOn 20 = .ok (.if_icmp .ge 32, 3) := by decide +kernel
theorem dX0_bestOn_23 : decode cX0_bestOn 23 = .ok (.iload_n 3, 1) := by decide +kernel
theorem dX0_bestOn_24 : decode cX0_bestOn 24 = .ok (.iload 5, 2) := by decide +kernel
theorem dX0_bestOn_26 : decode cX0_bestOn 26 = .ok (.invokestatic 98, 3) := by decide +kernel
theorem dX0_bestOn_29 : decode cX0_bestOn 29 = .ok (.ifCond .eq 17, 3) := by decide +kernel
theorem dX0_bestOn_32 : decode cX0_bestOn 32 = .ok (.iload 4, 2) := by decide +kernel
theorem dX0_bestOn_34 : decode cX0_bestOn 34 = .ok (.aload_n 0, 1) := by decide +kernel
theorem dX0_bestOn_35 : decode cX0_bestOn 35 = .ok (.iload 5, 2) := by decide +kernel
theorem dX0_bestOn_37 : decode cX0_bestOn 37 = .ok (.iload_n 2, 1) := by decide +kernel
theorem dX0_bestOn_38 : decode cX0_bestOn 38 = .ok (.invokevirtual 102, 3) := by decide +kernel
theorem dX0_bestOn_41 : decode cX0_bestOn 41 = .ok (.invokestatic 105, 3) := by decide +kernel
theorem dX0_bestOn_44 : decode cX0_bestOn 44 = .ok (.istore 4, 2) := by decide +kernel
theorem dX0_bestOn_46 : decode cX0_bestOn 46 = .ok (.iinc 5 1, 3) := by decide +kernel
theorem dX0_bestOn_49 : decode cX0_bestOn 49 = .ok (.goto (-32), 3) := by decide +kernel
theorem dX0_bestOn_52 : decode cX0_bestOn 52 = .ok (.iload 4, 2) := by decide +kernel
theorem dX0_bestOn_54 : decode cX0_bestOn 54 = .ok (.ireturn, 1) := by decide +kernel
theorem dX0_bestWork_0 : decode cX0_bestWork 0 = .ok (.aload_n 0, 1) := by decide +kernel
theorem dX0_bestWork_1 : decode cX0_bestWork 1 = .ok (.iload_n 1, 1) := by decide +kernel
theorem dX0_bestWork_2 : decode cX0_bestWork 2 = .ok (.iload_n 2, 1) := by decide +kernel
theorem dX0_bestWork_3 : decode cX0_bestWork 3 = .ok (.invokevirtual 92, 3) := by decide +kernel
theorem dX0_bestWork_6 : decode cX0_bestWork 6 = .ok (.istore_n 3, 1) := by decide +kernel
theorem dX0_bestWork_7 : decode cX0_bestWork 7 = .ok (.aload_n 0, 1) := by decide +kernel
theorem dX0_bestWork_8 : decode cX0_bestWork 8 = .ok (.iload_n 1, 1) := by decide +kernel
theorem dX0_bestWork_9 : decode cX0_bestWork 9 = .ok (.iload_n 2, 1) := by decide +kernel
theorem dX0_bestWork_10 : decode cX0_bestWork 10 = .ok (.invokevirtual 86, 3) := by decide +kernel
theorem dX0_bestWork_13 : decode cX0_bestWork 13 = .ok (.istore 4, 2) := by decide +kernel
theorem dX0_bestWork_15 : decode cX0_bestWork 15 = .ok (.iload_n 3, 1) := by decide +kernel
theorem dX0_bestWork_16 : decode cX0_bestWork 16 = .ok (.ifCond .eq 13, 3) := by decide +kernel
theorem dX0_bestWork_19 : decode cX0_bestWork 19 = .ok (.aload_n 0, 1) := by decide +kernel
theorem dX0_bestWork_20 : decode cX0_bestWork 20 = .ok (.iload_n 2, 1) := by decide +kernel
theorem dX0_bestWork_21 : decode cX0_bestWork 21 = .ok (.invokevirtual 95, 3) := by decide +kernel
theorem dX0_bestWork_24 : decode cX0_bestWork 24 = .ok (.iload 4, 2) := by decide +kernel
theorem dX0_bestWork_26 : decode cX0_bestWork 26 = .ok (.if_icmp .ne 5, 3) := by decide +kernel
theorem dX0_bestWork_29 : decode cX0_bestWork 29 = .ok (.iconst 3, 1) := by decide +kernel
theorem dX0_bestWork_30 : decode cX0_bestWork 30 = .ok (.ireturn, 1) := by decide +kernel
theorem dX0_bestWork_31 : decode cX0_bestWork 31 = .ok (.iconst 0, 1) := by decide +kernel
theorem dX0_bestWork_32 : decode cX0_bestWork 32 = .ok (.istore 5, 2) := by decide +kernel
theorem dX0_bestWork_34 : decode cX0_bestWork 34 = .ok (.iload 5, 2) := by decide +kernel
theorem dX0_bestWork_36 : decode cX0_bestWork 36 = .ok (.iconst 3, 1) := by decide +kernel
theorem dX0_bestWork_37 : decode cX0_bestWork 37 = .ok (.if_icmp .ge 33, 3) := by decide +kernel
theorem dX0_bestWork_40 : decode cX0_bestWork 40 = .ok (.iload_n 3, 1) := by decide +kernel
theorem dX0_bestWork_41 : decode cX0_bestWork 41 = .ok (.iload 5, 2) := by decide +kernel
theorem dX0_bestWork_43 : decode cX0_bestWork 43 = .ok (.invokestatic 98, 3) := by decide +kernel
theorem dX0_bestWork_46 : decode cX0_bestWork 46 = .ok (.ifCond .eq 18, 3) := by decide +kernel
theorem dX0_bestWork_49 : decode cX0_bestWork 49 = .ok (.aload_n 0, 1) := by decide +kernel
theorem dX0_bestWork_50 : decode cX0_bestWork 50 = .ok (.iload 5, 2) := by decide +kernel
theorem dX0_bestWork_52 : decode cX0_bestWork 52 = .ok (.iload_n 2, 1) := by decide +kernel
theorem dX0_bestWork_53 : decode cX0_bestWork 53 = .ok (.invokevirtual 102, 3) := by decide +kernel
theorem dX0_bestWork_56 : decode cX0_bestWork 56 = .ok (.iload 4, 2) := by decide +kernel
theorem dX0_bestWork_58 : decode cX0_bestWork 58 = .ok (.if_icmp .ne 6, 3) := by decide +kernel
theorem dX0_bestWork_61 : decode cX0_bestWork 61 = .ok (.iload 5, 2) := by decide +kernel
theorem dX0_bestWork_63 : decode cX0_bestWork 63 = .ok (.ireturn, 1) := by decide +kernel
theorem dX0_bestWork_64 : decode cX0_bestWork 64 = .ok (.iinc 5 1, 3) := by decide +kernel
theorem dX0_bestWork_67 : decode cX0_bestWork 67 = .ok (.goto (-33), 3) := by decide +kernel
theorem dX0_bestWork_70 : decode cX0_bestWork 70 = .ok (.iconst 3, 1) := by decide +kernel
theorem dX0_bestWork_71 : decode cX0_bestWork 71 = .ok (.ireturn, 1) := by decide +kernel
theorem dX0_worth_0 : decode cX0_worth 0 = .ok (.aload_n 0, 1) := by decide +kernel
theorem dX0_worth_1 : decode cX0_worth 1 = .ok (.iload_n 1, 1) := by decide +kernel
theorem dX0_worth_2 : decode cX0_worth 2 = .ok (.iload_n 2, 1) := by decide +kernel
theorem dX0_worth_3 : decode cX0_worth 3 = .ok (.invokevirtual 110, 3) := by decide +kernel
theorem dX0_worth_6 : decode cX0_worth 6 = .ok (.aload_n 0, 1) := by decide +kernel
theorem dX0_worth_7 : decode cX0_worth 7 = .ok (.iload_n 1, 1) := by decide +kernel
theorem dX0_worth_8 : decode cX0_worth 8 = .ok (.iload_n 2, 1) := by decide +kernel
theorem dX0_worth_9 : decode cX0_worth 9 = .ok (.invokestatic 113, 3) := by decide +kernel
theorem dX0_worth_12 : decode cX0_worth 12 = .ok (.invokevirtual 95, 3) := by decide +kernel
theorem dX0_worth_15 : decode cX0_worth 15 = .ok (.iadd, 1) := by decide +kernel
theorem dX0_worth_16 : decode cX0_worth 16 = .ok (.ireturn, 1) := by decide +kernel
theorem dX0_paidOn_0 : decode cX0_paidOn 0 = .ok (.aload_n 0, 1) := by decide +kernel
theorem dX0_paidOn_1 : decode cX0_paidOn 1 = .ok (.getfield 31, 3) := by decide +kernel
theorem dX0_paidOn_4 : decode cX0_paidOn 4 = .ok (.iload_n 1, 1) := by decide +kernel
theorem dX0_paidOn_5 : decode cX0_paidOn 5 = .ok (.iload_n 2, 1) := by decide +kernel
theorem dX0_paidOn_6 : decode cX0_paidOn 6 = .ok (.invokevirtual 116, 3) := by decide +kernel
theorem dX0_paidOn_9 : decode cX0_paidOn 9 = .ok (.istore_n 3, 1) := by decide +kernel
theorem dX0_paidOn_10 : decode cX0_paidOn 10 = .ok (.iload_n 3, 1) := by decide +kernel
theorem dX0_paidOn_11 : decode cX0_paidOn 11 = .ok (.ifCond .ne 7, 3) := by decide +kernel
theorem dX0_paidOn_14 : decode cX0_paidOn 14 = .ok (.iconst 0, 1) := by decide +kernel
theorem dX0_paidOn_15 : decode cX0_paidOn 15 = .ok (.goto 9, 3) := by decide +kernel
theorem dX0_paidOn_18 : decode cX0_paidOn 18 = .ok (.iload_n 3, 1) := by decide +kernel
theorem dX0_paidOn_19 : decode cX0_paidOn 19 = .ok (.aload_n 0, 1) := by decide +kernel
theorem dX0_paidOn_20 : decode cX0_paidOn 20 = .ok (.invokevirtual 119, 3) := by decide +kernel
theorem dX0_paidOn_23 : decode cX0_paidOn 23 = .ok (.imul, 1) := by decide +kernel
theorem dX0_paidOn_24 : decode cX0_paidOn 24 = .ok (.ireturn, 1) := by decide +kernel
theorem dX0_forget_0 : decode cX0_forget 0 = .ok (.aload_n 0, 1) := by decide +kernel
theorem dX0_forget_1 : decode cX0_forget 1 = .ok (.getfield 35, 3) := by decide +kernel
theorem dX0_forget_4 : decode cX0_forget 4 = .ok (.iconst (-1), 1) := by decide +kernel
theorem dX0_forget_5 : decode cX0_forget 5 = .ok (.invokestatic 58, 3) := by decide +kernel
theorem dX0_forget_8 : decode cX0_forget 8 = .ok (.return_, 1) := by decide +kernel
theorem dX0_ownSum_0 : decode cX0_ownSum 0 = .ok (.aload_n 0, 1) := by decide +kernel
theorem dX0_ownSum_1 : decode cX0_ownSum 1 = .ok (.getfield 47, 3) := by decide +kernel
theorem dX0_ownSum_4 : decode cX0_ownSum 4 = .ok (.ifCond .gt 21, 3) := by decide +kernel
theorem dX0_ownSum_7 : decode cX0_ownSum 7 = .ok (.iload_n 2, 1) := by decide +kernel
theorem dX0_ownSum_8 : decode cX0_ownSum 8 = .ok (.ifCond .eq 15, 3) := by decide +kernel
theorem dX0_ownSum_11 : decode cX0_ownSum 11 = .ok (.iload_n 2, 1) := by decide +kernel
theorem dX0_ownSum_12 : decode cX0_ownSum 12 = .ok (.iload_n 3, 1) := by decide +kernel
theorem dX0_ownSum_13 : decode cX0_ownSum 13 = .ok (.invokestatic 123, 3) := by decide +kernel
theorem dX0_ownSum_16 : decode cX0_ownSum 16 = .ok (.ifCond .eq 7, 3) := by decide +kernel
theorem dX0_ownSum_19 : decode cX0_ownSum 19 = .ok (.iconst 1, 1) := by decide +kernel
theorem dX0_ownSum_20 : decode cX0_ownSum 20 = .ok (.goto 4, 3) := by decide +kernel
theorem dX0_ownSum_23 : decode cX0_ownSum 23 = .ok (.iconst 0, 1) := by decide +kernel
theorem dX0_ownSum_24 : decode cX0_ownSum 24 = .ok (.ireturn, 1) := by decide +kernel
theorem dX0_ownSum_25 : decode cX0_ownSum 25 = .ok (.aload_n 0, 1) := by decide +kernel
theorem dX0_ownSum_26 : decode cX0_ownSum 26 = .ok (.iload_n 3, 1) := by decide +kernel
theorem dX0_ownSum_27 : decode cX0_ownSum 27 = .ok (.invokevirtual 78, 3) := by decide +kernel
theorem dX0_ownSum_30 : decode cX0_ownSum 30 = .ok (.istore 4, 2) := by decide +kernel
theorem dX0_ownSum_32 : decode cX0_ownSum 32 = .ok (.aload_n 0, 1) := by decide +kernel
theorem dX0_ownSum_33 : decode cX0_ownSum 33 = .ok (.getfield 35, 3) := by decide +kernel
theorem dX0_ownSum_36 : decode cX0_ownSum 36 = .ok (.iload 4, 2) := by decide +kernel
theorem dX0_ownSum_38 : decode cX0_ownSum 38 = .ok (.iaload, 1) := by decide +kernel
theorem dX0_ownSum_39 : decode cX0_ownSum 39 = .ok (.iconst (-1), 1) := by decide +kernel
theorem dX0_ownSum_40 : decode cX0_ownSum 40 = .ok (.if_icmp .eq 11, 3) := by decide +kernel
theorem dX0_ownSum_43 : decode cX0_ownSum 43 = .ok (.aload_n 0, 1) := by decide +kernel
theorem dX0_ownSum_44 : decode cX0_ownSum 44 = .ok (.getfield 35, 3) := by decide +kernel
theorem dX0_ownSum_47 : decode cX0_ownSum 47 = .ok (.iload 4, 2) := by decide +kernel
theorem dX0_ownSum_49 : decode cX0_ownSum 49 = .ok (.iaload, 1) := by decide +kernel
theorem dX0_ownSum_50 : decode cX0_ownSum 50 = .ok (.ireturn, 1) := by decide +kernel
theorem dX0_ownSum_51 : decode cX0_ownSum 51 = .ok (.iconst 0, 1) := by decide +kernel
theorem dX0_ownSum_52 : decode cX0_ownSum 52 = .ok (.istore 5, 2) := by decide +kernel
theorem dX0_ownSum_54 : decode cX0_ownSum 54 = .ok (.iconst 0, 1) := by decide +kernel
theorem dX0_ownSum_55 : decode cX0_ownSum 55 = .ok (.istore 6, 2) := by decide +kernel
theorem dX0_ownSum_57 : decode cX0_ownSum 57 = .ok (.iload 6, 2) := by decide +kernel
theorem dX0_ownSum_59 : decode cX0_ownSum 59 = .ok (.iconst 3, 1) := by decide +kernel
theorem dX0_ownSum_60 : decode cX0_ownSum 60 = .ok (.if_icmp .ge 78, 3) := by decide +kernel
theorem dX0_ownSum_63 : decode cX0_ownSum 63 = .ok (.aload_n 0, 1) := by decide +kernel
theorem dX0_ownSum_64 : decode cX0_ownSum 64 = .ok (.getfield 9, 3) := by decide +kernel
theorem dX0_ownSum_67 : decode cX0_ownSum 67 = .ok (.iload 6, 2) := by decide +kernel
theorem dX0_ownSum_69 : decode cX0_ownSum 69 = .ok (.iaload, 1) := by decide +kernel
theorem dX0_ownSum_70 : decode cX0_ownSum 70 = .ok (.ifCond .le 62, 3) := by decide +kernel
theorem dX0_ownSum_73 : decode cX0_ownSum 73 = .ok (.aload_n 0, 1) := by decide +kernel
theorem dX0_ownSum_74 : decode cX0_ownSum 74 = .ok (.iload 6, 2) := by decide +kernel
theorem dX0_ownSum_76 : decode cX0_ownSum 76 = .ok (.invokevirtual 82, 3) := by decide +kernel
theorem dX0_ownSum_79 : decode cX0_ownSum 79 = .ok (.aload_n 1, 1) := by decide +kernel
theorem dX0_ownSum_80 : decode cX0_ownSum 80 = .ok (.aload_n 0, 1) := by decide +kernel
theorem dX0_ownSum_81 : decode cX0_ownSum 81 = .ok (.iload 6, 2) := by decide +kernel
theorem dX0_ownSum_83 : decode cX0_ownSum 83 = .ok (.iload_n 3, 1) := by decide +kernel
theorem dX0_ownSum_84 : decode cX0_ownSum 84 = .ok (.invokevirtual 126, 3) := by decide +kernel
theorem dX0_ownSum_87 : decode cX0_ownSum 87 = .ok (.istore 7, 2) := by decide +kernel
theorem dX0_ownSum_89 : decode cX0_ownSum 89 = .ok (.iload_n 2, 1) := by decide +kernel
theorem dX0_ownSum_90 : decode cX0_ownSum 90 = .ok (.ifCond .ne 13, 3) := by decide +kernel
theorem dX0_ownSum_93 : decode cX0_ownSum 93 = .ok (.aload_n 0, 1) := by decide +kernel
theorem dX0_ownSum_94 : decode cX0_ownSum 94 = .ok (.iload 7, 2) := by decide +kernel
theorem dX0_ownSum_96 : decode cX0_ownSum 96 = .ok (.iload_n 3, 1) := by decide +kernel
theorem dX0_ownSum_97 : decode cX0_ownSum 97 = .ok (.invokevirtual 110, 3) := by decide +kernel
theorem dX0_ownSum_100 : decode cX0_ownSum 100 = .ok (.goto 4, 3) := by decide +kernel
theorem dX0_ownSum_103 : decode cX0_ownSum 103 = .ok (.iconst 0, 1) := by decide +kernel
theorem dX0_ownSum_104 : decode cX0_ownSum 104 = .ok (.istore 8, 2) := by decide +kernel
theorem dX0_ownSum_106 : decode cX0_ownSum 106 = .ok (.iload 5, 2) := by decide +kernel
theorem dX0_ownSum_108 : decode cX0_ownSum 108 = .ok (.iload 8, 2) := by decide +kernel
theorem dX0_ownSum_110 : decode cX0_ownSum 110 = .ok (.aload_n 0, 1) := by decide +kernel
theorem dX0_ownSum_111 : decode cX0_ownSum 111 = .ok (.aload_n 1, 1) := by decide +kernel
theorem dX0_ownSum_112 : decode cX0_ownSum 112 = .ok (.iload_n 2, 1) := by decide +kernel
theorem dX0_ownSum_113 : decode cX0_ownSum 113 = .ok (.iload 7, 2) := by decide +kernel
theorem dX0_ownSum_115 : decode cX0_ownSum 115 = .ok (.iload_n 3, 1) := by decide +kernel
theorem dX0_ownSum_116 : decode cX0_ownSum 116 = .ok (.invokestatic 113, 3) := by decide +kernel
theorem dX0_ownSum_119 : decode cX0_ownSum 119 = .ok (.invokevirtual 132, 3) := by decide +kernel
theorem dX0_ownSum_122 : decode cX0_ownSum 122 = .ok (.iadd, 1) := by decide +kernel
theorem dX0_ownSum_123 : decode cX0_ownSum 123 = .ok (.iadd, 1) := by decide +kernel
theorem dX0_ownSum_124 : decode cX0_ownSum 124 = .ok (.istore 5, 2) := by decide +kernel
theorem dX0_ownSum_126 : decode cX0_ownSum 126 = .ok (.aload_n 0, 1) := by decide +kernel
theorem dX0_ownSum_127 : decode cX0_ownSum 127 = .ok (.iload 6, 2) := by decide +kernel
theorem dX0_ownSum_129 : decode cX0_ownSum 129 = .ok (.invokevirtual 89, 3) := by decide +kernel
theorem dX0_ownSum_132 : decode cX0_ownSum 132 = .ok (.iinc 6 1, 3) := by decide +kernel
theorem dX0_ownSum_135 : decode cX0_ownSum 135 = .ok (.goto (-78), 3) := by decide +kernel
theorem dX0_ownSum_138 : decode cX0_ownSum 138 = .ok (.aload_n 0, 1) := by decide +kernel
theorem dX0_ownSum_139 : decode cX0_ownSum 139 = .ok (.getfield 35, 3) := by decide +kernel
theorem dX0_ownSum_142 : decode cX0_ownSum 142 = .ok (.iload 4, 2) := by decide +kernel
theorem dX0_ownSum_144 : decode cX0_ownSum 144 = .ok (.iload 5, 2) := by decide +kernel
theorem dX0_ownSum_146 : decode cX0_ownSum 146 = .ok (.iastore, 1) := by decide +kernel
theorem dX0_ownSum_147 : decode cX0_ownSum 147 = .ok (.iload 5, 2) := by decide +kernel
theorem dX0_ownSum_149 : decode cX0_ownSum 149 = .ok (.ireturn, 1) := by decide +kernel
theorem dX0_reached_0 : decode cX0_reached 0 = .ok (.iconst 0, 1) := by decide +kernel
theorem dX0_reached_1 : decode cX0_reached 1 = .ok (.istore_n 2, 1) := by decide +kernel
theorem dX0_reached_2 : decode cX0_reached 2 = .ok (.iload_n 2, 1) := by decide +kernel
theorem dX0_reached_3 : decode cX0_reached 3 = .ok (.iconst 3, 1) := by decide +kernel
theorem dX0_reached_4 : decode cX0_reached 4 = .ok (.if_icmp .ge 31, 3) := by decide +kernel
theorem dX0_reached_7 : decode cX0_reached 7 = .ok (.iload_n 0, 1) := by decide +kernel
theorem dX0_reached_8 : decode cX0_reached 8 = .ok (.iload_n 2, 1) := by decide +kernel
theorem dX0_reached_9 : decode cX0_reached 9 = .ok (.invokestatic 136, 3) := by decide +kernel
theorem dX0_reached_12 : decode cX0_reached 12 = .ok (.ifCond .eq 17, 3) := by decide +kernel
theorem dX0_reached_15 : decode cX0_reached 15 = .ok (.getstatic 75, 3) := by decide +kernel
theorem dX0_reached_18 : decode cX0_reached 18 = .ok (.iload_n 1, 1) := by decide +kernel
theorem dX0_reached_19 : decode cX0_reached 19 = .ok (.iaload, 1) := by decide +kernel
theorem dX0_reached_20 : decode cX0_reached 20 = .ok (.iload_n 2, 1) := by decide +kernel
theorem dX0_reached_21 : decode cX0_reached 21 = .ok (.invokestatic 98, 3) := by decide +kernel
theorem dX0_reached_24 : decode cX0_reached 24 = .ok (.ifCond .eq 5, 3) := by decide +kernel
theorem dX0_reached_27 : decode cX0_reached 27 = .ok (.iconst 0, 1) := by decide +kernel
theorem dX0_reached_28 : decode cX0_reached 28 = .ok (.ireturn, 1) := by decide +kernel
theorem dX0_reached_29 : decode cX0_reached 29 = .ok (.iinc 2 1, 3) := by decide +kernel
theorem dX0_reached_32 : decode cX0_reached 32 = .ok (.goto (-30), 3) := by decide +kernel
theorem dX0_reached_35 : decode cX0_reached 35 = .ok (.iconst 1, 1) := by decide +kernel
theorem dX0_reached_36 : decode cX0_reached 36 = .ok (.ireturn, 1) := by decide +kernel
theorem dX0_mostPaid_0 : decode cX0_mostPaid 0 = .ok (.aload_n 0, 1) := by decide +kernel
theorem dX0_mostPaid_1 : decode cX0_mostPaid 1 = .ok (.getfield 47, 3) := by decide +kernel
theorem dX0_mostPaid_4 : decode cX0_mostPaid 4 = .ok (.ifCond .gt 5, 3) := by decide +kernel
theorem dX0_mostPaid_7 : decode cX0_mostPaid 7 = .ok (.iconst 0, 1) := by decide +kernel
theorem dX0_mostPaid_8 : decode cX0_mostPaid 8 = .ok (.ireturn, 1) := by decide +kernel
theorem dX0_mostPaid_9 : decode cX0_mostPaid 9 = .ok (.aload_n 0, 1) := by decide +kernel
theorem dX0_mostPaid_10 : decode cX0_mostPaid 10 = .ok (.iload_n 1, 1) := by decide +kernel
theorem dX0_mostPaid_11 : decode cX0_mostPaid 11 = .ok (.invokevirtual 78, 3) := by decide +kernel
theorem dX0_mostPaid_14 : decode cX0_mostPaid 14 = .ok (.istore_n 2, 1) := by decide +kernel
theorem dX0_mostPaid_15 : decode cX0_mostPaid 15 = .ok (.aload_n 0, 1) := by decide +kernel
theorem dX0_mostPaid_16 : decode cX0_mostPaid 16 = .ok (.getfield 35, 3) := by decide +kernel
theorem dX0_mostPaid_19 : decode cX0_mostPaid 19 = .ok (.iload_n 2, 1) := by decide +kernel
theorem dX0_mostPaid_20 : decode cX0_mostPaid 20 = .ok (.iaload, 1) := by decide +kernel
theorem dX0_mostPaid_21 : decode cX0_mostPaid 21 = .ok (.iconst (-1), 1) := by decide +kernel
theorem dX0_mostPaid_22 : decode cX0_mostPaid 22 = .ok (.if_icmp .eq 10, 3) := by decide +kernel
theorem dX0_mostPaid_25 : decode cX0_mostPaid 25 = .ok (.aload_n 0, 1) := by decide +kernel
theorem dX0_mostPaid_26 : decode cX0_mostPaid 26 = .ok (.getfield 35, 3) := by decide +kernel
theorem dX0_mostPaid_29 : decode cX0_mostPaid 29 = .ok (.iload_n 2, 1) := by decide +kernel
theorem dX0_mostPaid_30 : decode cX0_mostPaid 30 = .ok (.iaload, 1) := by decide +kernel
theorem dX0_mostPaid_31 : decode cX0_mostPaid 31 = .ok (.ireturn, 1) := by decide +kernel
theorem dX0_mostPaid_32 : decode cX0_mostPaid 32 = .ok (.iconst 0, 1) := by decide +kernel
theorem dX0_mostPaid_33 : decode cX0_mostPaid 33 = .ok (.istore_n 3, 1) := by decide +kernel
theorem dX0_mostPaid_34 : decode cX0_mostPaid 34 = .ok (.iconst 0, 1) := by decide +kernel
theorem dX0_mostPaid_35 : decode cX0_mostPaid 35 = .ok (.istore 4, 2) := by decide +kernel
theorem dX0_mostPaid_37 : decode cX0_mostPaid 37 = .ok (.iload 4, 2) := by decide +kernel
theorem dX0_mostPaid_39 : decode cX0_mostPaid 39 = .ok (.iconst 3, 1) := by decide +kernel
theorem dX0_mostPaid_40 : decode cX0_mostPaid 40 = .ok (.if_icmp .ge 43, 3) := by decide +kernel
theorem dX0_mostPaid_43 : decode cX0_mostPaid 43 = .ok (.aload_n 0, 1) := by decide +kernel
theorem dX0_mostPaid_44 : decode cX0_mostPaid 44 = .ok (.getfield 9, 3) := by decide +kernel
theorem dX0_mostPaid_47 : decode cX0_mostPaid 47 = .ok (.iload 4, 2) := by decide +kernel
theorem dX0_mostPaid_49 : decode cX0_mostPaid 49 = .ok (.iaload, 1) := by decide +kernel
theorem dX0_mostPaid_50 : decode cX0_mostPaid 50 = .ok (.ifCond .le 27, 3) := by decide +kernel
theorem dX0_mostPaid_53 : decode cX0_mostPaid 53 = .ok (.aload_n 0, 1) := by decide +kernel
theorem dX0_mostPaid_54 : decode cX0_mostPaid 54 = .ok (.iload 4, 2) := by decide +kernel
theorem dX0_mostPaid_56 : decode cX0_mostPaid 56 = .ok (.invokevirtual 82, 3) := by decide +kernel
theorem dX0_mostPaid_59 : decode cX0_mostPaid 59 = .ok (.iload_n 3, 1) := by decide +kernel
theorem dX0_mostPaid_60 : decode cX0_mostPaid 60 = .ok (.aload_n 0, 1) := by decide +kernel
theorem dX0_mostPaid_61 : decode cX0_mostPaid 61 = .ok (.iload 4, 2) := by decide +kernel
theorem dX0_mostPaid_63 : decode cX0_mostPaid 63 = .ok (.iload_n 1, 1) := by decide +kernel
theorem dX0_mostPaid_64 : decode cX0_mostPaid 64 = .ok (.invokevirtual 139, 3) := by decide +kernel
theorem dX0_mostPaid_67 : decode cX0_mostPaid 67 = .ok (.invokestatic 105, 3) := by decide +kernel
theorem dX0_mostPaid_70 : decode cX0_mostPaid 70 = .ok (.istore_n 3, 1) := by decide +kernel
theorem dX0_mostPaid_71 : decode cX0_mostPaid 71 = .ok (.aload_n 0, 1) := by decide +kernel
theorem dX0_mostPaid_72 : decode cX0_mostPaid 72 = .ok (.iload 4, 2) := by decide +kernel
theorem dX0_mostPaid_74 : decode cX0_mostPaid 74 = .ok (.invokevirtual 89, 3) := by decide +kernel
theorem dX0_mostPaid_77 : decode cX0_mostPaid 77 = .ok (.iinc 4 1, 3) := by decide +kernel
theorem dX0_mostPaid_80 : decode cX0_mostPaid 80 = .ok (.goto (-43), 3) := by decide +kernel
theorem dX0_mostPaid_83 : decode cX0_mostPaid 83 = .ok (.aload_n 0, 1) := by decide +kernel
theorem dX0_mostPaid_84 : decode cX0_mostPaid 84 = .ok (.getfield 35, 3) := by decide +kernel
theorem dX0_mostPaid_87 : decode cX0_mostPaid 87 = .ok (.iload_n 2, 1) := by decide +kernel
theorem dX0_mostPaid_88 : decode cX0_mostPaid 88 = .ok (.iload_n 3, 1) := by decide +kernel
theorem dX0_mostPaid_89 : decode cX0_mostPaid 89 = .ok (.iastore, 1) := by decide +kernel
theorem dX0_mostPaid_90 : decode cX0_mostPaid 90 = .ok (.iload_n 3, 1) := by decide +kernel
theorem dX0_mostPaid_91 : decode cX0_mostPaid 91 = .ok (.ireturn, 1) := by decide +kernel
theorem dX0_mostOn_0 : decode cX0_mostOn 0 = .ok (.aload_n 0, 1) := by decide +kernel
theorem dX0_mostOn_1 : decode cX0_mostOn 1 = .ok (.iload_n 1, 1) := by decide +kernel
theorem dX0_mostOn_2 : decode cX0_mostOn 2 = .ok (.iload_n 2, 1) := by decide +kernel
theorem dX0_mostOn_3 : decode cX0_mostOn 3 = .ok (.invokevirtual 92, 3) := by decide +kernel
theorem dX0_mostOn_6 : decode cX0_mostOn 6 = .ok (.istore_n 3, 1) := by decide +kernel
theorem dX0_mostOn_7 : decode cX0_mostOn 7 = .ok (.aload_n 0, 1) := by decide +kernel
theorem dX0_mostOn_8 : decode cX0_mostOn 8 = .ok (.iload_n 2, 1) := by decide +kernel
theorem dX0_mostOn_9 : decode cX0_mostOn 9 = .ok (.invokevirtual 142, 3) := by decide +kernel
theorem dX0_mostOn_12 : decode cX0_mostOn 12 = .ok (.istore 4, 2) := by decide +kernel
theorem dX0_mostOn_14 : decode cX0_mostOn 14 = .ok (.iconst 0, 1) := by decide +kernel
theorem dX0_mostOn_15 : decode cX0_mostOn 15 = .ok (.istore 5, 2) := by decide +kernel
theorem dX0_mostOn_17 : decode cX0_mostOn 17 = .ok (.iload 5, 2) := by decide +kernel
theorem dX0_mostOn_19 : decode cX0_mostOn 19 = .ok (.iconst 3, 1) := by decide +kernel
theorem dX0_mostOn_20 : decode cX0_mostOn 20 = .ok (.if_icmp .ge 46, 3) := by decide +kernel
theorem dX0_mostOn_23 : decode cX0_mostOn 23 = .ok (.iload_n 3, 1) := by decide +kernel
theorem dX0_mostOn_24 : decode cX0_mostOn 24 = .ok (.iload 5, 2) := by decide +kernel
theorem dX0_mostOn_26 : decode cX0_mostOn 26 = .ok (.invokestatic 98, 3) := by decide +kernel
theorem dX0_mostOn_29 : decode cX0_mostOn 29 = .ok (.ifCond .eq 31, 3) := by decide +kernel
theorem dX0_mostOn_32 : decode cX0_mostOn 32 = .ok (.iload 4, 2) := by decide +kernel
theorem dX0_mostOn_34 : decode cX0_mostOn 34 = .ok (.aload_n 0, 1) := by decide +kernel
theorem dX0_mostOn_35 : decode cX0_mostOn 35 = .ok (.getfield 31, 3) := by decide +kernel
theorem dX0_mostOn_38 : decode cX0_mostOn 38 = .ok (.iload 5, 2) := by decide +kernel
theorem dX0_mostOn_40 : decode cX0_mostOn 40 = .ok (.iload_n 2, 1) := by decide +kernel
theorem dX0_mostOn_41 : decode cX0_mostOn 41 = .ok (.invokevirtual 116, 3) := by decide +kernel
theorem dX0_mostOn_44 : decode cX0_mostOn 44 = .ok (.aload_n 0, 1) := by decide +kernel
theorem dX0_mostOn_45 : decode cX0_mostOn 45 = .ok (.iload 5, 2) := by decide +kernel
theorem dX0_mostOn_47 : decode cX0_mostOn 47 = .ok (.iload_n 2, 1) := by decide +kernel
theorem dX0_mostOn_48 : decode cX0_mostOn 48 = .ok (.invokestatic 113, 3) := by decide +kernel
theorem dX0_mostOn_51 : decode cX0_mostOn 51 = .ok (.invokevirtual 142, 3) := by decide +kernel
theorem dX0_mostOn_54 : decode cX0_mostOn 54 = .ok (.iadd, 1) := by decide +kernel
theorem dX0_mostOn_55 : decode cX0_mostOn 55 = .ok (.invokestatic 105, 3) := by decide +kernel
theorem dX0_mostOn_58 : decode cX0_mostOn 58 = .ok (.istore 4, 2) := by decide +kernel
theorem dX0_mostOn_60 : decode cX0_mostOn 60 = .ok (.iinc 5 1, 3) := by decide +kernel
theorem dX0_mostOn_63 : decode cX0_mostOn 63 = .ok (.goto (-46), 3) := by decide +kernel
theorem dX0_mostOn_66 : decode cX0_mostOn 66 = .ok (.iload 4, 2) := by decide +kernel
theorem dX0_mostOn_68 : decode cX0_mostOn 68 = .ok (.ireturn, 1) := by decide +kernel
theorem dX1_init_0 : decode cX1_init 0 = .ok (.aload_n 0, 1) := by decide +kernel
theorem dX1_init_1 : decode cX1_init 1 = .ok (.iload_n 1, 1) := by decide +kernel
theorem dX1_init_2 : decode cX1_init 2 = .ok (.iload_n 2, 1) := by decide +kernel
theorem dX1_init_3 : decode cX1_init 3 = .ok (.iload_n 3, 1) := by decide +kernel
theorem dX1_init_4 : decode cX1_init 4 = .ok (.invokespecial 1, 3) := by decide +kernel
theorem dX1_init_7 : decode cX1_init 7 = .ok (.return_, 1) := by decide +kernel
theorem dX1_does_0 : decode cX1_does 0 = .ok (.aload_n 1, 1) := by decide +kernel
theorem dX1_does_1 : decode cX1_does 1 = .ok (.iload_n 2, 1) := by decide +kernel
theorem dX1_does_2 : decode cX1_does 2 = .ok (.iload_n 3, 1) := by decide +kernel
theorem dX1_does_3 : decode cX1_does 3 = .ok (.invokevirtual 7, 3) := by decide +kernel
theorem dX1_does_6 : decode cX1_does 6 = .ok (.ireturn, 1) := by decide +kernel
theorem dX1_sows_0 : decode cX1_sows 0 = .ok (.bipush 51, 2) := by decide +kernel
theorem dX1_sows_2 : decode cX1_sows 2 = .ok (.aload_n 2, 1) := by decide +kernel
theorem dX1_sows_3 : decode cX1_sows 3 = .ok (.invokestatic 13, 3) := by decide +kernel
theorem dX1_sows_6 : decode cX1_sows 6 = .ok (.aload_n 0, 1) := by decide +kernel
theorem dX1_sows_7 : decode cX1_sows 7 = .ok (.iload_n 1, 1) := by decide +kernel
theorem dX1_sows_8 : decode cX1_sows 8 = .ok (.aload_n 2, 1) := by decide +kernel
theorem dX1_sows_9 : decode cX1_sows 9 = .ok (.invokespecial 19, 3) := by decide +kernel
theorem dX1_sows_12 : decode cX1_sows 12 = .ok (.aload_n 0, 1) := by decide +kernel
theorem dX1_sows_13 : decode cX1_sows 13 = .ok (.getfield 23, 3) := by decide +kernel
theorem dX1_sows_16 : decode cX1_sows 16 = .ok (.ixor, 1) := by decide +kernel
theorem dX1_sows_17 : decode cX1_sows 17 = .ok (.ireturn, 1) := by decide +kernel
theorem dX2_init_0 : decode cX2_init 0 = .ok (.aload_n 0, 1) := by decide +kernel
theorem dX2_init_1 : decode cX2_init 1 = .ok (.iload_n 1, 1) := by decide +kernel
theorem dX2_init_2 : decode cX2_init 2 = .ok (.iload_n 2, 1) := by decide +kernel
theorem dX2_init_3 : decode cX2_init 3 = .ok (.iload_n 3, 1) := by decide +kernel
theorem dX2_init_4 : decode cX2_init 4 = .ok (.invokespecial 3, 3) := by decide +kernel
theorem dX2_init_7 : decode cX2_init 7 = .ok (.return_, 1) := by decide +kernel
theorem dX2_does_0 : decode cX2_does 0 = .ok (.aload_n 1, 1) := by decide +kernel
theorem dX2_does_1 : decode cX2_does 1 = .ok (.iload_n 2, 1) := by decide +kernel
theorem dX2_does_2 : decode cX2_does 2 = .ok (.iload_n 3, 1) := by decide +kernel
theorem dX2_does_3 : decode cX2_does 3 = .ok (.invokevirtual 9, 3) := by decide +kernel
theorem dX2_does_6 : decode cX2_does 6 = .ok (.istore 4, 2) := by decide +kernel
theorem dX2_does_8 : decode cX2_does 8 = .ok (.iconst 3, 1) := by decide +kernel
theorem dX2_does_9 : decode cX2_does 9 = .ok (.istore 5, 2) := by decide +kernel
theorem dX2_does_11 : decode cX2_does 11 = .ok (.iconst 0, 1) := by decide +kernel
theorem dX2_does_12 : decode cX2_does 12 = .ok (.istore 6, 2) := by decide +kernel
theorem dX2_does_14 : decode cX2_does 14 = .ok (.iload 6, 2) := by decide +kernel
theorem dX2_does_16 : decode cX2_does 16 = .ok (.iconst 3, 1) := by decide +kernel
theorem dX2_does_17 : decode cX2_does 17 = .ok (.if_icmp .ge 44, 3) := by decide +kernel
theorem dX2_does_20 : decode cX2_does 20 = .ok (.iload 4, 2) := by decide +kernel
theorem dX2_does_22 : decode cX2_does 22 = .ok (.iload 6, 2) := by decide +kernel
theorem dX2_does_24 : decode cX2_does 24 = .ok (.invokestatic 15, 3) := by decide +kernel
theorem dX2_does_27 : decode cX2_does 27 = .ok (.ifCond .eq 28, 3) := by decide +kernel
theorem dX2_does_30 : decode cX2_does 30 = .ok (.iload 5, 2) := by decide +kernel
theorem dX2_does_32 : decode cX2_does 32 = .ok (.iconst 3, 1) := by decide +kernel
theorem dX2_does_33 : decode cX2_does 33 = .ok (.if_icmp .eq 18, 3) := by decide +kernel
theorem dX2_does_36 : decode cX2_does 36 = .ok (.aload_n 1, 1) := by decide +kernel
theorem dX2_does_37 : decode cX2_does 37 = .ok (.iload 6, 2) := by decide +kernel
theorem dX2_does_39 : decode cX2_does 39 = .ok (.invokevirtual 19, 3) := by decide +kernel
theorem dX2_does_42 : decode cX2_does 42 = .ok (.aload_n 1, 1) := by decide +kernel
theorem dX2_does_43 : decode cX2_does 43 = .ok (.iload 5, 2) := by decide +kernel
theorem dX2_does_45 : decode cX2_does 45 = .ok (.invokevirtual 19, 3) := by decide +kernel
theorem dX2_does_48 : decode cX2_does 48 = .ok (.if_icmp .le 7, 3) := by decide +kernel
theorem dX2_does_51 : decode cX2_does 51 = .ok (.iload 6, 2) := by decide +kernel
theorem dX2_does_53 : decode cX2_does 53 = .ok (.istore 5, 2) := by decide +kernel
theorem dX2_does_55 : decode cX2_does 55 = .ok (.iinc 6 1, 3) := by decide +kernel
theorem dX2_does_58 : decode cX2_does 58 = .ok (.goto (-44), 3) := by decide +kernel
theorem dX2_does_61 : decode cX2_does 61 = .ok (.iload 5, 2) := by decide +kernel
theorem dX2_does_63 : decode cX2_does 63 = .ok (.ireturn, 1) := by decide +kernel
theorem dX2_cuts_0 : decode cX2_cuts 0 = .ok (.bipush 21, 2) := by decide +kernel
theorem dX2_cuts_2 : decode cX2_cuts 2 = .ok (.aload_n 2, 1) := by decide +kernel
theorem dX2_cuts_3 : decode cX2_cuts 3 = .ok (.invokestatic 23, 3) := by decide +kernel
theorem dX2_cuts_6 : decode cX2_cuts 6 = .ok (.aload_n 0, 1) := by decide +kernel
theorem dX2_cuts_7 : decode cX2_cuts 7 = .ok (.iload_n 1, 1) := by decide +kernel
theorem dX2_cuts_8 : decode cX2_cuts 8 = .ok (.aload_n 2, 1) := by decide +kernel
theorem dX2_cuts_9 : decode cX2_cuts 9 = .ok (.invokespecial 29, 3) := by decide +kernel
theorem dX2_cuts_12 : decode cX2_cuts 12 = .ok (.ineg, 1) := by decide +kernel
theorem dX2_cuts_13 : decode cX2_cuts 13 = .ok (.ireturn, 1) := by decide +kernel
theorem dX3_init_0 : decode cX3_init 0 = .ok (.aload_n 0, 1) := by decide +kernel
theorem dX3_init_1 : decode cX3_init 1 = .ok (.iload_n 1, 1) := by decide +kernel
theorem dX3_init_2 : decode cX3_init 2 = .ok (.iload_n 2, 1) := by decide +kernel
theorem dX3_init_3 : decode cX3_init 3 = .ok (.iload_n 3, 1) := by decide +kernel
theorem dX3_init_4 : decode cX3_init 4 = .ok (.invokespecial 1, 3) := by decide +kernel
theorem dX3_init_7 : decode cX3_init 7 = .ok (.return_, 1) := by decide +kernel
theorem dX3_does_0 : decode cX3_does 0 = .ok (.aload_n 1, 1) := by decide +kernel
theorem dX3_does_1 : decode cX3_does 1 = .ok (.iload_n 2, 1) := by decide +kernel
theorem dX3_does_2 : decode cX3_does 2 = .ok (.iload_n 3, 1) := by decide +kernel
theorem dX3_does_3 : decode cX3_does 3 = .ok (.invokevirtual 7, 3) := by decide +kernel
theorem dX3_does_6 : decode cX3_does 6 = .ok (.invokestatic 13, 3) := by decide +kernel
theorem dX3_does_9 : decode cX3_does 9 = .ok (.ireturn, 1) := by decide +kernel
theorem dX3_sows_0 : decode cX3_sows 0 = .ok (.bipush 11, 2) := by decide +kernel
theorem dX3_sows_2 : decode cX3_sows 2 = .ok (.aload_n 2, 1) := by decide +kernel
theorem dX3_sows_3 : decode cX3_sows 3 = .ok (.invokestatic 19, 3) := by decide +kernel
theorem dX3_sows_6 : decode cX3_sows 6 = .ok (.aload_n 0, 1) := by decide +kernel
theorem dX3_sows_7 : decode cX3_sows 7 = .ok (.iload_n 1, 1) := by decide +kernel
theorem dX3_sows_8 : decode cX3_sows 8 = .ok (.iconst 3, 1) := by decide +kernel
theorem dX3_sows_9 : decode cX3_sows 9 = .ok (.imul, 1) := by decide +kernel
theorem dX3_sows_10 : decode cX3_sows 10 = .ok (.aload_n 2, 1) := by decide +kernel
theorem dX3_sows_11 : decode cX3_sows 11 = .ok (.invokespecial 23, 3) := by decide +kernel
theorem dX3_sows_14 : decode cX3_sows 14 = .ok (.ireturn, 1) := by decide +kernel
theorem dX4_init_0 : decode cX4_init 0 = .ok (.aload_n 0, 1) := by decide +kernel
theorem dX4_init_1 : decode cX4_init 1 = .ok (.invokespecial 3, 3) := by decide +kernel
theorem dX4_init_4 : decode cX4_init 4 = .ok (.aload_n 0, 1) := by decide +kernel
theorem dX4_init_5 : decode cX4_init 5 = .ok (.iconst 0, 1) := by decide +kernel
theorem dX4_init_6 : decode cX4_init 6 = .ok (.newarray .int, 2) := by decide +kernel
theorem dX4_init_8 : decode cX4_init 8 = .ok (.putfield 9, 3) := by decide +kernel
theorem dX4_init_11 : decode cX4_init 11 = .ok (.aload_n 0, 1) := by decide +kernel
theorem dX4_init_12 : decode cX4_init 12 = .ok (.bipush 100, 2) := by decide +kernel
theorem dX4_init_14 : decode cX4_init 14 = .ok (.newarray .int, 2) := by decide +kernel
theorem dX4_init_16 : decode cX4_init 16 = .ok (.putfield 15, 3) := by decide +kernel
theorem dX4_init_19 : decode cX4_init 19 = .ok (.aload_n 0, 1) := by decide +kernel
theorem dX4_init_20 : decode cX4_init 20 = .ok (.bipush 10, 2) := by decide +kernel
theorem dX4_init_22 : decode cX4_init 22 = .ok (.newarray .int, 2) := by decide +kernel
theorem dX4_init_24 : decode cX4_init 24 = .ok (.putfield 18, 3) := by decide +kernel
theorem dX4_init_27 : decode cX4_init 27 = .ok (.aload_n 0, 1) := by decide +kernel
theorem dX4_init_28 : decode cX4_init 28 = .ok (.bipush 10, 2) := by decide +kernel
theorem dX4_init_30 : decode cX4_init 30 = .ok (.newarray .int, 2) := by decide +kernel
theorem dX4_init_32 : decode cX4_init 32 = .ok (.putfield 21, 3) := by decide +kernel
theorem dX4_init_35 : decode cX4_init 35 = .ok (.aload_n 0, 1) := by decide +kernel
theorem dX4_init_36 : decode cX4_init 36 = .ok (.iconst 3, 1) := by decide +kernel
theorem dX4_init_37 : decode cX4_init 37 = .ok (.newarray .int, 2) := by decide +kernel
theorem dX4_init_39 : decode cX4_init 39 = .ok (.putfield 24, 3) := by decide +kernel
theorem dX4_init_42 : decode cX4_init 42 = .ok (.return_, 1) := by decide +kernel
theorem dX4_fault_0 : decode cX4_fault 0 = .ok (.aload_n 0, 1) := by decide +kernel
theorem dX4_fault_1 : decode cX4_fault 1 = .ok (.aload_n 1, 1) := by decide +kernel
theorem dX4_fault_2 : decode cX4_fault 2 = .ok (.putfield 9, 3) := by decide +kernel
theorem dX4_fault_5 : decode cX4_fault 5 = .ok (.aload_n 0, 1) := by decide +kernel
theorem dX4_fault_6 : decode cX4_fault 6 = .ok (.iload_n 2, 1) := by decide +kernel
theorem dX4_fault_7 : decode cX4_fault 7 = .ok (.putfield 27, 3) := by decide +kernel
theorem dX4_fault_10 : decode cX4_fault 10 = .ok (.aload_n 0, 1) := by decide +kernel
theorem dX4_fault_11 : decode cX4_fault 11 = .ok (.iconst 0, 1) := by decide +kernel
theorem dX4_fault_12 : decode cX4_fault 12 = .ok (.putfield 31, 3) := by decide +kernel
theorem dX4_fault_15 : decode cX4_fault 15 = .ok (.aload_n 0, 1) := by decide +kernel
theorem dX4_fault_16 : decode cX4_fault 16 = .ok (.iconst 0, 1) := by decide +kernel
theorem dX4_fault_17 : decode cX4_fault 17 = .ok (.putfield 34, 3) := by decide +kernel
theorem dX4_fault_20 : decode cX4_fault 20 = .ok (.aload_n 0, 1) := by decide +kernel
theorem dX4_fault_21 : decode cX4_fault 21 = .ok (.iconst 0, 1) := by decide +kernel
theorem dX4_fault_22 : decode cX4_fault 22 = .ok (.putfield 37, 3) := by decide +kernel
theorem dX4_fault_25 : decode cX4_fault 25 = .ok (.aload_n 0, 1) := by decide +kernel
theorem dX4_fault_26 : decode cX4_fault 26 = .ok (.getfield 24, 3) := by decide +kernel
theorem dX4_fault_29 : decode cX4_fault 29 = .ok (.iconst 1, 1) := by decide +kernel
theorem dX4_fault_30 : decode cX4_fault 30 = .ok (.invokestatic 40, 3) := by decide +kernel
theorem dX4_fault_33 : decode cX4_fault 33 = .ok (.aload_n 0, 1) := by decide +kernel
theorem dX4_fault_34 : decode cX4_fault 34 = .ok (.iconst 0, 1) := by decide +kernel
theorem dX4_fault_35 : decode cX4_fault 35 = .ok (.putfield 46, 3) := by decide +kernel
theorem dX4_fault_38 : decode cX4_fault 38 = .ok (.iconst 1, 1) := by decide +kernel
theorem dX4_fault_39 : decode cX4_fault 39 = .ok (.istore_n 3, 1) := by decide +kernel
theorem dX4_fault_40 : decode cX4_fault 40 = .ok (.iload_n 3, 1) := by decide +kernel
theorem dX4_fault_41 : decode cX4_fault 41 = .ok (.bipush 10, 2) := by decide +kernel
theorem dX4_fault_43 : decode cX4_fault 43 = .ok (.if_icmp .gt 54, 3) := by decide +kernel
theorem dX4_fault_46 : decode cX4_fault 46 = .ok (.aload_n 0, 1) := by decide +kernel
theorem dX4_fault_47 : decode cX4_fault 47 = .ok (.invokevirtual 49, 3) := by decide +kernel
theorem dX4_fault_50 : decode cX4_fault 50 = .ok (.ifCond .ne 8, 3) := by decide +kernel
theorem dX4_fault_53 : decode cX4_fault 53 = .ok (.aload_n 0, 1) := by decide +kernel
theorem dX4_fault_54 : decode cX4_fault 54 = .ok (.getfield 31, 3) := by decide +kernel
theorem dX4_fault_57 : decode cX4_fault 57 = .ok (.ireturn, 1) := by decide +kernel
theorem dX4_fault_58 : decode cX4_fault 58 = .ok (.aload_n 0, 1) := by decide +kernel
theorem dX4_fault_59 : decode cX4_fault 59 = .ok (.getfield 31, 3) := by decide +kernel
theorem dX4_fault_62 : decode cX4_fault 62 = .ok (.aload_n 0, 1) := by decide +kernel
theorem dX4_fault_63 : decode cX4_fault 63 = .ok (.getfield 27, 3) := by decide +kernel
theorem dX4_fault_66 : decode cX4_fault 66 = .ok (.if_icmp .lt 5, 3) := by decide +kernel
theorem dX4_fault_69 : decode cX4_fault 69 = .ok (.iconst (-1), 1) := by decide +kernel
theorem dX4_fault_70 : decode cX4_fault 70 = .ok (.ireturn, 1) := by decide +kernel
theorem dX4_fault_71 : decode cX4_fault 71 = .ok (.iload_n 3, 1) := by decide +kernel
theorem dX4_fault_72 : decode cX4_fault 72 = .ok (.bipush 10, 2) := by decide +kernel
theorem dX4_fault_74 : decode cX4_fault 74 = .ok (.if_icmp .eq 12, 3) := by decide +kernel
theorem dX4_fault_77 : decode cX4_fault 77 = .ok (.aload_n 0, 1) := by decide +kernel
theorem dX4_fault_78 : decode cX4_fault 78 = .ok (.bipush 59, 2) := by decide +kernel
theorem dX4_fault_80 : decode cX4_fault 80 = .ok (.invokevirtual 53, 3) := by decide +kernel
theorem dX4_fault_83 : decode cX4_fault 83 = .ok (.ifCond .ne 8, 3) := by decide +kernel
theorem dX4_fault_86 : decode cX4_fault 86 = .ok (.aload_n 0, 1) := by decide +kernel
theorem dX4_fault_87 : decode cX4_fault 87 = .ok (.getfield 31, 3) := by decide +kernel
theorem dX4_fault_90 : decode cX4_fault 90 = .ok (.ireturn, 1) := by decide +kernel
theorem dX4_fault_91 : decode cX4_fault 91 = .ok (.iinc 3 1, 3) := by decide +kernel
theorem dX4_fault_94 : decode cX4_fault 94 = .ok (.goto (-54), 3) := by decide +kernel
theorem dX4_fault_97 : decode cX4_fault 97 = .ok (.aload_n 0, 1) := by decide +kernel
theorem dX4_fault_98 : decode cX4_fault 98 = .ok (.getfield 31, 3) := by decide +kernel
theorem dX4_fault_101 : decode cX4_fault 101 = .ok (.ireturn, 1) := by decide +kernel
theorem dX4_made_0 : decode cX4_made 0 = .ok (.new 57, 3) := by decide +kernel
theorem dX4_made_3 : decode cX4_made 3 = .ok (.dup, 1) := by decide +kernel
theorem dX4_made_4 : decode cX4_made 4 = .ok (.aload_n 0, 1) := by decide +kernel
theorem dX4_made_5 : decode cX4_made 5 = .ok (.getfield 15, 3) := by decide +kernel
theorem dX4_made_8 : decode cX4_made 8 = .ok (.aload_n 0, 1) := by decide +kernel
theorem dX4_made_9 : decode cX4_made 9 = .ok (.getfield 34, 3) := by decide +kernel
theorem dX4_made_12 : decode cX4_made 12 = .ok (.invokestatic 59, 3) := by decide +kernel
theorem dX4_made_15 : decode cX4_made 15 = .ok (.aload_n 0, 1) := by decide +kernel
theorem dX4_made_16 : decode cX4_made 16 = .ok (.getfield 18, 3) := by decide +kernel
theorem dX4_made_19 : decode cX4_made 19 = .ok (.aload_n 0, 1) := by decide +kernel
theorem dX4_made_20 : decode cX4_made 20 = .ok (.getfield 37, 3) := by decide +kernel
theorem dX4_made_23 : decode cX4_made 23 = .ok (.invokestatic 59, 3) := by decide +kernel
theorem dX4_made_26 : decode cX4_made 26 = .ok (.aload_n 0, 1) := by decide +kernel
theorem dX4_made_27 : decode cX4_made 27 = .ok (.getfield 21, 3) := by decide +kernel
theorem dX4_made_30 : decode cX4_made 30 = .ok (.aload_n 0, 1) := by decide +kernel
theorem dX4_made_31 : decode cX4_made 31 = .ok (.getfield 37, 3) := by decide +kernel
theorem dX4_made_34 : decode cX4_made 34 = .ok (.invokestatic 59, 3) := by decide +kernel
theorem dX4_made_37 : decode cX4_made 37 = .ok (.aload_n 0, 1) := by decide +kernel
theorem dX4_made_38 : decode cX4_made 38 = .ok (.getfield 24, 3) := by decide +kernel
theorem dX4_made_41 : decode cX4_made 41 = .ok (.invokevirtual 63, 3) := by decide +kernel
theorem dX4_made_44 : decode cX4_made 44 = .ok (.checkcast 64, 3) := by decide +kernel
theorem dX4_made_47 : decode cX4_made 47 = .ok (.aload_n 0, 1) := by decide +kernel
theorem dX4_made_48 : decode cX4_made 48 = .ok (.getfield 46, 3) := by decide +kernel
theorem dX4_made_51 : decode cX4_made 51 = .ok (.invokespecial 68, 3) := by decide +kernel
theorem dX4_made_54 : decode cX4_made 54 = .ok (.areturn, 1) := by decide +kernel
theorem dX4_sees_0 : decode cX4_sees 0 = .ok (.aload_n 0, 1) := by decide +kernel
theorem dX4_sees_1 : decode cX4_sees 1 = .ok (.getfield 31, 3) := by decide +kernel
theorem dX4_sees_4 : decode cX4_sees 4 = .ok (.aload_n 0, 1) := by decide +kernel
theorem dX4_sees_5 : decode cX4_sees 5 = .ok (.getfield 27, 3) := by decide +kernel
theorem dX4_sees_8 : decode cX4_sees 8 = .ok (.if_icmp .ge 20, 3) := by decide +kernel
theorem dX4_sees_11 : decode cX4_sees 11 = .ok (.aload_n 0, 1) := by decide +kernel
theorem dX4_sees_12 : decode cX4_sees 12 = .ok (.getfield 9, 3) := by decide +kernel
theorem dX4_sees_15 : decode cX4_sees 15 = .ok (.aload_n 0, 1) := by decide +kernel
theorem dX4_sees_16 : decode cX4_sees 16 = .ok (.getfield 31, 3) := by decide +kernel
theorem dX4_sees_19 : decode cX4_sees 19 = .ok (.iaload, 1) := by decide +kernel
theorem dX4_sees_20 : decode cX4_sees 20 = .ok (.iload_n 1, 1) := by decide +kernel
theorem dX4_sees_21 : decode cX4_sees 21 = .ok (.if_icmp .ne 7, 3) := by decide +kernel
theorem dX4_sees_24 : decode cX4_sees 24 = .ok (.iconst 1, 1) := by decide +kernel
theorem dX4_sees_25 : decode cX4_sees 25 = .ok (.goto 4, 3) := by decide +kernel
theorem dX4_sees_28 : decode cX4_sees 28 = .ok (.iconst 0, 1) := by decide +kernel
theorem dX4_sees_29 : decode cX4_sees 29 = .ok (.ireturn, 1) := by decide +kernel
theorem dX4_eats_0 : decode cX4_eats 0 = .ok (.aload_n 0, 1) := by decide +kernel
theorem dX4_eats_1 : decode cX4_eats 1 = .ok (.iload_n 1, 1) := by decide +kernel
theorem dX4_eats_2 : decode cX4_eats 2 = .ok (.invokevirtual 71, 3) := by decide +kernel
theorem dX4_eats_5 : decode cX4_eats 5 = .ok (.ifCond .ne 5, 3) := by decide +kernel
theorem dX4_eats_8 : decode cX4_eats 8 = .ok (.iconst 0, 1) := by decide +kernel
theorem dX4_eats_9 : decode cX4_eats 9 = .ok (.ireturn, 1) := by decide +kernel
theorem dX4_eats_10 : decode cX4_eats 10 = .ok (.aload_n 0, 1) := by decide +kernel
theorem dX4_eats_11 : decode cX4_eats 11 = .ok (.dup, 1) := by decide +kernel
theorem dX4_eats_12 : decode cX4_eats 12 = .ok (.getfield 31, 3) := by decide +kernel
theorem dX4_eats_15 : decode cX4_eats 15 = .ok (.iconst 1, 1) := by decide +kernel
theorem dX4_eats_16 : decode cX4_eats 16 = .ok (.iadd, 1) := by decide +kernel
theorem dX4_eats_17 : decode cX4_eats 17 = .ok (.putfield 31, 3) := by decide +kernel
theorem dX4_eats_20 : decode cX4_eats 20 = .ok (.iconst 1, 1) := by decide +kernel
theorem dX4_eats_21 : decode cX4_eats 21 = .ok (.ireturn, 1) := by decide +kernel
theorem dX4_eatsAll_0 : decode cX4_eatsAll 0 = .ok (.iconst 0, 1) := by decide +kernel
theorem dX4_eatsAll_1 : decode cX4_eatsAll 1 = .ok (.istore_n 2, 1) := by decide +kernel
theorem dX4_eatsAll_2 : decode cX4_eatsAll 2 = .ok (.iload_n 2, 1) := by decide +kernel
theorem dX4_eatsAll_3 : decode cX4_eatsAll 3 = .ok (.aload_n 1, 1) := by decide +kernel
theorem dX4_eatsAll_4 : decode cX4_eatsAll 4 = .ok (.invokevirtual 74, 3) := by decide +kernel
theorem dX4_eatsAll_7 : decode cX4_eatsAll 7 = .ok (.if_icmp .ge 23, 3) := by decide +kernel
theorem dX4_eatsAll_10 : decode cX4_eatsAll 10 = .ok (.aload_n 0, 1) := by decide +kernel
theorem dX4_eatsAll_11 : decode cX4_eatsAll 11 = .ok (.aload_n 1, 1) := by decide +kernel
theorem dX4_eatsAll_12 : decode cX4_eatsAll 12 = .ok (.iload_n 2, 1) := by decide +kernel
theorem dX4_eatsAll_13 : decode cX4_eatsAll 13 = .ok (.invokevirtual 79, 3) := by decide +kernel
theorem dX4_eatsAll_16 : decode cX4_eatsAll 16 = .ok (.invokevirtual 53, 3) := by decide +kernel
theorem dX4_eatsAll_19 : decode cX4_eatsAll 19 = .ok (.ifCond .ne 5, 3) := by decide +kernel
theorem dX4_eatsAll_22 : decode cX4_eatsAll 22 = .ok (.iconst 0, 1) := by decide +kernel
theorem dX4_eatsAll_23 : decode cX4_eatsAll 23 = .ok (.ireturn, 1) := by decide +kernel
theorem dX4_eatsAll_24 : decode cX4_eatsAll 24 = .ok (.iinc 2 1, 3) := by decide +kernel
theorem dX4_eatsAll_27 : decode cX4_eatsAll 27 = .ok (.goto (-25), 3) := by decide +kernel
theorem dX4_eatsAll_30 : decode cX4_eatsAll 30 = .ok (.iconst 1, 1) := by decide +kernel
theorem dX4_eatsAll_31 : decode cX4_eatsAll 31 = .ok (.ireturn, 1) := by decide +kernel
theorem dX4_eatsOneOf_0 : decode cX4_eatsOneOf 0 = .ok (.aload_n 0, 1) := by decide +kernel
theorem dX4_eatsOneOf_1 : decode cX4_eatsOneOf 1 = .ok (.getfield 31, 3) := by decide +kernel
theorem dX4_eatsOneOf_4 : decode cX4_eatsOneOf 4 = .ok (.aload_n 0, 1) := by decide +kernel
theorem dX4_eatsOneOf_5 : decode cX4_eatsOneOf 5 = .ok (.getfield 27, 3) := by decide +kernel
theorem dX4_eatsOneOf_8 : decode cX4_eatsOneOf 8 = .ok (.if_icmp .lt 5, 3) := by decide +kernel
theorem dX4_eatsOneOf_11 : decode cX4_eatsOneOf 11 = .ok (.iconst (-1), 1) := by decide +kernel
theorem dX4_eatsOneOf_12 : decode cX4_eatsOneOf 12 = .ok (.ireturn, 1) := by decide +kernel
theorem dX4_eatsOneOf_13 : decode cX4_eatsOneOf 13 = .ok (.aload_n 1, 1) := by decide +kernel
theorem dX4_eatsOneOf_14 : decode cX4_eatsOneOf 14 = .ok (.aload_n 0, 1) := by decide +kernel
theorem dX4_eatsOneOf_15 : decode cX4_eatsOneOf 15 = .ok (.getfield 9, 3) := by decide +kernel
theorem dX4_eatsOneOf_18 : decode cX4_eatsOneOf 18 = .ok (.aload_n 0, 1) := by decide +kernel
theorem dX4_eatsOneOf_19 : decode cX4_eatsOneOf 19 = .ok (.getfield 31, 3) := by decide +kernel
theorem dX4_eatsOneOf_22 : decode cX4_eatsOneOf 22 = .ok (.iaload, 1) := by decide +kernel
theorem dX4_eatsOneOf_23 : decode cX4_eatsOneOf 23 = .ok (.i2c, 1) := by decide +kernel
theorem dX4_eatsOneOf_24 : decode cX4_eatsOneOf 24 = .ok (.invokevirtual 83, 3) := by decide +kernel
theorem dX4_eatsOneOf_27 : decode cX4_eatsOneOf 27 = .ok (.istore_n 2, 1) := by decide +kernel
theorem dX4_eatsOneOf_28 : decode cX4_eatsOneOf 28 = .ok (.iload_n 2, 1) := by decide +kernel
theorem dX4_eatsOneOf_29 : decode cX4_eatsOneOf 29 = .ok (.ifCond .lt 13, 3) := by decide +kernel
theorem dX4_eatsOneOf_32 : decode cX4_eatsOneOf 32 = .ok (.aload_n 0, 1) := by decide +kernel
theorem dX4_eatsOneOf_33 : decode cX4_eatsOneOf 33 = .ok (.dup, 1) := by decide +kernel
theorem dX4_eatsOneOf_34 : decode cX4_eatsOneOf 34 = .ok (.getfield 31, 3) := by decide +kernel
theorem dX4_eatsOneOf_37 : decode cX4_eatsOneOf 37 = .ok (.iconst 1, 1) := by decide +kernel
theorem dX4_eatsOneOf_38 : decode cX4_eatsOneOf 38 = .ok (.iadd, 1) := by decide +kernel
theorem dX4_eatsOneOf_39 : decode cX4_eatsOneOf 39 = .ok (.putfield 31, 3) := by decide +kernel
theorem dX4_eatsOneOf_42 : decode cX4_eatsOneOf 42 = .ok (.iload_n 2, 1) := by decide +kernel
theorem dX4_eatsOneOf_43 : decode cX4_eatsOneOf 43 = .ok (.ireturn, 1) := by decide +kernel
theorem dX4_digit_0 : decode cX4_digit 0 = .ok (.aload_n 0, 1) := by decide +kernel
theorem dX4_digit_1 : decode cX4_digit 1 = .ok (.getfield 31, 3) := by decide +kernel
theorem dX4_digit_4 : decode cX4_digit 4 = .ok (.aload_n 0, 1) := by decide +kernel
theorem dX4_digit_5 : decode cX4_digit 5 = .ok (.getfield 27, 3) := by decide +kernel
theorem dX4_digit_8 : decode cX4_digit 8 = .ok (.if_icmp .ge 31, 3) := by decide +kernel
theorem dX4_digit_11 : decode cX4_digit 11 = .ok (.aload_n 0, 1) := by decide +kernel
theorem dX4_digit_12 : decode cX4_digit 12 = .ok (.getfield 9, 3) := by decide +kernel
theorem dX4_digit_15 : decode cX4_digit 15 = .ok (.aload_n 0, 1) := by decide +kernel
theorem dX4_digit_16 : decode cX4_digit 16 = .ok (.getfield 31, 3) := by decide +kernel
theorem dX4_digit_19 : decode cX4_digit 19 = .ok (.iaload, 1) := by decide +kernel
theorem dX4_digit_20 : decode cX4_digit 20 = .ok (.bipush 48, 2) := by decide +kernel
theorem dX4_digit_22 : decode cX4_digit 22 = .ok (.if_icmp .lt 17, 3) := by decide +kernel
theorem dX4_digit_25 : decode cX4_digit 25 = .ok (.aload_n 0, 1) := by decide +kernel
theorem dX4_digit_26 : decode cX4_digit 26 = .ok (.getfield 9, 3) := by decide +kernel
theorem dX4_digit_29 : decode cX4_digit 29 = .ok (.aload_n 0, 1) := by decide +kernel
theorem dX4_digit_30 : decode cX4_digit 30 = .ok (.getfield 31, 3) := by decide +kernel
theorem dX4_digit_33 : decode cX4_digit 33 = .ok (.iaload, 1) := by decide +kernel
theorem dX4_digit_34 : decode cX4_digit 34 = .ok (.bipush 57, 2) := by decide +kernel
theorem dX4_digit_36 : decode cX4_digit 36 = .ok (.if_icmp .le 5, 3) := by decide +kernel
theorem dX4_digit_39 : decode cX4_digit 39 = .ok (.iconst (-1), 1) := by decide +kernel
theorem dX4_digit_40 : decode cX4_digit 40 = .ok (.ireturn, 1) := by decide +kernel
theorem dX4_digit_41 : decode cX4_digit 41 = .ok (.aload_n 0, 1) := by decide +kernel
theorem dX4_digit_42 : decode cX4_digit 42 = .ok (.dup, 1) := by decide +kernel
theorem dX4_digit_43 : decode cX4_digit 43 = .ok (.getfield 31, 3) := by decide +kernel
theorem dX4_digit_46 : decode cX4_digit 46 = .ok (.iconst 1, 1) := by decide +kernel
theorem dX4_digit_47 : decode cX4_digit 47 = .ok (.iadd, 1) := by decide +kernel
theorem dX4_digit_48 : decode cX4_digit 48 = .ok (.putfield 31, 3) := by decide +kernel
theorem dX4_digit_51 : decode cX4_digit 51 = .ok (.aload_n 0, 1) := by decide +kernel
theorem dX4_digit_52 : decode cX4_digit 52 = .ok (.getfield 9, 3) := by decide +kernel
theorem dX4_digit_55 : decode cX4_digit 55 = .ok (.aload_n 0, 1) := by decide +kernel
theorem dX4_digit_56 : decode cX4_digit 56 = .ok (.getfield 31, 3) := by decide +kernel
theorem dX4_digit_59 : decode cX4_digit 59 = .ok (.iconst 1, 1) := by decide +kernel
theorem dX4_digit_60 : decode cX4_digit 60 = .ok (.isub, 1) := by decide +kernel
theorem dX4_digit_61 : decode cX4_digit 61 = .ok (.iaload, 1) := by decide +kernel
theorem dX4_digit_62 : decode cX4_digit 62 = .ok (.bipush 48, 2) := by decide +kernel
theorem dX4_digit_64 : decode cX4_digit 64 = .ok (.isub, 1) := by decide +kernel
theorem dX4_digit_65 : decode cX4_digit 65 = .ok (.ireturn, 1) := by decide +kernel
theorem dX4_number_0 : decode cX4_number 0 = .ok (.aload_n 0, 1) := by decide +kernel
theorem dX4_number_1 : decode cX4_number 1 = .ok (.invokevirtual 87, 3) := by decide +kernel
theorem dX4_number_4 : decode cX4_number 4 = .ok (.istore_n 1, 1) := by decide +kernel
theorem dX4_number_5 : decode cX4_number 5 = .ok (.iload_n 1, 1) := by decide +kernel
theorem dX4_number_6 : decode cX4_number 6 = .ok (.ifCond .gt 5, 3) := by decide +kernel
theorem dX4_number_9 : decode cX4_number 9 = .ok (.iload_n 1, 1) := by decide +kernel
theorem dX4_number_10 : decode cX4_number 10 = .ok (.ireturn, 1) := by decide +kernel
theorem dX4_number_11 : decode cX4_number 11 = .ok (.aload_n 0, 1) := by decide +kernel
theorem dX4_number_12 : decode cX4_number 12 = .ok (.invokevirtual 87, 3) := by decide +kernel
theorem dX4_number_15 : decode cX4_number 15 = .ok (.istore_n 2, 1) := by decide +kernel
theorem dX4_number_16 : decode cX4_number 16 = .ok (.iload_n 2, 1) := by decide +kernel
theorem dX4_number_17 : decode cX4_number 17 = .ok (.ifCond .ge 7, 3) := by decide +kernel
theorem dX4_number_20 : decode cX4_number 20 = .ok (.iload_n 1, 1) := by decide +kernel
theorem dX4_number_21 : decode cX4_number 21 = .ok (.goto 9, 3) := by decide +kernel
theorem dX4_number_24 : decode cX4_number 24 = .ok (.iload_n 1, 1) := by decide +kernel
theorem dX4_number_25 : decode cX4_number 25 = .ok (.bipush 10, 2) := by decide +kernel
theorem dX4_number_27 : decode cX4_number 27 = .ok (.imul, 1) := by decide +kernel
theorem dX4_number_28 : decode cX4_number 28 = .ok (.iload_n 2, 1) := by decide +kernel
theorem dX4_number_29 : decode cX4_number 29 = .ok (.iadd, 1) := by decide +kernel
theorem dX4_number_30 : decode cX4_number 30 = .ok (.ireturn, 1) := by decide +kernel
theorem dX4_clause_0 : decode cX4_clause 0 = .ok (.aload_n 0, 1) := by decide +kernel
theorem dX4_clause_1 : decode cX4_clause 1 = .ok (.bipush 112, 2) := by decide +kernel
theorem dX4_clause_3 : decode cX4_clause 3 = .ok (.invokevirtual 71, 3) := by decide +kernel
theorem dX4_clause_6 : decode cX4_clause 6 = .ok (.ifCond .eq 8, 3) := by decide +kernel
theorem dX4_clause_9 : decode cX4_clause 9 = .ok (.aload_n 0, 1) := by decide +kernel
theorem dX4_clause_10 : decode cX4_clause 10 = .ok (.invokevirtual 90, 3) := by decide +kernel
theorem dX4_clause_13 : decode cX4_clause 13 = .ok (.ireturn, 1) := by decide +kernel
theorem dX4_clause_14 : decode cX4_clause 14 = .ok (.aload_n 0, 1) := by decide +kernel
theorem dX4_clause_15 : decode cX4_clause 15 = .ok (.bipush 99, 2) := by decide +kernel
theorem dX4_clause_17 : decode cX4_clause 17 = .ok (.invokevirtual 53, 3) := by decide +kernel
theorem dX4_clause_20 : decode cX4_clause 20 = .ok (.ifCond .ne 5, 3) := by decide +kernel
theorem dX4_clause_23 : decode cX4_clause 23 = .ok (.iconst 0, 1) := by decide +kernel
theorem dX4_clause_24 : decode cX4_clause 24 = .ok (.ireturn, 1) := by decide +kernel
theorem dX4_clause_25 : decode cX4_clause 25 = .ok (.aload_n 0, 1) := by decide +kernel
theorem dX4_clause_26 : decode cX4_clause 26 = .ok (.bipush 97, 2) := by decide +kernel
theorem dX4_clause_28 : decode cX4_clause 28 = .ok (.invokevirtual 71, 3) := by decide +kernel
theorem dX4_clause_31 : decode cX4_clause 31 = .ok (.ifCond .eq 10, 3) := by decide +kernel
theorem dX4_clause_34 : decode cX4_clause 34 = .ok (.aload_n 0, 1) := by decide +kernel
theorem dX4_clause_35 : decode cX4_clause 35 = .ok (.invokevirtual 93, 3) := by decide +kernel
theorem dX4_clause_38 : decode cX4_clause 38 = .ok (.goto 7, 3) := by decide +kernel
theorem dX4_clause_41 : decode cX4_clause 41 = .ok (.aload_n 0, 1) := by decide +kernel
theorem dX4_clause_42 : decode cX4_clause 42 = .ok (.invokevirtual 96, 3) := by decide +kernel
theorem dX4_clause_45 : decode cX4_clause 45 = .ok (.ireturn, 1) := by decide +kernel
theorem dX4_payClause_0 : decode cX4_payClause 0 = .ok (.aload_n 0, 1) := by decide +kernel
theorem dX4_payClause_1 : decode cX4_payClause 1 = .ok (.ldc 99, 2) := by decide +kernel
theorem dX4_payClause_3 : decode cX4_payClause 3 = .ok (.invokevirtual 101, 3) := by decide +kernel
theorem dX4_payClause_6 : decode cX4_payClause 6 = .ok (.ifCond .ne 5, 3) := by decide +kernel
theorem dX4_payClause_9 : decode cX4_payClause 9 = .ok (.iconst 0, 1) := by decide +kernel
theorem dX4_payClause_10 : decode cX4_payClause 10 = .ok (.ireturn, 1) := by decide +kernel
theorem dX4_payClause_11 : decode cX4_payClause 11 = .ok (.aload_n 0, 1) := by decide +kernel
theorem dX4_payClause_12 : decode cX4_payClause 12 = .ok (.ldc 105, 2) := by decide +kernel
theorem dX4_payClause_14 : decode cX4_payClause 14 = .ok (.invokevirtual 107, 3) := by decide +kernel
theorem dX4_payClause_17 : decode cX4_payClause 17 = .ok (.istore_n 1, 1) := by decide +kernel
theorem dX4_payClause_18 : decode cX4_payClause 18 = .ok (.iload_n 1, 1) := by decide +kernel
theorem dX4_payClause_19 : decode cX4_payClause 19 = .ok (.ifCond .lt 12, 3) := by decide +kernel
theorem dX4_payClause_22 : decode cX4_payClause 22 = .ok (.aload_n 0, 1) := by decide +kernel
theorem dX4_payClause_23 : decode cX4_payClause 23 = .ok (.bipush 32, 2) := by decide +kernel
theorem dX4_payClause_25 : decode cX4_payClause 25 = .ok (.invokevirtual 53, 3) := by decide +kernel
theorem dX4_payClause_28 : decode cX4_payClause 28 = .ok (.ifCond .ne 5, 3) := by decide +kernel
theorem dX4_payClause_31 : decode cX4_payClause 31 = .ok (.iconst 0, 1) := by decide +kernel
theorem dX4_payClause_32 : decode cX4_payClause 32 = .ok (.ireturn, 1) := by decide +kernel
theorem dX4_payClause_33 : decode cX4_payClause 33 = .ok (.aload_n 0, 1) := by decide +kernel
theorem dX4_payClause_34 : decode cX4_payClause 34 = .ok (.invokevirtual 111, 3) := by decide +kernel
theorem dX4_payClause_37 : decode cX4_payClause 37 = .ok (.istore_n 2, 1) := by decide +kernel
theorem dX4_payClause_38 : decode cX4_payClause 38 = .ok (.iload_n 2, 1) := by decide +kernel
theorem dX4_payClause_39 : decode cX4_payClause 39 = .ok (.ifCond .ge 5, 3) := by decide +kernel
theorem dX4_payClause_42 : decode cX4_payClause 42 = .ok (.iconst 0, 1) := by decide +kernel
theorem dX4_payClause_43 : decode cX4_payClause 43 = .ok (.ireturn, 1) := by decide +kernel
theorem dX4_payClause_44 : decode cX4_payClause 44 = .ok (.aload_n 0, 1) := by decide +kernel
theorem dX4_payClause_45 : decode cX4_payClause 45 = .ok (.getfield 24, 3) := by decide +kernel
theorem dX4_payClause_48 : decode cX4_payClause 48 = .ok (.iload_n 1, 1) := by decide +kernel
theorem dX4_payClause_49 : decode cX4_payClause 49 = .ok (.iload_n 2, 1) := by decide +kernel
theorem dX4_payClause_50 : decode cX4_payClause 50 = .ok (.iastore, 1) := by decide +kernel
theorem dX4_payClause_51 : decode cX4_payClause 51 = .ok (.iconst 1, 1) := by decide +kernel
theorem dX4_payClause_52 : decode cX4_payClause 52 = .ok (.ireturn, 1) := by decide +kernel
theorem dX4_coverClause_0 : decode cX4_coverClause 0 = .ok (.aload_n 0, 1) := by decide +kernel
theorem dX4_coverClause_1 : decode cX4_coverClause 1 = .ok (.ldc 114, 2) := by decide +kernel
theorem dX4_coverClause_3 : decode cX4_coverClause 3 = .ok (.invokevirtual 101, 3) := by decide +kernel
theorem dX4_coverClause_6 : decode cX4_coverClause 6 = .ok (.ifCond .ne 5, 3) := by decide +kernel
theorem dX4_coverClause_9 : decode cX4_coverClause 9 = .ok (.iconst 0, 1) := by decide +kernel
theorem dX4_coverClause_10 : decode cX4_coverClause 10 = .ok (.ireturn, 1) := by decide +kernel
theorem dX4_coverClause_11 : decode cX4_coverClause 11 = .ok (.aload_n 0, 1) := by decide +kernel
theorem dX4_coverClause_12 : decode cX4_coverClause 12 = .ok (.invokevirtual 111, 3) := by decide +kernel
theorem dX4_coverClause_15 : decode cX4_coverClause 15 = .ok (.istore_n 1, 1) := by decide +kernel
theorem dX4_coverClause_16 : decode cX4_coverClause 16 = .ok (.iload_n 1, 1) := by decide +kernel
theorem dX4_coverClause_17 : decode cX4_coverClause 17 = .ok (.ifCond .ge 5, 3) := by decide +kernel
theorem dX4_coverClause_20 : decode cX4_coverClause 20 = .ok (.iconst 0, 1) := by decide +kernel
theorem dX4_coverClause_21 : decode cX4_coverClause 21 = .ok (.ireturn, 1) := by decide +kernel
theorem dX4_coverClause_22 : decode cX4_coverClause 22 = .ok (.aload_n 0, 1) := by decide +kernel
theorem dX4_coverClause_23 : decode cX4_coverClause 23 = .ok (.iload_n 1, 1) := by decide +kernel
theorem dX4_coverClause_24 : decode cX4_coverClause 24 = .ok (.putfield 46, 3) := by decide +kernel
theorem dX4_coverClause_27 : decode cX4_coverClause 27 = .ok (.iconst 1, 1) := by decide +kernel
theorem dX4_coverClause_28 : decode cX4_coverClause 28 = .ok (.ireturn, 1) := by decide +kernel
theorem dX4_canClause_0 : decode cX4_canClause 0 = .ok (.aload_n 0, 1) := by decide +kernel
theorem dX4_canClause_1 : decode cX4_canClause 1 = .ok (.ldc 116, 2) := by decide +kernel
theorem dX4_canClause_3 : decode cX4_canClause 3 = .ok (.invokevirtual 101, 3) := by decide +kernel
theorem dX4_canClause_6 : decode cX4_canClause 6 = .ok (.ifCond .ne 5, 3) := by decide +kernel
theorem dX4_canClause_9 : decode cX4_canClause 9 = .ok (.iconst 0, 1) := by decide +kernel
theorem dX4_canClause_10 : decode cX4_canClause 10 = .ok (.ireturn, 1) := by decide +kernel
theorem dX4_canClause_11 : decode cX4_canClause 11 = .ok (.aload_n 0, 1) := by decide +kernel
theorem dX4_canClause_12 : decode cX4_canClause 12 = .ok (.ldc 105, 2) := by decide +kernel
theorem dX4_canClause_14 : decode cX4_canClause 14 = .ok (.invokevirtual 107, 3) := by decide +kernel
theorem dX4_canClause_17 : decode cX4_canClause 17 = .ok (.istore_n 1, 1) := by decide +kernel
theorem dX4_canClause_18 : decode cX4_canClause 18 = .ok (.iload_n 1, 1) := by decide +kernel
theorem dX4_canClause_19 : decode cX4_canClause 19 = .ok (.ifCond .lt 20, 3) := by decide +kernel
theorem dX4_canClause_22 : decode cX4_canClause 22 = .ok (.aload_n 0, 1) := by decide +kernel
theorem dX4_canClause_23 : decode cX4_canClause 23 = .ok (.bipush 32, 2) := by decide +kernel
theorem dX4_canClause_25 : decode cX4_canClause 25 = .ok (.invokevirtual 53, 3) := by decide +kernel
theorem dX4_canClause_28 : decode cX4_canClause 28 = .ok (.ifCond .eq 11, 3) := by decide +kernel
theorem dX4_canClause_31 : decode cX4_canClause 31 = .ok (.aload_n 0, 1) := by decide +kernel
theorem dX4_canClause_32 : decode cX4_canClause 32 = .ok (.iconst 0, 1) := by decide +kernel
theorem dX4_canClause_33 : decode cX4_canClause 33 = .ok (.invokevirtual 118, 3) := by decide +kernel
theorem dX4_canClause_36 : decode cX4_canClause 36 = .ok (.ifCond .ne 5, 3) := by decide +kernel
theorem dX4_canClause_39 : decode cX4_canClause 39 = .ok (.iconst 0, 1) := by decide +kernel
theorem dX4_canClause_40 : decode cX4_canClause 40 = .ok (.ireturn, 1) := by decide +kernel
theorem dX4_canClause_41 : decode cX4_canClause 41 = .ok (.aload_n 0, 1) := by decide +kernel
theorem dX4_canClause_42 : decode cX4_canClause 42 = .ok (.getfield 18, 3) := by decide +kernel
theorem dX4_canClause_45 : decode cX4_canClause 45 = .ok (.aload_n 0, 1) := by decide +kernel
theorem dX4_canClause_46 : decode cX4_canClause 46 = .ok (.getfield 37, 3) := by decide +kernel
theorem dX4_canClause_49 : decode cX4_canClause 49 = .ok (.iload_n 1, 1) := by decide +kernel
theorem dX4_canClause_50 : decode cX4_canClause 50 = .ok (.iastore, 1) := by decide +kernel
theorem dX4_canClause_51 : decode cX4_canClause 51 = .ok (.aload_n 0, 1) := by decide +kernel
theorem dX4_canClause_52 : decode cX4_canClause 52 = .ok (.getfield 21, 3) := by decide +kernel
theorem dX4_canClause_55 : decode cX4_canClause 55 = .ok (.aload_n 0, 1) := by decide +kernel
theorem dX4_canClause_56 : decode cX4_canClause 56 = .ok (.getfield 37, 3) := by decide +kernel
theorem dX4_canClause_59 : decode cX4_canClause 59 = .ok (.aload_n 0, 1) := by decide +kernel
theorem dX4_canClause_60 : decode cX4_canClause 60 = .ok (.getfield 34, 3) := by decide +kernel
theorem dX4_canClause_63 : decode cX4_canClause 63 = .ok (.iastore, 1) := by decide +kernel
theorem dX4_canClause_64 : decode cX4_canClause 64 = .ok (.aload_n 0, 1) := by decide +kernel
theorem dX4_canClause_65 : decode cX4_canClause 65 = .ok (.dup, 1) := by decide +kernel
theorem dX4_canClause_66 : decode cX4_canClause 66 = .ok (.getfield 37, 3) := by decide +kernel
theorem dX4_canClause_69 : decode cX4_canClause 69 = .ok (.iconst 1, 1) := by decide +kernel
theorem dX4_canClause_70 : decode cX4_canClause 70 = .ok (.iadd, 1) := by decide +kernel
theorem dX4_canClause_71 : decode cX4_canClause 71 = .ok (.putfield 37, 3) := by decide +kernel
theorem dX4_canClause_74 : decode cX4_canClause 74 = .ok (.iconst 1, 1) := by decide +kernel
theorem dX4_canClause_75 : decode cX4_canClause 75 = .ok (.ireturn, 1) := by decide +kernel
theorem dX4_either_0 : decode cX4_either 0 = .ok (.aload_n 0, 1) := by decide +kernel
theorem dX4_either_1 : decode cX4_either 1 = .ok (.iload_n 1, 1) := by decide +kernel
theorem dX4_either_2 : decode cX4_either 2 = .ok (.invokevirtual 122, 3) := by decide +kernel
theorem dX4_either_5 : decode cX4_either 5 = .ok (.ifCond .ne 5, 3) := by decide +kernel
theorem dX4_either_8 : decode cX4_either 8 = .ok (.iconst 0, 1) := by decide +kernel
theorem dX4_either_9 : decode cX4_either 9 = .ok (.ireturn, 1) := by decide +kernel
theorem dX4_either_10 : decode cX4_either 10 = .ok (.iconst 0, 1) := by decide +kernel
theorem dX4_either_11 : decode cX4_either 11 = .ok (.istore_n 2, 1) := by decide +kernel
theorem dX4_either_12 : decode cX4_either 12 = .ok (.iload_n 2, 1) := by decide +kernel
theorem dX4_either_13 : decode cX4_either 13 = .ok (.bipush 100, 2) := by decide +kernel
theorem dX4_either_15 : decode cX4_either 15 = .ok (.if_icmp .ge 34, 3) := by decide +kernel
theorem dX4_either_18 : decode cX4_either 18 = .ok (.aload_n 0, 1) := by decide +kernel
theorem dX4_either_19 : decode cX4_either 19 = .ok (.bipush 124, 2) := by decide +kernel
theorem dX4_either_21 : decode cX4_either 21 = .ok (.invokevirtual 53, 3) := by decide +kernel
theorem dX4_either_24 : decode cX4_either 24 = .ok (.ifCond .eq 25, 3) := by decide +kernel
theorem dX4_either_27 : decode cX4_either 27 = .ok (.aload_n 0, 1) := by decide +kernel
theorem dX4_either_28 : decode cX4_either 28 = .ok (.iload_n 1, 1) := by decide +kernel
theorem dX4_either_29 : decode cX4_either 29 = .ok (.invokevirtual 122, 3) := by decide +kernel
theorem dX4_either_32 : decode cX4_either 32 = .ok (.ifCond .ne 5, 3) := by decide +kernel
theorem dX4_either_35 : decode cX4_either 35 = .ok (.iconst 0, 1) := by decide +kernel
theorem dX4_either_36 : decode cX4_either 36 = .ok (.ireturn, 1) := by decide +kernel
theorem dX4_either_37 : decode cX4_either 37 = .ok (.aload_n 0, 1) := by decide +kernel
theorem dX4_either_38 : decode cX4_either 38 = .ok (.bipush (-3), 2) := by decide +kernel
theorem dX4_either_40 : decode cX4_either 40 = .ok (.invokevirtual 125, 3) := by decide +kernel
theorem dX4_either_43 : decode cX4_either 43 = .ok (.iinc 2 1, 3) := by decide +kernel
theorem dX4_either_46 : decode cX4_either 46 = .ok (.goto (-34), 3) := by decide +kernel
theorem dX4_either_49 : decode cX4_either 49 = .ok (.iconst 1, 1) := by decide +kernel
theorem dX4_either_50 : decode cX4_either 50 = .ok (.ireturn, 1) := by decide +kernel
theorem dX4_both_0 : decode cX4_both 0 = .ok (.aload_n 0, 1) := by decide +kernel
theorem dX4_both_1 : decode cX4_both 1 = .ok (.iload_n 1, 1) := by decide +kernel
theorem dX4_both_2 : decode cX4_both 2 = .ok (.invokevirtual 129, 3) := by decide +kernel
theorem dX4_both_5 : decode cX4_both 5 = .ok (.ifCond .ne 5, 3) := by decide +kernel
theorem dX4_both_8 : decode cX4_both 8 = .ok (.iconst 0, 1) := by decide +kernel
theorem dX4_both_9 : decode cX4_both 9 = .ok (.ireturn, 1) := by decide +kernel
theorem dX4_both_10 : decode cX4_both 10 = .ok (.iconst 0, 1) := by decide +kernel
theorem dX4_both_11 : decode cX4_both 11 = .ok (.istore_n 2, 1) := by decide +kernel
theorem dX4_both_12 : decode cX4_both 12 = .ok (.iload_n 2, 1) := by decide +kernel
theorem dX4_both_13 : decode cX4_both 13 = .ok (.bipush 100, 2) := by decide +kernel
theorem dX4_both_15 : decode cX4_both 15 = .ok (.if_icmp .ge 34, 3) := by decide +kernel
theorem dX4_both_18 : decode cX4_both 18 = .ok (.aload_n 0, 1) := by decide +kernel
theorem dX4_both_19 : decode cX4_both 19 = .ok (.bipush 38, 2) := by decide +kernel
theorem dX4_both_21 : decode cX4_both 21 = .ok (.invokevirtual 53, 3) := by decide +kernel
theorem dX4_both_24 : decode cX4_both 24 = .ok (.ifCond .eq 25, 3) := by decide +kernel
theorem dX4_both_27 : decode cX4_both 27 = .ok (.aload_n 0, 1) := by decide +kernel
theorem dX4_both_28 : decode cX4_both 28 = .ok (.iload_n 1, 1) := by decide +kernel
theorem dX4_both_29 : decode cX4_both 29 = .ok (.invokevirtual 129, 3) := by decide +kernel
theorem dX4_both_32 : decode cX4_both 32 = .ok (.ifCond .ne 5, 3) := by decide +kernel
theorem dX4_both_35 : decode cX4_both 35 = .ok (.iconst 0, 1) := by decide +kernel
theorem dX4_both_36 : decode cX4_both 36 = .ok (.ireturn, 1) := by decide +kernel
theorem dX4_both_37 : decode cX4_both 37 = .ok (.aload_n 0, 1) := by decide +kernel
theorem dX4_both_38 : decode cX4_both 38 = .ok (.bipush (-2), 2) := by decide +kernel
theorem dX4_both_40 : decode cX4_both 40 = .ok (.invokevirtual 125, 3) := by decide +kernel
theorem dX4_both_43 : decode cX4_both 43 = .ok (.iinc 2 1, 3) := by decide +kernel
theorem dX4_both_46 : decode cX4_both 46 = .ok (.goto (-34), 3) := by decide +kernel
theorem dX4_both_49 : decode cX4_both 49 = .ok (.iconst 1, 1) := by decide +kernel
theorem dX4_both_50 : decode cX4_both 50 = .ok (.ireturn, 1) := by decide +kernel
theorem dX4_factor_0 : decode cX4_factor 0 = .ok (.aload_n 0, 1) := by decide +kernel
theorem dX4_factor_1 : decode cX4_factor 1 = .ok (.bipush 33, 2) := by decide +kernel
theorem dX4_factor_3 : decode cX4_factor 3 = .ok (.invokevirtual 71, 3) := by decide +kernel
theorem dX4_factor_6 : decode cX4_factor 6 = .ok (.ifCond .ne 12, 3) := by decide +kernel
theorem dX4_factor_9 : decode cX4_factor 9 = .ok (.aload_n 0, 1) := by decide +kernel
theorem dX4_factor_10 : decode cX4_factor 10 = .ok (.bipush 40, 2) := by decide +kernel
theorem dX4_factor_12 : decode cX4_factor 12 = .ok (.invokevirtual 71, 3) := by decide +kernel
theorem dX4_factor_15 : decode cX4_factor 15 = .ok (.ifCond .eq 7, 3) := by decide +kernel
theorem dX4_factor_18 : decode cX4_factor 18 = .ok (.iconst 1, 1) := by decide +kernel
theorem dX4_factor_19 : decode cX4_factor 19 = .ok (.goto 4, 3) := by decide +kernel
theorem dX4_factor_22 : decode cX4_factor 22 = .ok (.iconst 0, 1) := by decide +kernel
theorem dX4_factor_23 : decode cX4_factor 23 = .ok (.istore_n 2, 1) := by decide +kernel
theorem dX4_factor_24 : decode cX4_factor 24 = .ok (.iload_n 2, 1) := by decide +kernel
theorem dX4_factor_25 : decode cX4_factor 25 = .ok (.ifCond .ne 8, 3) := by decide +kernel
theorem dX4_factor_28 : decode cX4_factor 28 = .ok (.aload_n 0, 1) := by decide +kernel
theorem dX4_factor_29 : decode cX4_factor 29 = .ok (.invokevirtual 132, 3) := by decide +kernel
theorem dX4_factor_32 : decode cX4_factor 32 = .ok (.ireturn, 1) := by decide +kernel
theorem dX4_factor_33 : decode cX4_factor 33 = .ok (.iload_n 1, 1) := by decide +kernel
theorem dX4_factor_34 : decode cX4_factor 34 = .ok (.iconst 5, 1) := by decide +kernel
theorem dX4_factor_35 : decode cX4_factor 35 = .ok (.if_icmp .lt 5, 3) := by decide +kernel
theorem dX4_factor_38 : decode cX4_factor 38 = .ok (.iconst 0, 1) := by decide +kernel
theorem dX4_factor_39 : decode cX4_factor 39 = .ok (.ireturn, 1) := by decide +kernel
theorem dX4_factor_40 : decode cX4_factor 40 = .ok (.aload_n 0, 1) := by decide +kernel
theorem dX4_factor_41 : decode cX4_factor 41 = .ok (.bipush 40, 2) := by decide +kernel
theorem dX4_factor_43 : decode cX4_factor 43 = .ok (.invokevirtual 53, 3) := by decide +kernel
theorem dX4_factor_46 : decode cX4_factor 46 = .ok (.ifCond .eq 28, 3) := by decide +kernel
theorem dX4_factor_49 : decode cX4_factor 49 = .ok (.aload_n 0, 1) := by decide +kernel
theorem dX4_factor_50 : decode cX4_factor 50 = .ok (.iload_n 1, 1) := by decide +kernel
theorem dX4_factor_51 : decode cX4_factor 51 = .ok (.iconst 1, 1) := by decide +kernel
theorem dX4_factor_52 : decode cX4_factor 52 = .ok (.iadd, 1) := by decide +kernel
theorem dX4_factor_53 : decode cX4_factor 53 = .ok (.invokevirtual 118, 3) := by decide +kernel
theorem dX4_factor_56 : decode cX4_factor 56 = .ok (.ifCond .eq 16, 3) := by decide +kernel
theorem dX4_factor_59 : decode cX4_factor 59 = .ok (.aload_n 0, 1) := by decide +kernel
theorem dX4_factor_60 : decode cX4_factor 60 = .ok (.bipush 41, 2) := by decide +kernel
theorem dX4_factor_62 : decode cX4_factor 62 = .ok (.invokevirtual 53, 3) := by decide +kernel
theorem dX4_factor_65 : decode cX4_factor 65 = .ok (.ifCond .eq 7, 3) := by decide +kernel
theorem dX4_factor_68 : decode cX4_factor 68 = .ok (.iconst 1, 1) := by decide +kernel
theorem dX4_factor_69 : decode cX4_factor 69 = .ok (.goto 4, 3) := by decide +kernel
theorem dX4_factor_72 : decode cX4_factor 72 = .ok (.iconst 0, 1) := by decide +kernel
theorem dX4_factor_73 : decode cX4_factor 73 = .ok (.ireturn, 1) := by decide +kernel
theorem dX4_factor_74 : decode cX4_factor 74 = .ok (.aload_n 0, 1) := by decide +kernel
theorem dX4_factor_75 : decode cX4_factor 75 = .ok (.dup, 1) := by decide +kernel
theorem dX4_factor_76 : decode cX4_factor 76 = .ok (.getfield 31, 3) := by decide +kernel
theorem dX4_factor_79 : decode cX4_factor 79 = .ok (.iconst 1, 1) := by decide +kernel
theorem dX4_factor_80 : decode cX4_factor 80 = .ok (.iadd, 1) := by decide +kernel
theorem dX4_factor_81 : decode cX4_factor 81 = .ok (.putfield 31, 3) := by decide +kernel
theorem dX4_factor_84 : decode cX4_factor 84 = .ok (.aload_n 0, 1) := by decide +kernel
theorem dX4_factor_85 : decode cX4_factor 85 = .ok (.iload_n 1, 1) := by decide +kernel
theorem dX4_factor_86 : decode cX4_factor 86 = .ok (.iconst 1, 1) := by decide +kernel
theorem dX4_factor_87 : decode cX4_factor 87 = .ok (.iadd, 1) := by decide +kernel
theorem dX4_factor_88 : decode cX4_factor 88 = .ok (.invokevirtual 129, 3) := by decide +kernel
theorem dX4_factor_91 : decode cX4_factor 91 = .ok (.ifCond .ne 5, 3) := by decide +kernel
theorem dX4_factor_94 : decode cX4_factor 94 = .ok (.iconst 0, 1) := by decide +kernel
theorem dX4_factor_95 : decode cX4_factor 95 = .ok (.ireturn, 1) := by decide +kernel
theorem dX4_factor_96 : decode cX4_factor 96 = .ok (.aload_n 0, 1) := by decide +kernel
theorem dX4_factor_97 : decode cX4_factor 97 = .ok (.iconst (-1), 1) := by decide +kernel
theorem dX4_factor_98 : decode cX4_factor 98 = .ok (.invokevirtual 125, 3) := by decide +kernel
theorem dX4_factor_101 : decode cX4_factor 101 = .ok (.iconst 1, 1) := by decide +kernel
theorem dX4_factor_102 : decode cX4_factor 102 = .ok (.ireturn, 1) := by decide +kernel
theorem dX4_testing_0 : decode cX4_testing 0 = .ok (.aload_n 0, 1) := by decide +kernel
theorem dX4_testing_1 : decode cX4_testing 1 = .ok (.ldc 135, 2) := by decide +kernel
theorem dX4_testing_3 : decode cX4_testing 3 = .ok (.invokevirtual 107, 3) := by decide +kernel
theorem dX4_testing_6 : decode cX4_testing 6 = .ok (.istore_n 1, 1) := by decide +kernel
theorem dX4_testing_7 : decode cX4_testing 7 = .ok (.iload_n 1, 1) := by decide +kernel
theorem dX4_testing_8 : decode cX4_testing 8 = .ok (.ifCond .ge 5, 3) := by decide +kernel
theorem dX4_testing_11 : decode cX4_testing 11 = .ok (.iconst 0, 1) := by decide +kernel
theorem dX4_testing_12 : decode cX4_testing 12 = .ok (.ireturn, 1) := by decide +kernel
theorem dX4_testing_13 : decode cX4_testing 13 = .ok (.aload_n 0, 1) := by decide +kernel
theorem dX4_testing_14 : decode cX4_testing 14 = .ok (.ldc 137, 2) := by decide +kernel
theorem dX4_testing_16 : decode cX4_testing 16 = .ok (.invokevirtual 107, 3) := by decide +kernel
theorem dX4_testing_19 : decode cX4_testing 19 = .ok (.istore_n 2, 1) := by decide +kernel
theorem dX4_testing_20 : decode cX4_testing 20 = .ok (.iload_n 2, 1) := by decide +kernel
theorem dX4_testing_21 : decode cX4_testing 21 = .ok (.ifCond .ge 5, 3) := by decide +kernel
theorem dX4_testing_24 : decode cX4_testing 24 = .ok (.iconst 0, 1) := by decide +kernel
theorem dX4_testing_25 : decode cX4_testing 25 = .ok (.ireturn, 1) := by decide +kernel
theorem dX4_testing_26 : decode cX4_testing 26 = .ok (.aload_n 0, 1) := by decide +kernel
theorem dX4_testing_27 : decode cX4_testing 27 = .ok (.invokevirtual 111, 3) := by decide +kernel
theorem dX4_testing_30 : decode cX4_testing 30 = .ok (.istore_n 3, 1) := by decide +kernel
theorem dX4_testing_31 : decode cX4_testing 31 = .ok (.iload_n 3, 1) := by decide +kernel
theorem dX4_testing_32 : decode cX4_testing 32 = .ok (.ifCond .ge 5, 3) := by decide +kernel
theorem dX4_testing_35 : decode cX4_testing 35 = .ok (.iconst 0, 1) := by decide +kernel
theorem dX4_testing_36 : decode cX4_testing 36 = .ok (.ireturn, 1) := by decide +kernel
theorem dX4_testing_37 : decode cX4_testing 37 = .ok (.aload_n 0, 1) := by decide +kernel
theorem dX4_testing_38 : decode cX4_testing 38 = .ok (.iload_n 1, 1) := by decide +kernel
theorem dX4_testing_39 : decode cX4_testing 39 = .ok (.iload_n 2, 1) := by decide +kernel
theorem dX4_testing_40 : decode cX4_testing 40 = .ok (.iload_n 3, 1) := by decide +kernel
theorem dX4_testing_41 : decode cX4_testing 41 = .ok (.invokestatic 139, 3) := by decide +kernel
theorem dX4_testing_44 : decode cX4_testing 44 = .ok (.invokevirtual 125, 3) := by decide +kernel
theorem dX4_testing_47 : decode cX4_testing 47 = .ok (.iconst 1, 1) := by decide +kernel
theorem dX4_testing_48 : decode cX4_testing 48 = .ok (.ireturn, 1) := by decide +kernel
theorem dX4_emit_0 : decode cX4_emit 0 = .ok (.aload_n 0, 1) := by decide +kernel
theorem dX4_emit_1 : decode cX4_emit 1 = .ok (.getfield 34, 3) := by decide +kernel
theorem dX4_emit_4 : decode cX4_emit 4 = .ok (.aload_n 0, 1) := by decide +kernel
theorem dX4_emit_5 : decode cX4_emit 5 = .ok (.getfield 15, 3) := by decide +kernel
theorem dX4_emit_8 : decode cX4_emit 8 = .ok (.arraylength, 1) := by decide +kernel
theorem dX4_emit_9 : decode cX4_emit 9 = .ok (.if_icmp .ge 23, 3) := by decide +kernel
theorem dX4_emit_12 : decode cX4_emit 12 = .ok (.aload_n 0, 1) := by decide +kernel
theorem dX4_emit_13 : decode cX4_emit 13 = .ok (.getfield 15, 3) := by decide +kernel
theorem dX4_emit_16 : decode cX4_emit 16 = .ok (.aload_n 0, 1) := by decide +kernel
theorem dX4_emit_17 : decode cX4_emit 17 = .ok (.getfield 34, 3) := by decide +kernel
theorem dX4_emit_20 : decode cX4_emit 20 = .ok (.iload_n 1, 1) := by decide +kernel
theorem dX4_emit_21 : decode cX4_emit 21 = .ok (.iastore, 1) := by decide +kernel
theorem dX4_emit_22 : decode cX4_emit 22 = .ok (.aload_n 0, 1) := by decide +kernel
theorem dX4_emit_23 : decode cX4_emit 23 = .ok (.dup, 1) := by decide +kernel
theorem dX4_emit_24 : decode cX4_emit 24 = .ok (.getfield 34, 3) := by decide +kernel
theorem dX4_emit_27 : decode cX4_emit 27 = .ok (.iconst 1, 1) := by decide +kernel
theorem dX4_emit_28 : decode cX4_emit 28 = .ok (.iadd, 1) := by decide +kernel
theorem dX4_emit_29 : decode cX4_emit 29 = .ok (.putfield 34, 3) := by decide +kernel
theorem dX4_emit_32 : decode cX4_emit 32 = .ok (.return_, 1) := by decide +kernel
theorem dX5_init_0 : decode cX5_init 0 = .ok (.aload_n 0, 1) := by decide +kernel
theorem dX5_init_1 : decode cX5_init 1 = .ok (.invokespecial 3, 3) := by decide +kernel
theorem dX5_init_4 : decode cX5_init 4 = .ok (.aload_n 0, 1) := by decide +kernel
theorem dX5_init_5 : decode cX5_init 5 = .ok (.iconst 3, 1) := by decide +kernel
theorem dX5_init_6 : decode cX5_init 6 = .ok (.newarray .int, 2) := by decide +kernel
theorem dX5_init_8 : decode cX5_init 8 = .ok (.putfield 9, 3) := by decide +kernel
theorem dX5_init_11 : decode cX5_init 11 = .ok (.aload_n 0, 1) := by decide +kernel
theorem dX5_init_12 : decode cX5_init 12 = .ok (.iconst 3, 1) := by decide +kernel
theorem dX5_init_13 : decode cX5_init 13 = .ok (.newarray .int, 2) := by decide +kernel
theorem dX5_init_15 : decode cX5_init 15 = .ok (.putfield 15, 3) := by decide +kernel
theorem dX5_init_18 : decode cX5_init 18 = .ok (.aload_n 0, 1) := by decide +kernel
theorem dX5_init_19 : decode cX5_init 19 = .ok (.bipush 100, 2) := by decide +kernel
theorem dX5_init_21 : decode cX5_init 21 = .ok (.newarray .int, 2) := by decide +kernel
theorem dX5_init_23 : decode cX5_init 23 = .ok (.putfield 18, 3) := by decide +kernel
theorem dX5_init_26 : decode cX5_init 26 = .ok (.aload_n 0, 1) := by decide +kernel
theorem dX5_init_27 : decode cX5_init 27 = .ok (.bipush 8, 2) := by decide +kernel
theorem dX5_init_29 : decode cX5_init 29 = .ok (.anewarray 21, 3) := by decide +kernel
theorem dX5_init_32 : decode cX5_init 32 = .ok (.putfield 23, 3) := by decide +kernel
theorem dX5_init_35 : decode cX5_init 35 = .ok (.aload_n 0, 1) := by decide +kernel
theorem dX5_init_36 : decode cX5_init 36 = .ok (.bipush 12, 2) := by decide +kernel
theorem dX5_init_38 : decode cX5_init 38 = .ok (.newarray .int, 2) := by decide +kernel
theorem dX5_init_40 : decode cX5_init 40 = .ok (.putfield 27, 3) := by decide +kernel
theorem dX5_init_43 : decode cX5_init 43 = .ok (.aload_n 0, 1) := by decide +kernel
theorem dX5_init_44 : decode cX5_init 44 = .ok (.aload_n 1, 1) := by decide +kernel
theorem dX5_init_45 : decode cX5_init 45 = .ok (.putfield 30, 3) := by decide +kernel
theorem dX5_init_48 : decode cX5_init 48 = .ok (.return_, 1) := by decide +kernel
theorem dX5_copy_0 : decode cX5_copy 0 = .ok (.aload_n 1, 1) := by decide +kernel
theorem dX5_copy_1 : decode cX5_copy 1 = .ok (.getfield 9, 3) := by decide +kernel
theorem dX5_copy_4 : decode cX5_copy 4 = .ok (.iconst 0, 1) := by decide +kernel
theorem dX5_copy_5 : decode cX5_copy 5 = .ok (.aload_n 0, 1) := by decide +kernel
theorem dX5_copy_6 : decode cX5_copy 6 = .ok (.getfield 9, 3) := by decide +kernel
theorem dX5_copy_9 : decode cX5_copy 9 = .ok (.iconst 0, 1) := by decide +kernel
theorem dX5_copy_10 : decode cX5_copy 10 = .ok (.iconst 3, 1) := by decide +kernel
theorem dX5_copy_11 : decode cX5_copy 11 = .ok (.invokestatic 34, 3) := by decide +kernel
theorem dX5_copy_14 : decode cX5_copy 14 = .ok (.aload_n 1, 1) := by decide +kernel
theorem dX5_copy_15 : decode cX5_copy 15 = .ok (.getfield 15, 3) := by decide +kernel
theorem dX5_copy_18 : decode cX5_copy 18 = .ok (.iconst 0, 1) := by decide +kernel
theorem dX5_copy_19 : decode cX5_copy 19 = .ok (.aload_n 0, 1) := by decide +kernel
theorem dX5_copy_20 : decode cX5_copy 20 = .ok (.getfield 15, 3) := by decide +kernel
theorem dX5_copy_23 : decode cX5_copy 23 = .ok (.iconst 0, 1) := by decide +kernel
theorem dX5_copy_24 : decode cX5_copy 24 = .ok (.iconst 3, 1) := by decide +kernel
theorem dX5_copy_25 : decode cX5_copy 25 = .ok (.invokestatic 34, 3) := by decide +kernel
theorem dX5_copy_28 : decode cX5_copy 28 = .ok (.aload_n 1, 1) := by decide +kernel
theorem dX5_copy_29 : decode cX5_copy 29 = .ok (.getfield 18, 3) := by decide +kernel
theorem dX5_copy_32 : decode cX5_copy 32 = .ok (.iconst 0, 1) := by decide +kernel
theorem dX5_copy_33 : decode cX5_copy 33 = .ok (.aload_n 0, 1) := by decide +kernel
theorem dX5_copy_34 : decode cX5_copy 34 = .ok (.getfield 18, 3) := by decide +kernel
theorem dX5_copy_37 : decode cX5_copy 37 = .ok (.iconst 0, 1) := by decide +kernel
theorem dX5_copy_38 : decode cX5_copy 38 = .ok (.bipush 100, 2) := by decide +kernel
theorem dX5_copy_40 : decode cX5_copy 40 = .ok (.invokestatic 34, 3) := by decide +kernel
theorem dX5_copy_43 : decode cX5_copy 43 = .ok (.aload_n 1, 1) := by decide +kernel
theorem dX5_copy_44 : decode cX5_copy 44 = .ok (.getfield 27, 3) := by decide +kernel
theorem dX5_copy_47 : decode cX5_copy 47 = .ok (.iconst 0, 1) := by decide +kernel
theorem dX5_copy_48 : decode cX5_copy 48 = .ok (.aload_n 0, 1) := by decide +kernel
theorem dX5_copy_49 : decode cX5_copy 49 = .ok (.getfield 27, 3) := by decide +kernel
theorem dX5_copy_52 : decode cX5_copy 52 = .ok (.iconst 0, 1) := by decide +kernel
theorem dX5_copy_53 : decode cX5_copy 53 = .ok (.bipush 12, 2) := by decide +kernel
theorem dX5_copy_55 : decode cX5_copy 55 = .ok (.invokestatic 34, 3) := by decide +kernel
theorem dX5_copy_58 : decode cX5_copy 58 = .ok (.iconst 0, 1) := by decide +kernel
theorem dX5_copy_59 : decode cX5_copy 59 = .ok (.istore_n 2, 1) := by decide +kernel
theorem dX5_copy_60 : decode cX5_copy 60 = .ok (.iload_n 2, 1) := by decide +kernel
theorem dX5_copy_61 : decode cX5_copy 61 = .ok (.bipush 8, 2) := by decide +kernel
theorem dX5_copy_63 : decode cX5_copy 63 = .ok (.if_icmp .ge 21, 3) := by decide +kernel
theorem dX5_copy_66 : decode cX5_copy 66 = .ok (.aload_n 0, 1) := by decide +kernel
theorem dX5_copy_67 : decode cX5_copy 67 = .ok (.getfield 23, 3) := by decide +kernel
theorem dX5_copy_70 : decode cX5_copy 70 = .ok (.iload_n 2, 1) := by decide +kernel
theorem dX5_copy_71 : decode cX5_copy 71 = .ok (.aload_n 1, 1) := by decide +kernel
theorem dX5_copy_72 : decode cX5_copy 72 = .ok (.getfield 23, 3) := by decide +kernel
theorem dX5_copy_75 : decode cX5_copy 75 = .ok (.iload_n 2, 1) := by decide +kernel
theorem dX5_copy_76 : decode cX5_copy 76 = .ok (.aaload, 1) := by decide +kernel
theorem dX5_copy_77 : decode cX5_copy 77 = .ok (.aastore, 1) := by decide +kernel
theorem dX5_copy_78 : decode cX5_copy 78 = .ok (.iinc 2 1, 3) := by decide +kernel
theorem dX5_copy_81 : decode cX5_copy 81 = .ok (.goto (-21), 3) := by decide +kernel
theorem dX5_copy_84 : decode cX5_copy 84 = .ok (.aload_n 0, 1) := by decide +kernel
theorem dX5_copy_85 : decode cX5_copy 85 = .ok (.aload_n 1, 1) := by decide +kernel
theorem dX5_copy_86 : decode cX5_copy 86 = .ok (.getfield 40, 3) := by decide +kernel
theorem dX5_copy_89 : decode cX5_copy 89 = .ok (.putfield 40, 3) := by decide +kernel
theorem dX5_copy_92 : decode cX5_copy 92 = .ok (.aload_n 0, 1) := by decide +kernel
theorem dX5_copy_93 : decode cX5_copy 93 = .ok (.aload_n 1, 1) := by decide +kernel
theorem dX5_copy_94 : decode cX5_copy 94 = .ok (.getfield 44, 3) := by decide +kernel
theorem dX5_copy_97 : decode cX5_copy 97 = .ok (.putfield 44, 3) := by decide +kernel
theorem dX5_copy_100 : decode cX5_copy 100 = .ok (.aload_n 0, 1) := by decide +kernel
theorem dX5_copy_101 : decode cX5_copy 101 = .ok (.aload_n 1, 1) := by decide +kernel
theorem dX5_copy_102 : decode cX5_copy 102 = .ok (.getfield 47, 3) := by decide +kernel
theorem dX5_copy_105 : decode cX5_copy 105 = .ok (.putfield 47, 3) := by decide +kernel
theorem dX5_copy_108 : decode cX5_copy 108 = .ok (.aload_n 0, 1) := by decide +kernel
theorem dX5_copy_109 : decode cX5_copy 109 = .ok (.aload_n 1, 1) := by decide +kernel
theorem dX5_copy_110 : decode cX5_copy 110 = .ok (.getfield 30, 3) := by decide +kernel
theorem dX5_copy_113 : decode cX5_copy 113 = .ok (.putfield 30, 3) := by decide +kernel
theorem dX5_copy_116 : decode cX5_copy 116 = .ok (.aload_n 0, 1) := by decide +kernel
theorem dX5_copy_117 : decode cX5_copy 117 = .ok (.aload_n 1, 1) := by decide +kernel
theorem dX5_copy_118 : decode cX5_copy 118 = .ok (.getfield 50, 3) := by decide +kernel
theorem dX5_copy_121 : decode cX5_copy 121 = .ok (.putfield 50, 3) := by decide +kernel
theorem dX5_copy_124 : decode cX5_copy 124 = .ok (.aload_n 0, 1) := by decide +kernel
theorem dX5_copy_125 : decode cX5_copy 125 = .ok (.aload_n 1, 1) := by decide +kernel
theorem dX5_copy_126 : decode cX5_copy 126 = .ok (.getfield 53, 3) := by decide +kernel
theorem dX5_copy_129 : decode cX5_copy 129 = .ok (.putfield 53, 3) := by decide +kernel
theorem dX5_copy_132 : decode cX5_copy 132 = .ok (.aload_n 0, 1) := by decide +kernel
theorem dX5_copy_133 : decode cX5_copy 133 = .ok (.aload_n 1, 1) := by decide +kernel
theorem dX5_copy_134 : decode cX5_copy 134 = .ok (.getfield 56, 3) := by decide +kernel
theorem dX5_copy_137 : decode cX5_copy 137 = .ok (.putfield 56, 3) := by decide +kernel
theorem dX5_copy_140 : decode cX5_copy 140 = .ok (.return_, 1) := by decide +kernel
theorem dX6_init_0 : decode cX6_init 0 = .ok (.aload_n 0, 1) := by decide +kernel
theorem dX6_init_1 : decode cX6_init 1 = .ok (.iload_n 1, 1) := by decide +kernel
theorem dX6_init_2 : decode cX6_init 2 = .ok (.iload_n 2, 1) := by decide +kernel
theorem dX6_init_3 : decode cX6_init 3 = .ok (.iload_n 3, 1) := by decide +kernel
theorem dX6_init_4 : decode cX6_init 4 = .ok (.invokespecial 3, 3) := by decide +kernel
theorem dX6_init_7 : decode cX6_init 7 = .ok (.return_, 1) := by decide +kernel
theorem dX6_does_0 : decode cX6_does 0 = .ok (.aload_n 1, 1) := by decide +kernel
theorem dX6_does_1 : decode cX6_does 1 = .ok (.iload_n 2, 1) := by decide +kernel
theorem dX6_does_2 : decode cX6_does 2 = .ok (.iload_n 3, 1) := by decide +kernel
theorem dX6_does_3 : decode cX6_does 3 = .ok (.invokevirtual 9, 3) := by decide +kernel
theorem dX6_does_6 : decode cX6_does 6 = .ok (.istore 4, 2) := by decide +kernel
theorem dX6_does_8 : decode cX6_does 8 = .ok (.iconst 0, 1) := by decide +kernel
theorem dX6_does_9 : decode cX6_does 9 = .ok (.istore 5, 2) := by decide +kernel
theorem dX6_does_11 : decode cX6_does 11 = .ok (.iload 5, 2) := by decide +kernel
theorem dX6_does_13 : decode cX6_does 13 = .ok (.iconst 3, 1) := by decide +kernel
theorem dX6_does_14 : decode cX6_does 14 = .ok (.if_icmp .ge 26, 3) := by decide +kernel
theorem dX6_does_17 : decode cX6_does 17 = .ok (.iload 4, 2) := by decide +kernel
theorem dX6_does_19 : decode cX6_does 19 = .ok (.iload 5, 2) := by decide +kernel
theorem dX6_does_21 : decode cX6_does 21 = .ok (.iconst 2, 1) := by decide +kernel
theorem dX6_does_22 : decode cX6_does 22 = .ok (.imul, 1) := by decide +kernel
theorem dX6_does_23 : decode cX6_does 23 = .ok (.iconst 1, 1) := by decide +kernel
theorem dX6_does_24 : decode cX6_does 24 = .ok (.iadd, 1) := by decide +kernel
theorem dX6_does_25 : decode cX6_does 25 = .ok (.invokestatic 15, 3) := by decide +kernel
theorem dX6_does_28 : decode cX6_does 28 = .ok (.ifCond .eq 6, 3) := by decide +kernel
theorem dX6_does_31 : decode cX6_does 31 = .ok (.iload 5, 2) := by decide +kernel
theorem dX6_does_33 : decode cX6_does 33 = .ok (.ireturn, 1) := by decide +kernel
theorem dX6_does_34 : decode cX6_does 34 = .ok (.iinc 5 1, 3) := by decide +kernel
theorem dX6_does_37 : decode cX6_does 37 = .ok (.goto (-26), 3) := by decide +kernel
theorem dX6_does_40 : decode cX6_does 40 = .ok (.aload_n 0, 1) := by decide +kernel
theorem dX6_does_41 : decode cX6_does 41 = .ok (.aload_n 1, 1) := by decide +kernel
theorem dX6_does_42 : decode cX6_does 42 = .ok (.iload_n 2, 1) := by decide +kernel
theorem dX6_does_43 : decode cX6_does 43 = .ok (.iload_n 3, 1) := by decide +kernel
theorem dX6_does_44 : decode cX6_does 44 = .ok (.invokespecial 19, 3) := by decide +kernel
theorem dX6_does_47 : decode cX6_does 47 = .ok (.ireturn, 1) := by decide +kernel
theorem dX6_tells_0 : decode cX6_tells 0 = .ok (.bipush 41, 2) := by decide +kernel
theorem dX6_tells_2 : decode cX6_tells 2 = .ok (.aload_n 2, 1) := by decide +kernel
theorem dX6_tells_3 : decode cX6_tells 3 = .ok (.invokestatic 23, 3) := by decide +kernel
theorem dX6_tells_6 : decode cX6_tells 6 = .ok (.aload_n 0, 1) := by decide +kernel
theorem dX6_tells_7 : decode cX6_tells 7 = .ok (.iload_n 1, 1) := by decide +kernel
theorem dX6_tells_8 : decode cX6_tells 8 = .ok (.iconst 1, 1) := by decide +kernel
theorem dX6_tells_9 : decode cX6_tells 9 = .ok (.isub, 1) := by decide +kernel
theorem dX6_tells_10 : decode cX6_tells 10 = .ok (.aload_n 2, 1) := by decide +kernel
theorem dX6_tells_11 : decode cX6_tells 11 = .ok (.invokespecial 29, 3) := by decide +kernel
theorem dX6_tells_14 : decode cX6_tells 14 = .ok (.aload_n 0, 1) := by decide +kernel
theorem dX6_tells_15 : decode cX6_tells 15 = .ok (.iconst 2, 1) := by decide +kernel
theorem dX6_tells_16 : decode cX6_tells 16 = .ok (.aload_n 2, 1) := by decide +kernel
theorem dX6_tells_17 : decode cX6_tells 17 = .ok (.invokevirtual 33, 3) := by decide +kernel
theorem dX6_tells_20 : decode cX6_tells 20 = .ok (.iadd, 1) := by decide +kernel
theorem dX6_tells_21 : decode cX6_tells 21 = .ok (.ireturn, 1) := by decide +kernel
theorem dX7_init_0 : decode cX7_init 0 = .ok (.aload_n 0, 1) := by decide +kernel
theorem dX7_init_1 : decode cX7_init 1 = .ok (.bipush 6, 2) := by decide +kernel
theorem dX7_init_3 : decode cX7_init 3 = .ok (.iload_n 1, 1) := by decide +kernel
theorem dX7_init_4 : decode cX7_init 4 = .ok (.iload_n 2, 1) := by decide +kernel
theorem dX7_init_5 : decode cX7_init 5 = .ok (.invokespecial 3, 3) := by decide +kernel
theorem dX7_init_8 : decode cX7_init 8 = .ok (.aload_n 0, 1) := by decide +kernel
theorem dX7_init_9 : decode cX7_init 9 = .ok (.iload_n 3, 1) := by decide +kernel
theorem dX7_init_10 : decode cX7_init 10 = .ok (.putfield 9, 3) := by decide +kernel
theorem dX7_init_13 : decode cX7_init 13 = .ok (.return_, 1) := by decide +kernel
theorem dX7_toldFor_0 : decode cX7_toldFor 0 = .ok (.aload_n 0, 1) := by decide +kernel
theorem dX7_toldFor_1 : decode cX7_toldFor 1 = .ok (.getfield 9, 3) := by decide +kernel
theorem dX7_toldFor_4 : decode cX7_toldFor 4 = .ok (.iconst 2, 1) := by decide +kernel
theorem dX7_toldFor_5 : decode cX7_toldFor 5 = .ok (.iload_n 1, 1) := by decide +kernel
theorem dX7_toldFor_6 : decode cX7_toldFor 6 = .ok (.imul, 1) := by decide +kernel
theorem dX7_toldFor_7 : decode cX7_toldFor 7 = .ok (.ishr, 1) := by decide +kernel
theorem dX7_toldFor_8 : decode cX7_toldFor 8 = .ok (.iconst 3, 1) := by decide +kernel
theorem dX7_toldFor_9 : decode cX7_toldFor 9 = .ok (.iand, 1) := by decide +kernel
theorem dX7_toldFor_10 : decode cX7_toldFor 10 = .ok (.ireturn, 1) := by decide +kernel
theorem dX7_telling_0 : decode cX7_telling 0 = .ok (.aload_n 0, 1) := by decide +kernel
theorem dX7_telling_1 : decode cX7_telling 1 = .ok (.getfield 9, 3) := by decide +kernel
theorem dX7_telling_4 : decode cX7_telling 4 = .ok (.iconst 3, 1) := by decide +kernel
theorem dX7_telling_5 : decode cX7_telling 5 = .ok (.iconst 2, 1) := by decide +kernel
theorem dX7_telling_6 : decode cX7_telling 6 = .ok (.iload_n 1, 1) := by decide +kernel
theorem dX7_telling_7 : decode cX7_telling 7 = .ok (.imul, 1) := by decide +kernel
theorem dX7_telling_8 : decode cX7_telling 8 = .ok (.ishl, 1) := by decide +kernel
theorem dX7_telling_9 : decode cX7_telling 9 = .ok (.iconst (-1), 1) := by decide +kernel
theorem dX7_telling_10 : decode cX7_telling 10 = .ok (.ixor, 1) := by decide +kernel
theorem dX7_telling_11 : decode cX7_telling 11 = .ok (.iand, 1) := by decide +kernel
theorem dX7_telling_12 : decode cX7_telling 12 = .ok (.istore_n 3, 1) := by decide +kernel
theorem dX7_telling_13 : decode cX7_telling 13 = .ok (.new 10, 3) := by decide +kernel
theorem dX7_telling_16 : decode cX7_telling 16 = .ok (.dup, 1) := by decide +kernel
theorem dX7_telling_17 : decode cX7_telling 17 = .ok (.aload_n 0, 1) := by decide +kernel
theorem dX7_telling_18 : decode cX7_telling 18 = .ok (.getfield 15, 3) := by decide +kernel
theorem dX7_telling_21 : decode cX7_telling 21 = .ok (.aload_n 0, 1) := by decide +kernel
theorem dX7_telling_22 : decode cX7_telling 22 = .ok (.getfield 18, 3) := by decide +kernel
theorem dX7_telling_25 : decode cX7_telling 25 = .ok (.iload_n 3, 1) := by decide +kernel
theorem dX7_telling_26 : decode cX7_telling 26 = .ok (.iload_n 2, 1) := by decide +kernel
theorem dX7_telling_27 : decode cX7_telling 27 = .ok (.iconst 2, 1) := by decide +kernel
theorem dX7_telling_28 : decode cX7_telling 28 = .ok (.iload_n 1, 1) := by decide +kernel
theorem dX7_telling_29 : decode cX7_telling 29 = .ok (.imul, 1) := by decide +kernel
theorem dX7_telling_30 : decode cX7_telling 30 = .ok (.ishl, 1) := by decide +kernel
theorem dX7_telling_31 : decode cX7_telling 31 = .ok (.ior, 1) := by decide +kernel
theorem dX7_telling_32 : decode cX7_telling 32 = .ok (.invokespecial 21, 3) := by decide +kernel
theorem dX7_telling_35 : decode cX7_telling 35 = .ok (.areturn, 1) := by decide +kernel
theorem dX7_does_0 : decode cX7_does 0 = .ok (.aload_n 0, 1) := by decide +kernel
theorem dX7_does_1 : decode cX7_does 1 = .ok (.iload_n 2, 1) := by decide +kernel
theorem dX7_does_2 : decode cX7_does 2 = .ok (.invokevirtual 22, 3) := by decide +kernel
theorem dX7_does_5 : decode cX7_does 5 = .ok (.istore 4, 2) := by decide +kernel
theorem dX7_does_7 : decode cX7_does 7 = .ok (.aload_n 1, 1) := by decide +kernel
theorem dX7_does_8 : decode cX7_does 8 = .ok (.iload_n 2, 1) := by decide +kernel
theorem dX7_does_9 : decode cX7_does 9 = .ok (.iload_n 3, 1) := by decide +kernel
theorem dX7_does_10 : decode cX7_does 10 = .ok (.invokevirtual 26, 3) := by decide +kernel
theorem dX7_does_13 : decode cX7_does 13 = .ok (.iload 4, 2) := by decide +kernel
theorem dX7_does_15 : decode cX7_does 15 = .ok (.invokestatic 32, 3) := by decide +kernel
theorem dX7_does_18 : decode cX7_does 18 = .ok (.ifCond .eq 6, 3) := by decide +kernel
theorem dX7_does_21 : decode cX7_does 21 = .ok (.iload 4, 2) := by decide +kernel
theorem dX7_does_23 : decode cX7_does 23 = .ok (.ireturn, 1) := by decide +kernel
theorem dX7_does_24 : decode cX7_does 24 = .ok (.aload_n 0, 1) := by decide +kernel
theorem dX7_does_25 : decode cX7_does 25 = .ok (.aload_n 1, 1) := by decide +kernel
theorem dX7_does_26 : decode cX7_does 26 = .ok (.iload_n 2, 1) := by decide +kernel
theorem dX7_does_27 : decode cX7_does 27 = .ok (.iload_n 3, 1) := by decide +kernel
theorem dX7_does_28 : decode cX7_does 28 = .ok (.invokespecial 36, 3) := by decide +kernel
theorem dX7_does_31 : decode cX7_does 31 = .ok (.ireturn, 1) := by decide +kernel
theorem dX7_cuts_0 : decode cX7_cuts 0 = .ok (.bipush 61, 2) := by decide +kernel
theorem dX7_cuts_2 : decode cX7_cuts 2 = .ok (.aload_n 2, 1) := by decide +kernel
theorem dX7_cuts_3 : decode cX7_cuts 3 = .ok (.invokestatic 40, 3) := by decide +kernel
theorem dX7_cuts_6 : decode cX7_cuts 6 = .ok (.aload_n 0, 1) := by decide +kernel
theorem dX7_cuts_7 : decode cX7_cuts 7 = .ok (.iload_n 1, 1) := by decide +kernel
theorem dX7_cuts_8 : decode cX7_cuts 8 = .ok (.aload_n 2, 1) := by decide +kernel
theorem dX7_cuts_9 : decode cX7_cuts 9 = .ok (.invokespecial 44, 3) := by decide +kernel
theorem dX7_cuts_12 : decode cX7_cuts 12 = .ok (.aload_n 0, 1) := by decide +kernel
theorem dX7_cuts_13 : decode cX7_cuts 13 = .ok (.getfield 18, 3) := by decide +kernel
theorem dX7_cuts_16 : decode cX7_cuts 16 = .ok (.iadd, 1) := by decide +kernel
theorem dX7_cuts_17 : decode cX7_cuts 17 = .ok (.ireturn, 1) := by decide +kernel
theorem dX8_init_0 : decode cX8_init 0 = .ok (.aload_n 0, 1) := by decide +kernel
theorem dX8_init_1 : decode cX8_init 1 = .ok (.invokespecial 3, 3) := by decide +kernel
theorem dX8_init_4 : decode cX8_init 4 = .ok (.aload_n 0, 1) := by decide +kernel
theorem dX8_init_5 : decode cX8_init 5 = .ok (.aload_n 1, 1) := by decide +kernel
theorem dX8_init_6 : decode cX8_init 6 = .ok (.putfield 9, 3) := by decide +kernel
theorem dX8_init_9 : decode cX8_init 9 = .ok (.aload_n 0, 1) := by decide +kernel
theorem dX8_init_10 : decode cX8_init 10 = .ok (.aload_n 2, 1) := by decide +kernel
theorem dX8_init_11 : decode cX8_init 11 = .ok (.putfield 15, 3) := by decide +kernel
theorem dX8_init_14 : decode cX8_init 14 = .ok (.aload_n 0, 1) := by decide +kernel
theorem dX8_init_15 : decode cX8_init 15 = .ok (.aload_n 3, 1) := by decide +kernel
theorem dX8_init_16 : decode cX8_init 16 = .ok (.putfield 18, 3) := by decide +kernel
theorem dX8_init_19 : decode cX8_init 19 = .ok (.aload_n 0, 1) := by decide +kernel
theorem dX8_init_20 : decode cX8_init 20 = .ok (.aload 4, 2) := by decide +kernel
theorem dX8_init_22 : decode cX8_init 22 = .ok (.putfield 21, 3) := by decide +kernel
theorem dX8_init_25 : decode cX8_init 25 = .ok (.aload_n 0, 1) := by decide +kernel
theorem dX8_init_26 : decode cX8_init 26 = .ok (.iload 5, 2) := by decide +kernel
theorem dX8_init_28 : decode cX8_init 28 = .ok (.putfield 24, 3) := by decide +kernel
theorem dX8_init_31 : decode cX8_init 31 = .ok (.return_, 1) := by decide +kernel
theorem dX8_gain_0 : decode cX8_gain 0 = .ok (.iload_n 1, 1) := by decide +kernel
theorem dX8_gain_1 : decode cX8_gain 1 = .ok (.ifCond .lt 8, 3) := by decide +kernel
theorem dX8_gain_4 : decode cX8_gain 4 = .ok (.iload_n 1, 1) := by decide +kernel
theorem dX8_gain_5 : decode cX8_gain 5 = .ok (.iconst 3, 1) := by decide +kernel
theorem dX8_gain_6 : decode cX8_gain 6 = .ok (.if_icmp .lt 5, 3) := by decide +kernel
theorem dX8_gain_9 : decode cX8_gain 9 = .ok (.iconst 0, 1) := by decide +kernel
theorem dX8_gain_10 : decode cX8_gain 10 = .ok (.ireturn, 1) := by decide +kernel
theorem dX8_gain_11 : decode cX8_gain 11 = .ok (.getstatic 28, 3) := by decide +kernel
theorem dX8_gain_14 : decode cX8_gain 14 = .ok (.iload_n 2, 1) := by decide +kernel
theorem dX8_gain_15 : decode cX8_gain 15 = .ok (.iaload, 1) := by decide +kernel
theorem dX8_gain_16 : decode cX8_gain 16 = .ok (.iload_n 1, 1) := by decide +kernel
theorem dX8_gain_17 : decode cX8_gain 17 = .ok (.iconst 2, 1) := by decide +kernel
theorem dX8_gain_18 : decode cX8_gain 18 = .ok (.imul, 1) := by decide +kernel
theorem dX8_gain_19 : decode cX8_gain 19 = .ok (.iconst 1, 1) := by decide +kernel
theorem dX8_gain_20 : decode cX8_gain 20 = .ok (.iadd, 1) := by decide +kernel
theorem dX8_gain_21 : decode cX8_gain 21 = .ok (.invokestatic 31, 3) := by decide +kernel
theorem dX8_gain_24 : decode cX8_gain 24 = .ok (.ifCond .eq 12, 3) := by decide +kernel
theorem dX8_gain_27 : decode cX8_gain 27 = .ok (.aload_n 0, 1) := by decide +kernel
theorem dX8_gain_28 : decode cX8_gain 28 = .ok (.getfield 21, 3) := by decide +kernel
theorem dX8_gain_31 : decode cX8_gain 31 = .ok (.iload_n 1, 1) := by decide +kernel
theorem dX8_gain_32 : decode cX8_gain 32 = .ok (.iaload, 1) := by decide +kernel
theorem dX8_gain_33 : decode cX8_gain 33 = .ok (.goto 4, 3) := by decide +kernel
theorem dX8_gain_36 : decode cX8_gain 36 = .ok (.iconst 0, 1) := by decide +kernel
theorem dX8_gain_37 : decode cX8_gain 37 = .ok (.ireturn, 1) := by decide +kernel
theorem dX8_opened_0 : decode cX8_opened 0 = .ok (.iconst 0, 1) := by decide +kernel
theorem dX8_opened_1 : decode cX8_opened 1 = .ok (.istore_n 2, 1) := by decide +kernel
theorem dX8_opened_2 : decode cX8_opened 2 = .ok (.iconst 0, 1) := by decide +kernel
theorem dX8_opened_3 : decode cX8_opened 3 = .ok (.istore_n 3, 1) := by decide +kernel
theorem dX8_opened_4 : decode cX8_opened 4 = .ok (.iconst 0, 1) := by decide +kernel
theorem dX8_opened_5 : decode cX8_opened 5 = .ok (.istore 4, 2) := by decide +kernel
theorem dX8_opened_7 : decode cX8_opened 7 = .ok (.iload 4, 2) := by decide +kernel
theorem dX8_opened_9 : decode cX8_opened 9 = .ok (.aload_n 0, 1) := by decide +kernel
theorem dX8_opened_10 : decode cX8_opened 10 = .ok (.getfield 15, 3) := by decide +kernel
theorem dX8_opened_13 : decode cX8_opened 13 = .ok (.arraylength, 1) := by decide +kernel
theorem dX8_opened_14 : decode cX8_opened 14 = .ok (.if_icmp .ge 70, 3) := by decide +kernel
theorem dX8_opened_17 : decode cX8_opened 17 = .ok (.iconst 0, 1) := by decide +kernel
theorem dX8_opened_18 : decode cX8_opened 18 = .ok (.istore 5, 2) := by decide +kernel
theorem dX8_opened_20 : decode cX8_opened 20 = .ok (.iload 5, 2) := by decide +kernel
theorem dX8_opened_22 : decode cX8_opened 22 = .ok (.iconst 2, 1) := by decide +kernel
theorem dX8_opened_23 : decode cX8_opened 23 = .ok (.if_icmp .ge 47, 3) := by decide +kernel
theorem dX8_opened_26 : decode cX8_opened 26 = .ok (.aload_n 1, 1) := by decide +kernel
theorem dX8_opened_27 : decode cX8_opened 27 = .ok (.iconst 1, 1) := by decide +kernel
theorem dX8_opened_28 : decode cX8_opened 28 = .ok (.iload 5, 2) := by decide +kernel
theorem dX8_opened_30 : decode cX8_opened 30 = .ok (.iastore, 1) := by decide +kernel
theorem dX8_opened_31 : decode cX8_opened 31 = .ok (.aload_n 0, 1) := by decide +kernel
theorem dX8_opened_32 : decode cX8_opened 32 = .ok (.iload_n 3, 1) := by decide +kernel
theorem dX8_opened_33 : decode cX8_opened 33 = .ok (.aload_n 0, 1) := by decide +kernel
theorem dX8_opened_34 : decode cX8_opened 34 = .ok (.getfield 18, 3) := by decide +kernel
theorem dX8_opened_37 : decode cX8_opened 37 = .ok (.iload 4, 2) := by decide +kernel
theorem dX8_opened_39 : decode cX8_opened 39 = .ok (.iaload, 1) := by decide +kernel
theorem dX8_opened_40 : decode cX8_opened 40 = .ok (.aload_n 1, 1) := by decide +kernel
theorem dX8_opened_41 : decode cX8_opened 41 = .ok (.invokevirtual 35, 3) := by decide +kernel
theorem dX8_opened_44 : decode cX8_opened 44 = .ok (.ifCond .eq 20, 3) := by decide +kernel
theorem dX8_opened_47 : decode cX8_opened 47 = .ok (.iload_n 2, 1) := by decide +kernel
theorem dX8_opened_48 : decode cX8_opened 48 = .ok (.iconst 1, 1) := by decide +kernel
theorem dX8_opened_49 : decode cX8_opened 49 = .ok (.aload_n 0, 1) := by decide +kernel
theorem dX8_opened_50 : decode cX8_opened 50 = .ok (.getfield 15, 3) := by decide +kernel
theorem dX8_opened_53 : decode cX8_opened 53 = .ok (.iload 4, 2) := by decide +kernel
theorem dX8_opened_55 : decode cX8_opened 55 = .ok (.iaload, 1) := by decide +kernel
theorem dX8_opened_56 : decode cX8_opened 56 = .ok (.iconst 2, 1) := by decide +kernel
theorem dX8_opened_57 : decode cX8_opened 57 = .ok (.imul, 1) := by decide +kernel
theorem dX8_opened_58 : decode cX8_opened 58 = .ok (.iload 5, 2) := by decide +kernel
theorem dX8_opened_60 : decode cX8_opened 60 = .ok (.iadd, 1) := by decide +kernel
theorem dX8_opened_61 : decode cX8_opened 61 = .ok (.ishl, 1) := by decide +kernel
theorem dX8_opened_62 : decode cX8_opened 62 = .ok (.ior, 1) := by decide +kernel
theorem dX8_opened_63 : decode cX8_opened 63 = .ok (.istore_n 2, 1) := by decide +kernel
theorem dX8_opened_64 : decode cX8_opened 64 = .ok (.iinc 5 1, 3) := by decide +kernel
theorem dX8_opened_67 : decode cX8_opened 67 = .ok (.goto (-47), 3) := by decide +kernel
theorem dX8_opened_70 : decode cX8_opened 70 = .ok (.aload_n 0, 1) := by decide +kernel
theorem dX8_opened_71 : decode cX8_opened 71 = .ok (.getfield 18, 3) := by decide +kernel
theorem dX8_opened_74 : decode cX8_opened 74 = .ok (.iload 4, 2) := by decide +kernel
theorem dX8_opened_76 : decode cX8_opened 76 = .ok (.iaload, 1) := by decide +kernel
theorem dX8_opened_77 : decode cX8_opened 77 = .ok (.istore_n 3, 1) := by decide +kernel
theorem dX8_opened_78 : decode cX8_opened 78 = .ok (.iinc 4 1, 3) := by decide +kernel
theorem dX8_opened_81 : decode cX8_opened 81 = .ok (.goto (-74), 3) := by decide +kernel
theorem dX8_opened_84 : decode cX8_opened 84 = .ok (.iload_n 2, 1) := by decide +kernel
theorem dX8_opened_85 : decode cX8_opened 85 = .ok (.ireturn, 1) := by decide +kernel
theorem dX8_holds_0 : decode cX8_holds 0 = .ok (.iconst 0, 1) := by decide +kernel
theorem dX8_holds_1 : decode cX8_holds 1 = .ok (.istore 4, 2) := by decide +kernel
theorem dX8_holds_3 : decode cX8_holds 3 = .ok (.iload_n 1, 1) := by decide +kernel
theorem dX8_holds_4 : decode cX8_holds 4 = .ok (.istore 5, 2) := by decide +kernel
theorem dX8_holds_6 : decode cX8_holds 6 = .ok (.iload 5, 2) := by decide +kernel
theorem dX8_holds_8 : decode cX8_holds 8 = .ok (.iload_n 2, 1) := by decide +kernel
theorem dX8_holds_9 : decode cX8_holds 9 = .ok (.if_icmp .ge 145, 3) := by decide +kernel
theorem dX8_holds_12 : decode cX8_holds 12 = .ok (.aload_n 0, 1) := by decide +kernel
theorem dX8_holds_13 : decode cX8_holds 13 = .ok (.getfield 9, 3) := by decide +kernel
theorem dX8_holds_16 : decode cX8_holds 16 = .ok (.iload 5, 2) := by decide +kernel
theorem dX8_holds_18 : decode cX8_holds 18 = .ok (.iaload, 1) := by decide +kernel
theorem dX8_holds_19 : decode cX8_holds 19 = .ok (.istore 6, 2) := by decide +kernel
theorem dX8_holds_21 : decode cX8_holds 21 = .ok (.iload 4, 2) := by decide +kernel
theorem dX8_holds_23 : decode cX8_holds 23 = .ok (.iconst 1, 1) := by decide +kernel
theorem dX8_holds_24 : decode cX8_holds 24 = .ok (.iand, 1) := by decide +kernel
theorem dX8_holds_25 : decode cX8_holds 25 = .ok (.istore 7, 2) := by decide +kernel
theorem dX8_holds_27 : decode cX8_holds 27 = .ok (.iload 6, 2) := by decide +kernel
theorem dX8_holds_29 : decode cX8_holds 29 = .ok (.iconst (-1), 1) := by decide +kernel
theorem dX8_holds_30 : decode cX8_holds 30 = .ok (.if_icmp .ne 12, 3) := by decide +kernel
theorem dX8_holds_33 : decode cX8_holds 33 = .ok (.iload 4, 2) := by decide +kernel
theorem dX8_holds_35 : decode cX8_holds 35 = .ok (.iconst 1, 1) := by decide +kernel
theorem dX8_holds_36 : decode cX8_holds 36 = .ok (.ixor, 1) := by decide +kernel
theorem dX8_holds_37 : decode cX8_holds 37 = .ok (.istore 4, 2) := by decide +kernel
theorem dX8_holds_39 : decode cX8_holds 39 = .ok (.goto 109, 3) := by decide +kernel
theorem dX8_holds_42 : decode cX8_holds 42 = .ok (.iload 6, 2) := by decide +kernel
theorem dX8_holds_44 : decode cX8_holds 44 = .ok (.bipush (-2), 2) := by decide +kernel
theorem dX8_holds_46 : decode cX8_holds 46 = .ok (.if_icmp .ne 17, 3) := by decide +kernel
theorem dX8_holds_49 : decode cX8_holds 49 = .ok (.iload 4, 2) := by decide +kernel
theorem dX8_holds_51 : decode cX8_holds 51 = .ok (.iconst 1, 1) := by decide +kernel
theorem dX8_holds_52 : decode cX8_holds 52 = .ok (.ishr, 1) := by decide +kernel
theorem dX8_holds_53 : decode cX8_holds 53 = .ok (.iload 7, 2) := by decide +kernel
theorem dX8_holds_55 : decode cX8_holds 55 = .ok (.iconst 2, 1) := by decide +kernel
theorem dX8_holds_56 : decode cX8_holds 56 = .ok (.isub, 1) := by decide +kernel
theorem dX8_holds_57 : decode cX8_holds 57 = .ok (.iand, 1) := by decide +kernel
theorem dX8_holds_58 : decode cX8_holds 58 = .ok (.istore 4, 2) := by decide +kernel
theorem dX8_holds_60 : decode cX8_holds 60 = .ok (.goto 88, 3) := by decide +kernel
theorem dX8_holds_63 : decode cX8_holds 63 = .ok (.iload 6, 2) := by decide +kernel
theorem dX8_holds_65 : decode cX8_holds 65 = .ok (.bipush (-3), 2) := by decide +kernel
theorem dX8_holds_67 : decode cX8_holds 67 = .ok (.if_icmp .ne 15, 3) := by decide +kernel
theorem dX8_holds_70 : decode cX8_holds 70 = .ok (.iload 4, 2) := by decide +kernel
theorem dX8_holds_72 : decode cX8_holds 72 = .ok (.iconst 1, 1) := by decide +kernel
theorem dX8_holds_73 : decode cX8_holds 73 = .ok (.ishr, 1) := by decide +kernel
theorem dX8_holds_74 : decode cX8_holds 74 = .ok (.iload 7, 2) := by decide +kernel
theorem dX8_holds_76 : decode cX8_holds 76 = .ok (.ior, 1) := by decide +kernel
theorem dX8_holds_77 : decode cX8_holds 77 = .ok (.istore 4, 2) := by decide +kernel
theorem dX8_holds_79 : decode cX8_holds 79 = .ok (.goto 69, 3) := by decide +kernel
theorem dX8_holds_82 : decode cX8_holds 82 = .ok (.aload_n 3, 1) := by decide +kernel
theorem dX8_holds_83 : decode cX8_holds 83 = .ok (.iload 6, 2) := by decide +kernel
theorem dX8_holds_85 : decode cX8_holds 85 = .ok (.sipush 300, 3) := by decide +kernel
theorem dX8_holds_88 : decode cX8_holds 88 = .ok (.idiv, 1) := by decide +kernel
theorem dX8_holds_89 : decode cX8_holds 89 = .ok (.iaload, 1) := by decide +kernel
theorem dX8_holds_90 : decode cX8_holds 90 = .ok (.istore 8, 2) := by decide +kernel
theorem dX8_holds_92 : decode cX8_holds 92 = .ok (.iload 6, 2) := by decide +kernel
theorem dX8_holds_94 : decode cX8_holds 94 = .ok (.bipush 100, 2) := by decide +kernel
theorem dX8_holds_96 : decode cX8_holds 96 = .ok (.irem, 1) := by decide +kernel
theorem dX8_holds_97 : decode cX8_holds 97 = .ok (.istore 9, 2) := by decide +kernel
theorem dX8_holds_99 : decode cX8_holds 99 = .ok (.iload 8, 2) := by decide +kernel
theorem dX8_holds_101 : decode cX8_holds 101 = .ok (.iload 9, 2) := by decide +kernel
theorem dX8_holds_103 : decode cX8_holds 103 = .ok (.if_icmp .ge 7, 3) := by decide +kernel
theorem dX8_holds_106 : decode cX8_holds 106 = .ok (.iconst 0, 1) := by decide +kernel
theorem dX8_holds_107 : decode cX8_holds 107 = .ok (.goto 15, 3) := by decide +kernel
theorem dX8_holds_110 : decode cX8_holds 110 = .ok (.iload 8, 2) := by decide +kernel
theorem dX8_holds_112 : decode cX8_holds 112 = .ok (.iload 9, 2) := by decide +kernel
theorem dX8_holds_114 : decode cX8_holds 114 = .ok (.if_icmp .ne 7, 3) := by decide +kernel
theorem dX8_holds_117 : decode cX8_holds 117 = .ok (.iconst 1, 1) := by decide +kernel
theorem dX8_holds_118 : decode cX8_holds 118 = .ok (.goto 4, 3) := by decide +kernel
theorem dX8_holds_121 : decode cX8_holds 121 = .ok (.iconst 2, 1) := by decide +kernel
theorem dX8_holds_122 : decode cX8_holds 122 = .ok (.istore 10, 2) := by decide +kernel
theorem dX8_holds_124 : decode cX8_holds 124 = .ok (.iload 4, 2) := by decide +kernel
theorem dX8_holds_126 : decode cX8_holds 126 = .ok (.iconst 1, 1) := by decide +kernel
theorem dX8_holds_127 : decode cX8_holds 127 = .ok (.ishl, 1) := by decide +kernel
theorem dX8_holds_128 : decode cX8_holds 128 = .ok (.iload 10, 2) := by decide +kernel
theorem dX8_holds_130 : decode cX8_holds 130 = .ok (.iload 6, 2) := by decide +kernel
theorem dX8_holds_132 : decode cX8_holds 132 = .ok (.bipush 100, 2) := by decide +kernel
theorem dX8_holds_134 : decode cX8_holds 134 = .ok (.idiv, 1) := by decide +kernel
theorem dX8_holds_135 : decode cX8_holds 135 = .ok (.iconst 3, 1) := by decide +kernel
theorem dX8_holds_136 : decode cX8_holds 136 = .ok (.irem, 1) := by decide +kernel
theorem dX8_holds_137 : decode cX8_holds 137 = .ok (.if_icmp .ne 7, 3) := by decide +kernel
theorem dX8_holds_140 : decode cX8_holds 140 = .ok (.iconst 1, 1) := by decide +kernel
theorem dX8_holds_141 : decode cX8_holds 141 = .ok (.goto 4, 3) := by decide +kernel
theorem dX8_holds_144 : decode cX8_holds 144 = .ok (.iconst 0, 1) := by decide +kernel
theorem dX8_holds_145 : decode cX8_holds 145 = .ok (.ior, 1) := by decide +kernel
theorem dX8_holds_146 : decode cX8_holds 146 = .ok (.istore 4, 2) := by decide +kernel
theorem dX8_holds_148 : decode cX8_holds 148 = .ok (.iinc 5 1, 3) := by decide +kernel
theorem dX8_holds_151 : decode cX8_holds 151 = .ok (.goto (-145), 3) := by decide +kernel
theorem dX8_holds_154 : decode cX8_holds 154 = .ok (.iload 4, 2) := by decide +kernel
theorem dX8_holds_156 : decode cX8_holds 156 = .ok (.iconst 1, 1) := by decide +kernel
theorem dX8_holds_157 : decode cX8_holds 157 = .ok (.iand, 1) := by decide +kernel
theorem dX8_holds_158 : decode cX8_holds 158 = .ok (.iconst 1, 1) := by decide +kernel
theorem dX8_holds_159 : decode cX8_holds 159 = .ok (.if_icmp .ne 7, 3) := by decide +kernel
theorem dX8_holds_162 : decode cX8_holds 162 = .ok (.iconst 1, 1) := by decide +kernel
theorem dX8_holds_163 : decode cX8_holds 163 = .ok (.goto 4, 3) := by decide +kernel
theorem dX8_holds_166 : decode cX8_holds 166 = .ok (.iconst 0, 1) := by decide +kernel
theorem dX8_holds_167 : decode cX8_holds 167 = .ok (.ireturn, 1) := by decide +kernel
theorem dX8_test_0 : decode cX8_test 0 = .ok (.iload_n 0, 1) := by decide +kernel
theorem dX8_test_1 : decode cX8_test 1 = .ok (.iconst 3, 1) := by decide +kernel
theorem dX8_test_2 : decode cX8_test 2 = .ok (.imul, 1) := by decide +kernel
theorem dX8_test_3 : decode cX8_test 3 = .ok (.iload_n 1, 1) := by decide +kernel
theorem dX8_test_4 : decode cX8_test 4 = .ok (.iadd, 1) := by decide +kernel
theorem dX8_test_5 : decode cX8_test 5 = .ok (.bipush 100, 2) := by decide +kernel
theorem dX8_test_7 : decode cX8_test 7 = .ok (.imul, 1) := by decide +kernel
theorem dX8_test_8 : decode cX8_test 8 = .ok (.iload_n 2, 1) := by decide +kernel
theorem dX8_test_9 : decode cX8_test 9 = .ok (.iadd, 1) := by decide +kernel
theorem dX8_test_10 : decode cX8_test 10 = .ok (.ireturn, 1) := by decide +kernel
theorem dX9_init_0 : decode cX9_init 0 = .ok (.aload_n 0, 1) := by decide +kernel
theorem dX9_init_1 : decode cX9_init 1 = .ok (.iload_n 1, 1) := by decide +kernel
theorem dX9_init_2 : decode cX9_init 2 = .ok (.iload_n 2, 1) := by decide +kernel
theorem dX9_init_3 : decode cX9_init 3 = .ok (.iload_n 3, 1) := by decide +kernel
theorem dX9_init_4 : decode cX9_init 4 = .ok (.invokespecial 3, 3) := by decide +kernel
theorem dX9_init_7 : decode cX9_init 7 = .ok (.return_, 1) := by decide +kernel
theorem dX9_does_0 : decode cX9_does 0 = .ok (.aload_n 1, 1) := by decide +kernel
theorem dX9_does_1 : decode cX9_does 1 = .ok (.getfield 9, 3) := by decide +kernel
theorem dX9_does_4 : decode cX9_does 4 = .ok (.aload_n 0, 1) := by decide +kernel
theorem dX9_does_5 : decode cX9_does 5 = .ok (.getfield 15, 3) := by decide +kernel
theorem dX9_does_8 : decode cX9_does 8 = .ok (.if_icmp .gt 15, 3) := by decide +kernel
theorem dX9_does_11 : decode cX9_does 11 = .ok (.aload_n 1, 1) := by decide +kernel
theorem dX9_does_12 : decode cX9_does 12 = .ok (.iload_n 2, 1) := by decide +kernel
theorem dX9_does_13 : decode cX9_does 13 = .ok (.iload_n 3, 1) := by decide +kernel
theorem dX9_does_14 : decode cX9_does 14 = .ok (.invokevirtual 20, 3) := by decide +kernel
theorem dX9_does_17 : decode cX9_does 17 = .ok (.invokestatic 24, 3) := by decide +kernel
theorem dX9_does_20 : decode cX9_does 20 = .ok (.goto 4, 3) := by decide +kernel
theorem dX9_does_23 : decode cX9_does 23 = .ok (.iconst 3, 1) := by decide +kernel
theorem dX9_does_24 : decode cX9_does 24 = .ok (.ireturn, 1) := by decide +kernel
theorem dX9_tells_0 : decode cX9_tells 0 = .ok (.bipush 31, 2) := by decide +kernel
theorem dX9_tells_2 : decode cX9_tells 2 = .ok (.aload_n 2, 1) := by decide +kernel
theorem dX9_tells_3 : decode cX9_tells 3 = .ok (.invokestatic 28, 3) := by decide +kernel
theorem dX9_tells_6 : decode cX9_tells 6 = .ok (.aload_n 0, 1) := by decide +kernel
theorem dX9_tells_7 : decode cX9_tells 7 = .ok (.iload_n 1, 1) := by decide +kernel
theorem dX9_tells_8 : decode cX9_tells 8 = .ok (.aload_n 2, 1) := by decide +kernel
theorem dX9_tells_9 : decode cX9_tells 9 = .ok (.invokespecial 32, 3) := by decide +kernel
theorem dX9_tells_12 : decode cX9_tells 12 = .ok (.bipush 7, 2) := by decide +kernel
theorem dX9_tells_14 : decode cX9_tells 14 = .ok (.ixor, 1) := by decide +kernel
theorem dX9_tells_15 : decode cX9_tells 15 = .ok (.ireturn, 1) := by decide +kernel
theorem dX10_init_0 : decode cX10_init 0 = .ok (.aload_n 0, 1) := by decide +kernel
theorem dX10_init_1 : decode cX10_init 1 = .ok (.invokespecial 3, 3) := by decide +kernel
theorem dX10_init_4 : decode cX10_init 4 = .ok (.aload_n 0, 1) := by decide +kernel
theorem dX10_init_5 : decode cX10_init 5 = .ok (.iload_n 1, 1) := by decide +kernel
theorem dX10_init_6 : decode cX10_init 6 = .ok (.putfield 9, 3) := by decide +kernel
theorem dX10_init_9 : decode cX10_init 9 = .ok (.aload_n 0, 1) := by decide +kernel
theorem dX10_init_10 : decode cX10_init 10 = .ok (.iload_n 2, 1) := by decide +kernel
theorem dX10_init_11 : decode cX10_init 11 = .ok (.putfield 15, 3) := by decide +kernel
theorem dX10_init_14 : decode cX10_init 14 = .ok (.aload_n 0, 1) := by decide +kernel
theorem dX10_init_15 : decode cX10_init 15 = .ok (.iload_n 3, 1) := by decide +kernel
theorem dX10_init_16 : decode cX10_init 16 = .ok (.putfield 18, 3) := by decide +kernel
theorem dX10_init_19 : decode cX10_init 19 = .ok (.return_, 1) := by decide +kernel
theorem dX10_does_0 : decode cX10_does 0 = .ok (.iconst 3, 1) := by decide +kernel
theorem dX10_does_1 : decode cX10_does 1 = .ok (.ireturn, 1) := by decide +kernel
theorem dX10_sows_0 : decode cX10_sows 0 = .ok (.iconst 1, 1) := by decide +kernel
theorem dX10_sows_1 : decode cX10_sows 1 = .ok (.aload_n 2, 1) := by decide +kernel
theorem dX10_sows_2 : decode cX10_sows 2 = .ok (.invokestatic 21, 3) := by decide +kernel
theorem dX10_sows_5 : decode cX10_sows 5 = .ok (.iload_n 1, 1) := by decide +kernel
theorem dX10_sows_6 : decode cX10_sows 6 = .ok (.aload_n 0, 1) := by decide +kernel
theorem dX10_sows_7 : decode cX10_sows 7 = .ok (.getfield 15, 3) := by decide +kernel
theorem dX10_sows_10 : decode cX10_sows 10 = .ok (.iadd, 1) := by decide +kernel
theorem dX10_sows_11 : decode cX10_sows 11 = .ok (.ireturn, 1) := by decide +kernel
theorem dX10_cuts_0 : decode cX10_cuts 0 = .ok (.iconst 2, 1) := by decide +kernel
theorem dX10_cuts_1 : decode cX10_cuts 1 = .ok (.aload_n 2, 1) := by decide +kernel
theorem dX10_cuts_2 : decode cX10_cuts 2 = .ok (.invokestatic 21, 3) := by decide +kernel
theorem dX10_cuts_5 : decode cX10_cuts 5 = .ok (.aload_n 0, 1) := by decide +kernel
theorem dX10_cuts_6 : decode cX10_cuts 6 = .ok (.iload_n 1, 1) := by decide +kernel
theorem dX10_cuts_7 : decode cX10_cuts 7 = .ok (.aload_n 2, 1) := by decide +kernel
theorem dX10_cuts_8 : decode cX10_cuts 8 = .ok (.invokevirtual 25, 3) := by decide +kernel
theorem dX10_cuts_11 : decode cX10_cuts 11 = .ok (.aload_n 0, 1) := by decide +kernel
theorem dX10_cuts_12 : decode cX10_cuts 12 = .ok (.getfield 18, 3) := by decide +kernel
theorem dX10_cuts_15 : decode cX10_cuts 15 = .ok (.isub, 1) := by decide +kernel
theorem dX10_cuts_16 : decode cX10_cuts 16 = .ok (.ireturn, 1) := by decide +kernel
theorem dX10_tells_0 : decode cX10_tells 0 = .ok (.iconst 3, 1) := by decide +kernel
theorem dX10_tells_1 : decode cX10_tells 1 = .ok (.aload_n 2, 1) := by decide +kernel
theorem dX10_tells_2 : decode cX10_tells 2 = .ok (.invokestatic 21, 3) := by decide +kernel
theorem dX10_tells_5 : decode cX10_tells 5 = .ok (.aload_n 0, 1) := by decide +kernel
theorem dX10_tells_6 : decode cX10_tells 6 = .ok (.iload_n 1, 1) := by decide +kernel
theorem dX10_tells_7 : decode cX10_tells 7 = .ok (.aload_n 2, 1) := by decide +kernel
theorem dX10_tells_8 : decode cX10_tells 8 = .ok (.invokevirtual 29, 3) := by decide +kernel
theorem dX10_tells_11 : decode cX10_tells 11 = .ok (.iconst 2, 1) := by decide +kernel
theorem dX10_tells_12 : decode cX10_tells 12 = .ok (.imul, 1) := by decide +kernel
theorem dX10_tells_13 : decode cX10_tells 13 = .ok (.ireturn, 1) := by decide +kernel
theorem dX10_began_0 : decode cX10_began 0 = .ok (.aload_n 1, 1) := by decide +kernel
theorem dX10_began_1 : decode cX10_began 1 = .ok (.iconst 0, 1) := by decide +kernel
theorem dX10_began_2 : decode cX10_began 2 = .ok (.dup2, 1) := by decide +kernel
theorem dX10_began_3 : decode cX10_began 3 = .ok (.iaload, 1) := by decide +kernel
theorem dX10_began_4 : decode cX10_began 4 = .ok (.iconst 1, 1) := by decide +kernel
theorem dX10_began_5 : decode cX10_began 5 = .ok (.iadd, 1) := by decide +kernel
theorem dX10_began_6 : decode cX10_began 6 = .ok (.iastore, 1) := by decide +kernel
theorem dX10_began_7 : decode cX10_began 7 = .ok (.aload_n 1, 1) := by decide +kernel
theorem dX10_began_8 : decode cX10_began 8 = .ok (.iconst 0, 1) := by decide +kernel
theorem dX10_began_9 : decode cX10_began 9 = .ok (.iaload, 1) := by decide +kernel
theorem dX10_began_10 : decode cX10_began 10 = .ok (.aload_n 1, 1) := by decide +kernel
theorem dX10_began_11 : decode cX10_began 11 = .ok (.arraylength, 1) := by decide +kernel
theorem dX10_began_12 : decode cX10_began 12 = .ok (.if_icmp .ge 9, 3) := by decide +kernel
theorem dX10_began_15 : decode cX10_began 15 = .ok (.aload_n 1, 1) := by decide +kernel
theorem dX10_began_16 : decode cX10_began 16 = .ok (.aload_n 1, 1) := by decide +kernel
theorem dX10_began_17 : decode cX10_began 17 = .ok (.iconst 0, 1) := by decide +kernel
theorem dX10_began_18 : decode cX10_began 18 = .ok (.iaload, 1) := by decide +kernel
theorem dX10_began_19 : decode cX10_began 19 = .ok (.iload_n 0, 1) := by decide +kernel
theorem dX10_began_20 : decode cX10_began 20 = .ok (.iastore, 1) := by decide +kernel
theorem dX10_began_21 : decode cX10_began 21 = .ok (.return_, 1) := by decide +kernel
theorem dX10_least_0 : decode cX10_least 0 = .ok (.iconst 0, 1) := by decide +kernel
theorem dX10_least_1 : decode cX10_least 1 = .ok (.istore_n 1, 1) := by decide +kernel
theorem dX10_least_2 : decode cX10_least 2 = .ok (.iload_n 1, 1) := by decide +kernel
theorem dX10_least_3 : decode cX10_least 3 = .ok (.iconst 3, 1) := by decide +kernel
theorem dX10_least_4 : decode cX10_least 4 = .ok (.if_icmp .ge 19, 3) := by decide +kernel
theorem dX10_least_7 : decode cX10_least 7 = .ok (.iload_n 0, 1) := by decide +kernel
theorem dX10_least_8 : decode cX10_least 8 = .ok (.iload_n 1, 1) := by decide +kernel
theorem dX10_least_9 : decode cX10_least 9 = .ok (.invokestatic 32, 3) := by decide +kernel
theorem dX10_least_12 : decode cX10_least 12 = .ok (.ifCond .eq 5, 3) := by decide +kernel
theorem dX10_least_15 : decode cX10_least 15 = .ok (.iload_n 1, 1) := by decide +kernel
theorem dX10_least_16 : decode cX10_least 16 = .ok (.ireturn, 1) := by decide +kernel
theorem dX10_least_17 : decode cX10_least 17 = .ok (.iinc 1 1, 3) := by decide +kernel
theorem dX10_least_20 : decode cX10_least 20 = .ok (.goto (-18), 3) := by decide +kernel
theorem dX10_least_23 : decode cX10_least 23 = .ok (.iconst 3, 1) := by decide +kernel
theorem dX10_least_24 : decode cX10_least 24 = .ok (.ireturn, 1) := by decide +kernel
theorem dX11_init_0 : decode cX11_init 0 = .ok (.aload_n 0, 1) := by decide +kernel
theorem dX11_init_1 : decode cX11_init 1 = .ok (.invokespecial 5, 3) := by decide +kernel
theorem dX11_init_4 : decode cX11_init 4 = .ok (.iconst 0, 1) := by decide +kernel
theorem dX11_init_5 : decode cX11_init 5 = .ok (.newarray .int, 2) := by decide +kernel
theorem dX11_init_7 : decode cX11_init 7 = .ok (.astore_n 1, 1) := by decide +kernel
theorem dX11_init_8 : decode cX11_init 8 = .ok (.new 11, 3) := by decide +kernel
theorem dX11_init_11 : decode cX11_init 11 = .ok (.dup, 1) := by decide +kernel
theorem dX11_init_12 : decode cX11_init 12 = .ok (.aload_n 1, 1) := by decide +kernel
theorem dX11_init_13 : decode cX11_init 13 = .ok (.aload_n 1, 1) := by decide +kernel
theorem dX11_init_14 : decode cX11_init 14 = .ok (.aload_n 1, 1) := by decide +kernel
theorem dX11_init_15 : decode cX11_init 15 = .ok (.iconst 3, 1) := by decide +kernel
theorem dX11_init_16 : decode cX11_init 16 = .ok (.newarray .int, 2) := by decide +kernel
theorem dX11_init_18 : decode cX11_init 18 = .ok (.dup, 1) := by decide +kernel
theorem dX11_init_19 : decode cX11_init 19 = .ok (.iconst 0, 1) := by decide +kernel
theorem dX11_init_20 : decode cX11_init 20 = .ok (.iconst 1, 1) := by decide +kernel
theorem dX11_init_21 : decode cX11_init 21 = .ok (.iastore, 1) := by decide +kernel
theorem dX11_init_22 : decode cX11_init 22 = .ok (.dup, 1) := by decide +kernel
theorem dX11_init_23 : decode cX11_init 23 = .ok (.iconst 1, 1) := by decide +kernel
theorem dX11_init_24 : decode cX11_init 24 = .ok (.iconst 1, 1) := by decide +kernel
theorem dX11_init_25 : decode cX11_init 25 = .ok (.iastore, 1) := by decide +kernel
theorem dX11_init_26 : decode cX11_init 26 = .ok (.dup, 1) := by decide +kernel
theorem dX11_init_27 : decode cX11_init 27 = .ok (.iconst 2, 1) := by decide +kernel
theorem dX11_init_28 : decode cX11_init 28 = .ok (.iconst 1, 1) := by decide +kernel
theorem dX11_init_29 : decode cX11_init 29 = .ok (.iastore, 1) := by decide +kernel
theorem dX11_init_30 : decode cX11_init 30 = .ok (.iconst 0, 1) := by decide +kernel
theorem dX11_init_31 : decode cX11_init 31 = .ok (.invokespecial 13, 3) := by decide +kernel
theorem dX11_init_34 : decode cX11_init 34 = .ok (.astore_n 2, 1) := by decide +kernel
theorem dX11_init_35 : decode cX11_init 35 = .ok (.sipush 5832, 3) := by decide +kernel
theorem dX11_init_38 : decode cX11_init 38 = .ok (.newarray .int, 2) := by decide +kernel
theorem dX11_init_40 : decode cX11_init 40 = .ok (.astore_n 3, 1) := by decide +kernel
theorem dX11_init_41 : decode cX11_init 41 = .ok (.aload_n 0, 1) := by decide +kernel
theorem dX11_init_42 : decode cX11_init 42 = .ok (.new 16, 3) := by decide +kernel
theorem dX11_init_45 : decode cX11_init 45 = .ok (.dup, 1) := by decide +kernel
theorem dX11_init_46 : decode cX11_init 46 = .ok (.aload_n 2, 1) := by decide +kernel
theorem dX11_init_47 : decode cX11_init 47 = .ok (.invokespecial 18, 3) := by decide +kernel
theorem dX11_init_50 : decode cX11_init 50 = .ok (.putfield 21, 3) := by decide +kernel
theorem dX11_init_53 : decode cX11_init 53 = .ok (.aload_n 0, 1) := by decide +kernel
theorem dX11_init_54 : decode cX11_init 54 = .ok (.new 16, 3) := by decide +kernel
theorem dX11_init_57 : decode cX11_init 57 = .ok (.dup, 1) := by decide +kernel
theorem dX11_init_58 : decode cX11_init 58 = .ok (.aload_n 2, 1) := by decide +kernel
theorem dX11_init_59 : decode cX11_init 59 = .ok (.invokespecial 18, 3) := by decide +kernel
theorem dX11_init_62 : decode cX11_init 62 = .ok (.putfield 25, 3) := by decide +kernel
theorem dX11_init_65 : decode cX11_init 65 = .ok (.aload_n 0, 1) := by decide +kernel
theorem dX11_init_66 : decode cX11_init 66 = .ok (.new 28, 3) := by decide +kernel
theorem dX11_init_69 : decode cX11_init 69 = .ok (.dup, 1) := by decide +kernel
theorem dX11_init_70 : decode cX11_init 70 = .ok (.invokespecial 30, 3) := by decide +kernel
theorem dX11_init_73 : decode cX11_init 73 = .ok (.putfield 31, 3) := by decide +kernel
theorem dX11_init_76 : decode cX11_init 76 = .ok (.aload_n 0, 1) := by decide +kernel
theorem dX11_init_77 : decode cX11_init 77 = .ok (.new 35, 3) := by decide +kernel
theorem dX11_init_80 : decode cX11_init 80 = .ok (.dup, 1) := by decide +kernel
theorem dX11_init_81 : decode cX11_init 81 = .ok (.aload_n 2, 1) := by decide +kernel
theorem dX11_init_82 : decode cX11_init 82 = .ok (.aload_n 3, 1) := by decide +kernel
theorem dX11_init_83 : decode cX11_init 83 = .ok (.invokespecial 37, 3) := by decide +kernel
theorem dX11_init_86 : decode cX11_init 86 = .ok (.putfield 40, 3) := by decide +kernel
theorem dX11_init_89 : decode cX11_init 89 = .ok (.aload_n 0, 1) := by decide +kernel
theorem dX11_init_90 : decode cX11_init 90 = .ok (.new 35, 3) := by decide +kernel
theorem dX11_init_93 : decode cX11_init 93 = .ok (.dup, 1) := by decide +kernel
theorem dX11_init_94 : decode cX11_init 94 = .ok (.aload_n 2, 1) := by decide +kernel
theorem dX11_init_95 : decode cX11_init 95 = .ok (.aload_n 3, 1) := by decide +kernel
theorem dX11_init_96 : decode cX11_init 96 = .ok (.invokespecial 37, 3) := by decide +kernel
theorem dX11_init_99 : decode cX11_init 99 = .ok (.putfield 44, 3) := by decide +kernel
theorem dX11_init_102 : decode cX11_init 102 = .ok (.aload_n 0, 1) := by decide +kernel
theorem dX11_init_103 : decode cX11_init 103 = .ok (.bipush 21, 2) := by decide +kernel
theorem dX11_init_105 : decode cX11_init 105 = .ok (.newarray .int, 2) := by decide +kernel
theorem dX11_init_107 : decode cX11_init 107 = .ok (.putfield 47, 3) := by decide +kernel
theorem dX11_init_110 : decode cX11_init 110 = .ok (.return_, 1) := by decide +kernel
theorem dX11_bag_0 : decode cX11_bag 0 = .ok (.aload_n 0, 1) := by decide +kernel
theorem dX11_bag_1 : decode cX11_bag 1 = .ok (.getfield 21, 3) := by decide +kernel
theorem dX11_bag_4 : decode cX11_bag 4 = .ok (.getfield 51, 3) := by decide +kernel
theorem dX11_bag_7 : decode cX11_bag 7 = .ok (.iload_n 1, 1) := by decide +kernel
theorem dX11_bag_8 : decode cX11_bag 8 = .ok (.iload_n 2, 1) := by decide +kernel
theorem dX11_bag_9 : decode cX11_bag 9 = .ok (.invokestatic 54, 3) := by decide +kernel
theorem dX11_bag_12 : decode cX11_bag 12 = .ok (.ireturn, 1) := by decide +kernel
theorem dX11_feed_0 : decode cX11_feed 0 = .ok (.iload_n 1, 1) := by decide +kernel
theorem dX11_feed_1 : decode cX11_feed 1 = .ok (.ifCond .lt 9, 3) := by decide +kernel
theorem dX11_feed_4 : decode cX11_feed 4 = .ok (.iload_n 1, 1) := by decide +kernel
theorem dX11_feed_5 : decode cX11_feed 5 = .ok (.bipush 127, 2) := by decide +kernel
theorem dX11_feed_7 : decode cX11_feed 7 = .ok (.if_icmp .le 6, 3) := by decide +kernel
theorem dX11_feed_10 : decode cX11_feed 10 = .ok (.bipush (-2), 2) := by decide +kernel
theorem dX11_feed_12 : decode cX11_feed 12 = .ok (.ireturn, 1) := by decide +kernel
theorem dX11_feed_13 : decode cX11_feed 13 = .ok (.aload_n 0, 1) := by decide +kernel
theorem dX11_feed_14 : decode cX11_feed 14 = .ok (.getfield 21, 3) := by decide +kernel
theorem dX11_feed_17 : decode cX11_feed 17 = .ok (.getfield 58, 3) := by decide +kernel
theorem dX11_feed_20 : decode cX11_feed 20 = .ok (.bipush 100, 2) := by decide +kernel
theorem dX11_feed_22 : decode cX11_feed 22 = .ok (.if_icmp .lt 6, 3) := by decide +kernel
theorem dX11_feed_25 : decode cX11_feed 25 = .ok (.bipush (-4), 2) := by decide +kernel
theorem dX11_feed_27 : decode cX11_feed 27 = .ok (.ireturn, 1) := by decide +kernel
theorem dX11_feed_28 : decode cX11_feed 28 = .ok (.aload_n 0, 1) := by decide +kernel
theorem dX11_feed_29 : decode cX11_feed 29 = .ok (.getfield 21, 3) := by decide +kernel
theorem dX11_feed_32 : decode cX11_feed 32 = .ok (.getfield 62, 3) := by decide +kernel
theorem dX11_feed_35 : decode cX11_feed 35 = .ok (.aload_n 0, 1) := by decide +kernel
theorem dX11_feed_36 : decode cX11_feed 36 = .ok (.getfield 21, 3) := by decide +kernel
theorem dX11_feed_39 : decode cX11_feed 39 = .ok (.getfield 58, 3) := by decide +kernel
theorem dX11_feed_42 : decode cX11_feed 42 = .ok (.iload_n 1, 1) := by decide +kernel
theorem dX11_feed_43 : decode cX11_feed 43 = .ok (.iastore, 1) := by decide +kernel
theorem dX11_feed_44 : decode cX11_feed 44 = .ok (.aload_n 0, 1) := by decide +kernel
theorem dX11_feed_45 : decode cX11_feed 45 = .ok (.getfield 21, 3) := by decide +kernel
theorem dX11_feed_48 : decode cX11_feed 48 = .ok (.dup, 1) := by decide +kernel
theorem dX11_feed_49 : decode cX11_feed 49 = .ok (.getfield 58, 3) := by decide +kernel
theorem dX11_feed_52 : decode cX11_feed 52 = .ok (.iconst 1, 1) := by decide +kernel
theorem dX11_feed_53 : decode cX11_feed 53 = .ok (.iadd, 1) := by decide +kernel
theorem dX11_feed_54 : decode cX11_feed 54 = .ok (.putfield 58, 3) := by decide +kernel
theorem dX11_feed_57 : decode cX11_feed 57 = .ok (.aload_n 0, 1) := by decide +kernel
theorem dX11_feed_58 : decode cX11_feed 58 = .ok (.getfield 21, 3) := by decide +kernel
theorem dX11_feed_61 : decode cX11_feed 61 = .ok (.getfield 58, 3) := by decide +kernel
theorem dX11_feed_64 : decode cX11_feed 64 = .ok (.ireturn, 1) := by decide +kernel
theorem dX11_valley_0 : decode cX11_valley 0 = .ok (.aload_n 0, 1) := by decide +kernel
theorem dX11_valley_1 : decode cX11_valley 1 = .ok (.getfield 21, 3) := by decide +kernel
theorem dX11_valley_4 : decode cX11_valley 4 = .ok (.getfield 65, 3) := by decide +kernel
theorem dX11_valley_7 : decode cX11_valley 7 = .ok (.iconst 5, 1) := by decide +kernel
theorem dX11_valley_8 : decode cX11_valley 8 = .ok (.if_icmp .lt 6, 3) := by decide +kernel
theorem dX11_valley_11 : decode cX11_valley 11 = .ok (.bipush (-4), 2) := by decide +kernel
theorem dX11_valley_13 : decode cX11_valley 13 = .ok (.ireturn, 1) := by decide +kernel
theorem dX11_valley_14 : decode cX11_valley 14 = .ok (.aload_n 0, 1) := by decide +kernel
theorem dX11_valley_15 : decode cX11_valley 15 = .ok (.getfield 31, 3) := by decide +kernel
theorem dX11_valley_18 : decode cX11_valley 18 = .ok (.aload_n 0, 1) := by decide +kernel
theorem dX11_valley_19 : decode cX11_valley 19 = .ok (.getfield 21, 3) := by decide +kernel
theorem dX11_valley_22 : decode cX11_valley 22 = .ok (.getfield 62, 3) := by decide +kernel
theorem dX11_valley_25 : decode cX11_valley 25 = .ok (.aload_n 0, 1) := by decide +kernel
theorem dX11_valley_26 : decode cX11_valley 26 = .ok (.getfield 21, 3) := by decide +kernel
theorem dX11_valley_29 : decode cX11_valley 29 = .ok (.getfield 58, 3) := by decide +kernel
theorem dX11_valley_32 : decode cX11_valley 32 = .ok (.invokevirtual 68, 3) := by decide +kernel
theorem dX11_valley_35 : decode cX11_valley 35 = .ok (.istore_n 1, 1) := by decide +kernel
theorem dX11_valley_36 : decode cX11_valley 36 = .ok (.aload_n 0, 1) := by decide +kernel
theorem dX11_valley_37 : decode cX11_valley 37 = .ok (.getfield 21, 3) := by decide +kernel
theorem dX11_valley_40 : decode cX11_valley 40 = .ok (.iconst 0, 1) := by decide +kernel
theorem dX11_valley_41 : decode cX11_valley 41 = .ok (.putfield 58, 3) := by decide +kernel
theorem dX11_valley_44 : decode cX11_valley 44 = .ok (.iload_n 1, 1) := by decide +kernel
theorem dX11_valley_45 : decode cX11_valley 45 = .ok (.ifCond .lt 8, 3) := by decide +kernel
theorem dX11_valley_48 : decode cX11_valley 48 = .ok (.bipush (-10), 2) := by decide +kernel
theorem dX11_valley_50 : decode cX11_valley 50 = .ok (.iload_n 1, 1) := by decide +kernel
theorem dX11_valley_51 : decode cX11_valley 51 = .ok (.isub, 1) := by decide +kernel
theorem dX11_valley_52 : decode cX11_valley 52 = .ok (.ireturn, 1) := by decide +kernel
theorem dX11_valley_53 : decode cX11_valley 53 = .ok (.aload_n 0, 1) := by decide +kernel
theorem dX11_valley_54 : decode cX11_valley 54 = .ok (.getfield 21, 3) := by decide +kernel
theorem dX11_valley_57 : decode cX11_valley 57 = .ok (.aload_n 0, 1) := by decide +kernel
theorem dX11_valley_58 : decode cX11_valley 58 = .ok (.getfield 31, 3) := by decide +kernel
theorem dX11_valley_61 : decode cX11_valley 61 = .ok (.invokevirtual 72, 3) := by decide +kernel
theorem dX11_valley_64 : decode cX11_valley 64 = .ok (.putfield 76, 3) := by decide +kernel
theorem dX11_valley_67 : decode cX11_valley 67 = .ok (.aload_n 0, 1) := by decide +kernel
theorem dX11_valley_68 : decode cX11_valley 68 = .ok (.getfield 21, 3) := by decide +kernel
theorem dX11_valley_71 : decode cX11_valley 71 = .ok (.dup, 1) := by decide +kernel
theorem dX11_valley_72 : decode cX11_valley 72 = .ok (.getfield 65, 3) := by decide +kernel
theorem dX11_valley_75 : decode cX11_valley 75 = .ok (.iconst 1, 1) := by decide +kernel
theorem dX11_valley_76 : decode cX11_valley 76 = .ok (.iadd, 1) := by decide +kernel
theorem dX11_valley_77 : decode cX11_valley 77 = .ok (.putfield 65, 3) := by decide +kernel
theorem dX11_valley_80 : decode cX11_valley 80 = .ok (.aload_n 0, 1) := by decide +kernel
theorem dX11_valley_81 : decode cX11_valley 81 = .ok (.getfield 21, 3) := by decide +kernel
theorem dX11_valley_84 : decode cX11_valley 84 = .ok (.getfield 65, 3) := by decide +kernel
theorem dX11_valley_87 : decode cX11_valley 87 = .ok (.iconst 1, 1) := by decide +kernel
theorem dX11_valley_88 : decode cX11_valley 88 = .ok (.isub, 1) := by decide +kernel
theorem dX11_valley_89 : decode cX11_valley 89 = .ok (.ireturn, 1) := by decide +kernel
theorem dX11_told_0 : decode cX11_told 0 = .ok (.iload_n 1, 1) := by decide +kernel
theorem dX11_told_1 : decode cX11_told 1 = .ok (.ifCond .ne 14, 3) := by decide +kernel
theorem dX11_told_4 : decode cX11_told 4 = .ok (.aload_n 0, 1) := by decide +kernel
theorem dX11_told_5 : decode cX11_told 5 = .ok (.getfield 21, 3) := by decide +kernel
theorem dX11_told_8 : decode cX11_told 8 = .ok (.getfield 76, 3) := by decide +kernel
theorem dX11_told_11 : decode cX11_told 11 = .ok (.getfield 80, 3) := by decide +kernel
theorem dX11_told_14 : decode cX11_told 14 = .ok (.ireturn, 1) := by decide +kernel
theorem dX11_told_15 : decode cX11_told 15 = .ok (.iload_n 1, 1) := by decide +kernel
theorem dX11_told_16 : decode cX11_told 16 = .ok (.iconst 1, 1) := by decide +kernel
theorem dX11_told_17 : decode cX11_told 17 = .ok (.if_icmp .ne 11, 3) := by decide +kernel
theorem dX11_told_20 : decode cX11_told 20 = .ok (.aload_n 0, 1) := by decide +kernel
theorem dX11_told_21 : decode cX11_told 21 = .ok (.getfield 21, 3) := by decide +kernel
theorem dX11_told_24 : decode cX11_told 24 = .ok (.getfield 83, 3) := by decide +kernel
theorem dX11_told_27 : decode cX11_told 27 = .ok (.ireturn, 1) := by decide +kernel
theorem dX11_told_28 : decode cX11_told 28 = .ok (.iload_n 1, 1) := by decide +kernel
theorem dX11_told_29 : decode cX11_told 29 = .ok (.iconst 2, 1) := by decide +kernel
theorem dX11_told_30 : decode cX11_told 30 = .ok (.if_icmp .ne 14, 3) := by decide +kernel
theorem dX11_told_33 : decode cX11_told 33 = .ok (.aload_n 0, 1) := by decide +kernel
theorem dX11_told_34 : decode cX11_told 34 = .ok (.getfield 21, 3) := by decide +kernel
theorem dX11_told_37 : decode cX11_told 37 = .ok (.getfield 51, 3) := by decide +kernel
theorem dX11_told_40 : decode cX11_told 40 = .ok (.invokestatic 86, 3) := by decide +kernel
theorem dX11_told_43 : decode cX11_told 43 = .ok (.ireturn, 1) := by decide +kernel
theorem dX11_told_44 : decode cX11_told 44 = .ok (.iload_n 1, 1) := by decide +kernel
theorem dX11_told_45 : decode cX11_told 45 = .ok (.bipush 10, 2) := by decide +kernel
theorem dX11_told_47 : decode cX11_told 47 = .ok (.if_icmp .lt 25, 3) := by decide +kernel
theorem dX11_told_50 : decode cX11_told 50 = .ok (.iload_n 1, 1) := by decide +kernel
theorem dX11_told_51 : decode cX11_told 51 = .ok (.bipush 13, 2) := by decide +kernel
theorem dX11_told_53 : decode cX11_told 53 = .ok (.if_icmp .ge 19, 3) := by decide +kernel
theorem dX11_told_56 : decode cX11_told 56 = .ok (.aload_n 0, 1) := by decide +kernel
theorem dX11_told_57 : decode cX11_told 57 = .ok (.getfield 21, 3) := by decide +kernel
theorem dX11_told_60 : decode cX11_told 60 = .ok (.getfield 76, 3) := by decide +kernel
theorem dX11_told_63 : decode cX11_told 63 = .ok (.getfield 90, 3) := by decide +kernel
theorem dX11_told_66 : decode cX11_told 66 = .ok (.iload_n 1, 1) := by decide +kernel
theorem dX11_told_67 : decode cX11_told 67 = .ok (.bipush 10, 2) := by decide +kernel
theorem dX11_told_69 : decode cX11_told 69 = .ok (.isub, 1) := by decide +kernel
theorem dX11_told_70 : decode cX11_told 70 = .ok (.iaload, 1) := by decide +kernel
theorem dX11_told_71 : decode cX11_told 71 = .ok (.ireturn, 1) := by decide +kernel
theorem dX11_told_72 : decode cX11_told 72 = .ok (.iload_n 1, 1) := by decide +kernel
theorem dX11_told_73 : decode cX11_told 73 = .ok (.bipush 20, 2) := by decide +kernel
theorem dX11_told_75 : decode cX11_told 75 = .ok (.if_icmp .lt 24, 3) := by decide +kernel
theorem dX11_told_78 : decode cX11_told 78 = .ok (.iload_n 1, 1) := by decide +kernel
theorem dX11_told_79 : decode cX11_told 79 = .ok (.bipush 23, 2) := by decide +kernel
theorem dX11_told_81 : decode cX11_told 81 = .ok (.if_icmp .ge 18, 3) := by decide +kernel
theorem dX11_told_84 : decode cX11_told 84 = .ok (.aload_n 0, 1) := by decide +kernel
theorem dX11_told_85 : decode cX11_told 85 = .ok (.getfield 21, 3) := by decide +kernel
theorem dX11_told_88 : decode cX11_told 88 = .ok (.getfield 93, 3) := by decide +kernel
theorem dX11_told_91 : decode cX11_told 91 = .ok (.iload_n 1, 1) := by decide +kernel
theorem dX11_told_92 : decode cX11_told 92 = .ok (.bipush 20, 2) := by decide +kernel
theorem dX11_told_94 : decode cX11_told 94 = .ok (.isub, 1) := by decide +kernel
theorem dX11_told_95 : decode cX11_told 95 = .ok (.invokestatic 96, 3) := by decide +kernel
theorem dX11_told_98 : decode cX11_told 98 = .ok (.ireturn, 1) := by decide +kernel
theorem dX11_told_99 : decode cX11_told 99 = .ok (.iload_n 1, 1) := by decide +kernel
theorem dX11_told_100 : decode cX11_told 100 = .ok (.bipush 30, 2) := by decide +kernel
theorem dX11_told_102 : decode cX11_told 102 = .ok (.if_icmp .lt 22, 3) := by decide +kernel
theorem dX11_told_105 : decode cX11_told 105 = .ok (.iload_n 1, 1) := by decide +kernel
theorem dX11_told_106 : decode cX11_told 106 = .ok (.bipush 33, 2) := by decide +kernel
theorem dX11_told_108 : decode cX11_told 108 = .ok (.if_icmp .ge 16, 3) := by decide +kernel
theorem dX11_told_111 : decode cX11_told 111 = .ok (.aload_n 0, 1) := by decide +kernel
theorem dX11_told_112 : decode cX11_told 112 = .ok (.getfield 21, 3) := by decide +kernel
theorem dX11_told_115 : decode cX11_told 115 = .ok (.getfield 51, 3) := by decide +kernel
theorem dX11_told_118 : decode cX11_told 118 = .ok (.iload_n 1, 1) := by decide +kernel
theorem dX11_told_119 : decode cX11_told 119 = .ok (.bipush 30, 2) := by decide +kernel
theorem dX11_told_121 : decode cX11_told 121 = .ok (.isub, 1) := by decide +kernel
theorem dX11_told_122 : decode cX11_told 122 = .ok (.iaload, 1) := by decide +kernel
theorem dX11_told_123 : decode cX11_told 123 = .ok (.ireturn, 1) := by decide +kernel
theorem dX11_told_124 : decode cX11_told 124 = .ok (.iconst (-1), 1) := by decide +kernel
theorem dX11_told_125 : decode cX11_told 125 = .ok (.ireturn, 1) := by decide +kernel
theorem dX11_stage_0 : decode cX11_stage 0 = .ok (.iload_n 1, 1) := by decide +kernel
theorem dX11_stage_1 : decode cX11_stage 1 = .ok (.ifCond .lt 8, 3) := by decide +kernel
theorem dX11_stage_4 : decode cX11_stage 4 = .ok (.iload_n 1, 1) := by decide +kernel
theorem dX11_stage_5 : decode cX11_stage 5 = .ok (.iconst 3, 1) := by decide +kernel
theorem dX11_stage_6 : decode cX11_stage 6 = .ok (.if_icmp .lt 5, 3) := by decide +kernel
theorem dX11_stage_9 : decode cX11_stage 9 = .ok (.iconst (-1), 1) := by decide +kernel
theorem dX11_stage_10 : decode cX11_stage 10 = .ok (.ireturn, 1) := by decide +kernel
theorem dX11_stage_11 : decode cX11_stage 11 = .ok (.iload_n 2, 1) := by decide +kernel
theorem dX11_stage_12 : decode cX11_stage 12 = .ok (.ifCond .lt 8, 3) := by decide +kernel
