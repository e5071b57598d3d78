theorem dX11_stage_15 : decode cX11_stage 15 = .ok (.iload_n 2, 1) := by decide +kernel
theorem dX11_stage_16 : decode cX11_stage 16 = .ok (.iconst 2, 1) := by decide +kernel
theorem dX11_stage_17 : decode cX11_stage 17 = .ok (.if_icmp .le 6, 3) := by decide +kernel
theorem dX11_stage_20 : decode cX11_stage 20 = .ok (.bipush (-2), 2) := by decide +kernel
theorem dX11_stage_22 : decode cX11_stage 22 = .ok (.ireturn, 1) := by decide +kernel
theorem dX11_stage_23 : decode cX11_stage 23 = .ok (.aload_n 0, 1) := by decide +kernel
theorem dX11_stage_24 : decode cX11_stage 24 = .ok (.getfield 21, 3) := by decide +kernel
theorem dX11_stage_27 : decode cX11_stage 27 = .ok (.getfield 93, 3) := by decide +kernel
theorem dX11_stage_30 : decode cX11_stage 30 = .ok (.iload_n 1, 1) := by decide +kernel
theorem dX11_stage_31 : decode cX11_stage 31 = .ok (.invokestatic 96, 3) := by decide +kernel
theorem dX11_stage_34 : decode cX11_stage 34 = .ok (.istore_n 3, 1) := by decide +kernel
theorem dX11_stage_35 : decode cX11_stage 35 = .ok (.aload_n 0, 1) := by decide +kernel
theorem dX11_stage_36 : decode cX11_stage 36 = .ok (.getfield 21, 3) := by decide +kernel
theorem dX11_stage_39 : decode cX11_stage 39 = .ok (.dup, 1) := by decide +kernel
theorem dX11_stage_40 : decode cX11_stage 40 = .ok (.getfield 93, 3) := by decide +kernel
theorem dX11_stage_43 : decode cX11_stage 43 = .ok (.iload_n 2, 1) := by decide +kernel
theorem dX11_stage_44 : decode cX11_stage 44 = .ok (.iload_n 3, 1) := by decide +kernel
theorem dX11_stage_45 : decode cX11_stage 45 = .ok (.isub, 1) := by decide +kernel
theorem dX11_stage_46 : decode cX11_stage 46 = .ok (.getstatic 100, 3) := by decide +kernel
theorem dX11_stage_49 : decode cX11_stage 49 = .ok (.iload_n 1, 1) := by decide +kernel
theorem dX11_stage_50 : decode cX11_stage 50 = .ok (.iaload, 1) := by decide +kernel
theorem dX11_stage_51 : decode cX11_stage 51 = .ok (.imul, 1) := by decide +kernel
theorem dX11_stage_52 : decode cX11_stage 52 = .ok (.iadd, 1) := by decide +kernel
theorem dX11_stage_53 : decode cX11_stage 53 = .ok (.putfield 93, 3) := by decide +kernel
theorem dX11_stage_56 : decode cX11_stage 56 = .ok (.iload_n 3, 1) := by decide +kernel
theorem dX11_stage_57 : decode cX11_stage 57 = .ok (.ireturn, 1) := by decide +kernel
theorem dX11_worker_0 : decode cX11_worker 0 = .ok (.iload_n 1, 1) := by decide +kernel
theorem dX11_worker_1 : decode cX11_worker 1 = .ok (.ifCond .lt 9, 3) := by decide +kernel
theorem dX11_worker_4 : decode cX11_worker 4 = .ok (.iload_n 1, 1) := by decide +kernel
theorem dX11_worker_5 : decode cX11_worker 5 = .ok (.bipush 7, 2) := by decide +kernel
theorem dX11_worker_7 : decode cX11_worker 7 = .ok (.if_icmp .lt 5, 3) := by decide +kernel
theorem dX11_worker_10 : decode cX11_worker 10 = .ok (.iconst (-1), 1) := by decide +kernel
theorem dX11_worker_11 : decode cX11_worker 11 = .ok (.ireturn, 1) := by decide +kernel
theorem dX11_worker_12 : decode cX11_worker 12 = .ok (.iload_n 2, 1) := by decide +kernel
theorem dX11_worker_13 : decode cX11_worker 13 = .ok (.ifCond .lt 9, 3) := by decide +kernel
theorem dX11_worker_16 : decode cX11_worker 16 = .ok (.iload_n 2, 1) := by decide +kernel
theorem dX11_worker_17 : decode cX11_worker 17 = .ok (.bipush 9, 2) := by decide +kernel
theorem dX11_worker_19 : decode cX11_worker 19 = .ok (.if_icmp .le 6, 3) := by decide +kernel
theorem dX11_worker_22 : decode cX11_worker 22 = .ok (.bipush (-2), 2) := by decide +kernel
theorem dX11_worker_24 : decode cX11_worker 24 = .ok (.ireturn, 1) := by decide +kernel
theorem dX11_worker_25 : decode cX11_worker 25 = .ok (.aload_n 0, 1) := by decide +kernel
theorem dX11_worker_26 : decode cX11_worker 26 = .ok (.getfield 21, 3) := by decide +kernel
theorem dX11_worker_29 : decode cX11_worker 29 = .ok (.getfield 103, 3) := by decide +kernel
theorem dX11_worker_32 : decode cX11_worker 32 = .ok (.bipush 8, 2) := by decide +kernel
theorem dX11_worker_34 : decode cX11_worker 34 = .ok (.if_icmp .lt 6, 3) := by decide +kernel
theorem dX11_worker_37 : decode cX11_worker 37 = .ok (.bipush (-4), 2) := by decide +kernel
theorem dX11_worker_39 : decode cX11_worker 39 = .ok (.ireturn, 1) := by decide +kernel
theorem dX11_worker_40 : decode cX11_worker 40 = .ok (.aload_n 0, 1) := by decide +kernel
theorem dX11_worker_41 : decode cX11_worker 41 = .ok (.getfield 21, 3) := by decide +kernel
theorem dX11_worker_44 : decode cX11_worker 44 = .ok (.getfield 106, 3) := by decide +kernel
theorem dX11_worker_47 : decode cX11_worker 47 = .ok (.aload_n 0, 1) := by decide +kernel
theorem dX11_worker_48 : decode cX11_worker 48 = .ok (.getfield 21, 3) := by decide +kernel
theorem dX11_worker_51 : decode cX11_worker 51 = .ok (.getfield 103, 3) := by decide +kernel
theorem dX11_worker_54 : decode cX11_worker 54 = .ok (.iload_n 1, 1) := by decide +kernel
theorem dX11_worker_55 : decode cX11_worker 55 = .ok (.aload_n 0, 1) := by decide +kernel
theorem dX11_worker_56 : decode cX11_worker 56 = .ok (.getfield 21, 3) := by decide +kernel
theorem dX11_worker_59 : decode cX11_worker 59 = .ok (.getfield 103, 3) := by decide +kernel
theorem dX11_worker_62 : decode cX11_worker 62 = .ok (.iload_n 2, 1) := by decide +kernel
theorem dX11_worker_63 : decode cX11_worker 63 = .ok (.invokestatic 110, 3) := by decide +kernel
theorem dX11_worker_66 : decode cX11_worker 66 = .ok (.aastore, 1) := by decide +kernel
theorem dX11_worker_67 : decode cX11_worker 67 = .ok (.aload_n 0, 1) := by decide +kernel
theorem dX11_worker_68 : decode cX11_worker 68 = .ok (.getfield 21, 3) := by decide +kernel
theorem dX11_worker_71 : decode cX11_worker 71 = .ok (.dup, 1) := by decide +kernel
theorem dX11_worker_72 : decode cX11_worker 72 = .ok (.getfield 103, 3) := by decide +kernel
theorem dX11_worker_75 : decode cX11_worker 75 = .ok (.iconst 1, 1) := by decide +kernel
theorem dX11_worker_76 : decode cX11_worker 76 = .ok (.iadd, 1) := by decide +kernel
theorem dX11_worker_77 : decode cX11_worker 77 = .ok (.putfield 103, 3) := by decide +kernel
theorem dX11_worker_80 : decode cX11_worker 80 = .ok (.aload_n 0, 1) := by decide +kernel
theorem dX11_worker_81 : decode cX11_worker 81 = .ok (.getfield 21, 3) := by decide +kernel
theorem dX11_worker_84 : decode cX11_worker 84 = .ok (.getfield 103, 3) := by decide +kernel
theorem dX11_worker_87 : decode cX11_worker 87 = .ok (.iconst 1, 1) := by decide +kernel
theorem dX11_worker_88 : decode cX11_worker 88 = .ok (.isub, 1) := by decide +kernel
theorem dX11_worker_89 : decode cX11_worker 89 = .ok (.ireturn, 1) := by decide +kernel
theorem dX11_row_0 : decode cX11_row 0 = .ok (.aload_n 0, 1) := by decide +kernel
theorem dX11_row_1 : decode cX11_row 1 = .ok (.iload_n 1, 1) := by decide +kernel
theorem dX11_row_2 : decode cX11_row 2 = .ok (.invokevirtual 114, 3) := by decide +kernel
theorem dX11_row_5 : decode cX11_row 5 = .ok (.astore 4, 2) := by decide +kernel
theorem dX11_row_7 : decode cX11_row 7 = .ok (.aload 4, 2) := by decide +kernel
theorem dX11_row_9 : decode cX11_row 9 = .ok (.ifnull 10, 3) := by decide +kernel
theorem dX11_row_12 : decode cX11_row 12 = .ok (.iload_n 2, 1) := by decide +kernel
theorem dX11_row_13 : decode cX11_row 13 = .ok (.invokestatic 118, 3) := by decide +kernel
theorem dX11_row_16 : decode cX11_row 16 = .ok (.ifCond .ne 5, 3) := by decide +kernel
theorem dX11_row_19 : decode cX11_row 19 = .ok (.iconst (-1), 1) := by decide +kernel
theorem dX11_row_20 : decode cX11_row 20 = .ok (.ireturn, 1) := by decide +kernel
theorem dX11_row_21 : decode cX11_row 21 = .ok (.iload_n 3, 1) := by decide +kernel
theorem dX11_row_22 : decode cX11_row 22 = .ok (.ifCond .lt 8, 3) := by decide +kernel
theorem dX11_row_25 : decode cX11_row 25 = .ok (.iload_n 3, 1) := by decide +kernel
theorem dX11_row_26 : decode cX11_row 26 = .ok (.iconst 3, 1) := by decide +kernel
theorem dX11_row_27 : decode cX11_row 27 = .ok (.if_icmp .le 6, 3) := by decide +kernel
theorem dX11_row_30 : decode cX11_row 30 = .ok (.bipush (-2), 2) := by decide +kernel
theorem dX11_row_32 : decode cX11_row 32 = .ok (.ireturn, 1) := by decide +kernel
theorem dX11_row_33 : decode cX11_row 33 = .ok (.aload 4, 2) := by decide +kernel
theorem dX11_row_35 : decode cX11_row 35 = .ok (.instanceof 122, 3) := by decide +kernel
theorem dX11_row_38 : decode cX11_row 38 = .ok (.ifCond .eq 33, 3) := by decide +kernel
theorem dX11_row_41 : decode cX11_row 41 = .ok (.aload 4, 2) := by decide +kernel
theorem dX11_row_43 : decode cX11_row 43 = .ok (.checkcast 122, 3) := by decide +kernel
theorem dX11_row_46 : decode cX11_row 46 = .ok (.astore 5, 2) := by decide +kernel
theorem dX11_row_48 : decode cX11_row 48 = .ok (.aload_n 0, 1) := by decide +kernel
theorem dX11_row_49 : decode cX11_row 49 = .ok (.getfield 21, 3) := by decide +kernel
theorem dX11_row_52 : decode cX11_row 52 = .ok (.getfield 106, 3) := by decide +kernel
theorem dX11_row_55 : decode cX11_row 55 = .ok (.iload_n 1, 1) := by decide +kernel
theorem dX11_row_56 : decode cX11_row 56 = .ok (.aload 5, 2) := by decide +kernel
theorem dX11_row_58 : decode cX11_row 58 = .ok (.iload_n 2, 1) := by decide +kernel
theorem dX11_row_59 : decode cX11_row 59 = .ok (.iload_n 3, 1) := by decide +kernel
theorem dX11_row_60 : decode cX11_row 60 = .ok (.invokevirtual 124, 3) := by decide +kernel
theorem dX11_row_63 : decode cX11_row 63 = .ok (.aastore, 1) := by decide +kernel
theorem dX11_row_64 : decode cX11_row 64 = .ok (.aload 5, 2) := by decide +kernel
theorem dX11_row_66 : decode cX11_row 66 = .ok (.iload_n 2, 1) := by decide +kernel
theorem dX11_row_67 : decode cX11_row 67 = .ok (.invokevirtual 128, 3) := by decide +kernel
theorem dX11_row_70 : decode cX11_row 70 = .ok (.ireturn, 1) := by decide +kernel
theorem dX11_row_71 : decode cX11_row 71 = .ok (.bipush (-3), 2) := by decide +kernel
theorem dX11_row_73 : decode cX11_row 73 = .ok (.ireturn, 1) := by decide +kernel
theorem dX11_of_0 : decode cX11_of 0 = .ok (.aload_n 0, 1) := by decide +kernel
theorem dX11_of_1 : decode cX11_of 1 = .ok (.iload_n 1, 1) := by decide +kernel
theorem dX11_of_2 : decode cX11_of 2 = .ok (.invokevirtual 114, 3) := by decide +kernel
theorem dX11_of_5 : decode cX11_of 5 = .ok (.astore_n 3, 1) := by decide +kernel
theorem dX11_of_6 : decode cX11_of 6 = .ok (.aload_n 3, 1) := by decide +kernel
theorem dX11_of_7 : decode cX11_of 7 = .ok (.ifnonnull 5, 3) := by decide +kernel
theorem dX11_of_10 : decode cX11_of 10 = .ok (.iconst (-1), 1) := by decide +kernel
theorem dX11_of_11 : decode cX11_of 11 = .ok (.ireturn, 1) := by decide +kernel
theorem dX11_of_12 : decode cX11_of 12 = .ok (.iload_n 2, 1) := by decide +kernel
theorem dX11_of_13 : decode cX11_of 13 = .ok (.ifCond .ne 8, 3) := by decide +kernel
theorem dX11_of_16 : decode cX11_of 16 = .ok (.aload_n 3, 1) := by decide +kernel
theorem dX11_of_17 : decode cX11_of 17 = .ok (.getfield 132, 3) := by decide +kernel
theorem dX11_of_20 : decode cX11_of 20 = .ok (.ireturn, 1) := by decide +kernel
theorem dX11_of_21 : decode cX11_of 21 = .ok (.iload_n 2, 1) := by decide +kernel
theorem dX11_of_22 : decode cX11_of 22 = .ok (.iconst 1, 1) := by decide +kernel
theorem dX11_of_23 : decode cX11_of 23 = .ok (.if_icmp .ne 8, 3) := by decide +kernel
theorem dX11_of_26 : decode cX11_of 26 = .ok (.aload_n 3, 1) := by decide +kernel
theorem dX11_of_27 : decode cX11_of 27 = .ok (.getfield 137, 3) := by decide +kernel
theorem dX11_of_30 : decode cX11_of 30 = .ok (.ireturn, 1) := by decide +kernel
theorem dX11_of_31 : decode cX11_of 31 = .ok (.iload_n 2, 1) := by decide +kernel
theorem dX11_of_32 : decode cX11_of 32 = .ok (.bipush 10, 2) := by decide +kernel
theorem dX11_of_34 : decode cX11_of 34 = .ok (.isub, 1) := by decide +kernel
theorem dX11_of_35 : decode cX11_of 35 = .ok (.invokestatic 118, 3) := by decide +kernel
theorem dX11_of_38 : decode cX11_of 38 = .ok (.ifCond .ne 5, 3) := by decide +kernel
theorem dX11_of_41 : decode cX11_of 41 = .ok (.iconst (-1), 1) := by decide +kernel
theorem dX11_of_42 : decode cX11_of 42 = .ok (.ireturn, 1) := by decide +kernel
theorem dX11_of_43 : decode cX11_of 43 = .ok (.aload_n 0, 1) := by decide +kernel
theorem dX11_of_44 : decode cX11_of 44 = .ok (.getfield 21, 3) := by decide +kernel
theorem dX11_of_47 : decode cX11_of 47 = .ok (.getfield 51, 3) := by decide +kernel
theorem dX11_of_50 : decode cX11_of 50 = .ok (.iload_n 2, 1) := by decide +kernel
theorem dX11_of_51 : decode cX11_of 51 = .ok (.bipush 10, 2) := by decide +kernel
theorem dX11_of_53 : decode cX11_of 53 = .ok (.isub, 1) := by decide +kernel
theorem dX11_of_54 : decode cX11_of 54 = .ok (.iaload, 1) := by decide +kernel
theorem dX11_of_55 : decode cX11_of 55 = .ok (.ifCond .ne 8, 3) := by decide +kernel
theorem dX11_of_58 : decode cX11_of 58 = .ok (.bipush (-5), 2) := by decide +kernel
theorem dX11_of_60 : decode cX11_of 60 = .ok (.goto 15, 3) := by decide +kernel
theorem dX11_of_63 : decode cX11_of 63 = .ok (.aload_n 0, 1) := by decide +kernel
theorem dX11_of_64 : decode cX11_of 64 = .ok (.aload_n 3, 1) := by decide +kernel
theorem dX11_of_65 : decode cX11_of 65 = .ok (.iload_n 2, 1) := by decide +kernel
theorem dX11_of_66 : decode cX11_of 66 = .ok (.bipush 10, 2) := by decide +kernel
theorem dX11_of_68 : decode cX11_of 68 = .ok (.isub, 1) := by decide +kernel
theorem dX11_of_69 : decode cX11_of 69 = .ok (.invokevirtual 140, 3) := by decide +kernel
theorem dX11_of_72 : decode cX11_of 72 = .ok (.invokestatic 144, 3) := by decide +kernel
theorem dX11_of_75 : decode cX11_of 75 = .ok (.ireturn, 1) := by decide +kernel
theorem dX11_draw_0 : decode cX11_draw 0 = .ok (.aload_n 0, 1) := by decide +kernel
theorem dX11_draw_1 : decode cX11_draw 1 = .ok (.iload_n 1, 1) := by decide +kernel
theorem dX11_draw_2 : decode cX11_draw 2 = .ok (.invokevirtual 114, 3) := by decide +kernel
theorem dX11_draw_5 : decode cX11_draw 5 = .ok (.astore_n 3, 1) := by decide +kernel
theorem dX11_draw_6 : decode cX11_draw 6 = .ok (.aload_n 3, 1) := by decide +kernel
theorem dX11_draw_7 : decode cX11_draw 7 = .ok (.ifnull 10, 3) := by decide +kernel
theorem dX11_draw_10 : decode cX11_draw 10 = .ok (.iload_n 2, 1) := by decide +kernel
theorem dX11_draw_11 : decode cX11_draw 11 = .ok (.invokestatic 118, 3) := by decide +kernel
theorem dX11_draw_14 : decode cX11_draw 14 = .ok (.ifCond .ne 7, 3) := by decide +kernel
theorem dX11_draw_17 : decode cX11_draw 17 = .ok (.sipush (-1001), 3) := by decide +kernel
theorem dX11_draw_20 : decode cX11_draw 20 = .ok (.ireturn, 1) := by decide +kernel
theorem dX11_draw_21 : decode cX11_draw 21 = .ok (.aload_n 0, 1) := by decide +kernel
theorem dX11_draw_22 : decode cX11_draw 22 = .ok (.getfield 21, 3) := by decide +kernel
theorem dX11_draw_25 : decode cX11_draw 25 = .ok (.getfield 51, 3) := by decide +kernel
theorem dX11_draw_28 : decode cX11_draw 28 = .ok (.iload_n 2, 1) := by decide +kernel
theorem dX11_draw_29 : decode cX11_draw 29 = .ok (.iaload, 1) := by decide +kernel
theorem dX11_draw_30 : decode cX11_draw 30 = .ok (.ifCond .eq 15, 3) := by decide +kernel
theorem dX11_draw_33 : decode cX11_draw 33 = .ok (.aload_n 0, 1) := by decide +kernel
theorem dX11_draw_34 : decode cX11_draw 34 = .ok (.getfield 21, 3) := by decide +kernel
theorem dX11_draw_37 : decode cX11_draw 37 = .ok (.getfield 83, 3) := by decide +kernel
theorem dX11_draw_40 : decode cX11_draw 40 = .ok (.bipush 99, 2) := by decide +kernel
theorem dX11_draw_42 : decode cX11_draw 42 = .ok (.if_icmp .lt 7, 3) := by decide +kernel
theorem dX11_draw_45 : decode cX11_draw 45 = .ok (.sipush (-1002), 3) := by decide +kernel
theorem dX11_draw_48 : decode cX11_draw 48 = .ok (.ireturn, 1) := by decide +kernel
theorem dX11_draw_49 : decode cX11_draw 49 = .ok (.aload_n 0, 1) := by decide +kernel
theorem dX11_draw_50 : decode cX11_draw 50 = .ok (.aload_n 3, 1) := by decide +kernel
theorem dX11_draw_51 : decode cX11_draw 51 = .ok (.iload_n 2, 1) := by decide +kernel
theorem dX11_draw_52 : decode cX11_draw 52 = .ok (.invokevirtual 140, 3) := by decide +kernel
theorem dX11_draw_55 : decode cX11_draw 55 = .ok (.istore 4, 2) := by decide +kernel
theorem dX11_draw_57 : decode cX11_draw 57 = .ok (.aload_n 0, 1) := by decide +kernel
theorem dX11_draw_58 : decode cX11_draw 58 = .ok (.getfield 21, 3) := by decide +kernel
theorem dX11_draw_61 : decode cX11_draw 61 = .ok (.getfield 76, 3) := by decide +kernel
theorem dX11_draw_64 : decode cX11_draw 64 = .ok (.iload 4, 2) := by decide +kernel
theorem dX11_draw_66 : decode cX11_draw 66 = .ok (.aload_n 0, 1) := by decide +kernel
theorem dX11_draw_67 : decode cX11_draw 67 = .ok (.getfield 21, 3) := by decide +kernel
theorem dX11_draw_70 : decode cX11_draw 70 = .ok (.getfield 93, 3) := by decide +kernel
theorem dX11_draw_73 : decode cX11_draw 73 = .ok (.invokevirtual 147, 3) := by decide +kernel
theorem dX11_draw_76 : decode cX11_draw 76 = .ok (.istore 5, 2) := by decide +kernel
theorem dX11_draw_78 : decode cX11_draw 78 = .ok (.aload_n 0, 1) := by decide +kernel
theorem dX11_draw_79 : decode cX11_draw 79 = .ok (.getfield 21, 3) := by decide +kernel
theorem dX11_draw_82 : decode cX11_draw 82 = .ok (.iload 4, 2) := by decide +kernel
theorem dX11_draw_84 : decode cX11_draw 84 = .ok (.aload_n 0, 1) := by decide +kernel
theorem dX11_draw_85 : decode cX11_draw 85 = .ok (.getfield 21, 3) := by decide +kernel
theorem dX11_draw_88 : decode cX11_draw 88 = .ok (.getfield 93, 3) := by decide +kernel
theorem dX11_draw_91 : decode cX11_draw 91 = .ok (.invokestatic 150, 3) := by decide +kernel
theorem dX11_draw_94 : decode cX11_draw 94 = .ok (.putfield 93, 3) := by decide +kernel
theorem dX11_draw_97 : decode cX11_draw 97 = .ok (.aload_n 0, 1) := by decide +kernel
theorem dX11_draw_98 : decode cX11_draw 98 = .ok (.getfield 21, 3) := by decide +kernel
theorem dX11_draw_101 : decode cX11_draw 101 = .ok (.getfield 51, 3) := by decide +kernel
theorem dX11_draw_104 : decode cX11_draw 104 = .ok (.iload_n 2, 1) := by decide +kernel
theorem dX11_draw_105 : decode cX11_draw 105 = .ok (.dup2, 1) := by decide +kernel
theorem dX11_draw_106 : decode cX11_draw 106 = .ok (.iaload, 1) := by decide +kernel
theorem dX11_draw_107 : decode cX11_draw 107 = .ok (.iconst 1, 1) := by decide +kernel
theorem dX11_draw_108 : decode cX11_draw 108 = .ok (.isub, 1) := by decide +kernel
theorem dX11_draw_109 : decode cX11_draw 109 = .ok (.iastore, 1) := by decide +kernel
theorem dX11_draw_110 : decode cX11_draw 110 = .ok (.aload_n 0, 1) := by decide +kernel
theorem dX11_draw_111 : decode cX11_draw 111 = .ok (.getfield 21, 3) := by decide +kernel
theorem dX11_draw_114 : decode cX11_draw 114 = .ok (.dup, 1) := by decide +kernel
theorem dX11_draw_115 : decode cX11_draw 115 = .ok (.getfield 83, 3) := by decide +kernel
theorem dX11_draw_118 : decode cX11_draw 118 = .ok (.iconst 1, 1) := by decide +kernel
theorem dX11_draw_119 : decode cX11_draw 119 = .ok (.iadd, 1) := by decide +kernel
theorem dX11_draw_120 : decode cX11_draw 120 = .ok (.putfield 83, 3) := by decide +kernel
theorem dX11_draw_123 : decode cX11_draw 123 = .ok (.iload 5, 2) := by decide +kernel
theorem dX11_draw_125 : decode cX11_draw 125 = .ok (.ireturn, 1) := by decide +kernel
theorem dX11_next_0 : decode cX11_next 0 = .ok (.iload_n 1, 1) := by decide +kernel
theorem dX11_next_1 : decode cX11_next 1 = .ok (.invokestatic 118, 3) := by decide +kernel
theorem dX11_next_4 : decode cX11_next 4 = .ok (.ifCond .eq 10, 3) := by decide +kernel
theorem dX11_next_7 : decode cX11_next 7 = .ok (.iload_n 2, 1) := by decide +kernel
theorem dX11_next_8 : decode cX11_next 8 = .ok (.invokestatic 153, 3) := by decide +kernel
theorem dX11_next_11 : decode cX11_next 11 = .ok (.ifCond .ne 7, 3) := by decide +kernel
theorem dX11_next_14 : decode cX11_next 14 = .ok (.ldc2_w 156, 3) := by decide +kernel
theorem dX11_next_17 : decode cX11_next 17 = .ok (.lreturn, 1) := by decide +kernel
theorem dX11_next_18 : decode cX11_next 18 = .ok (.aload_n 0, 1) := by decide +kernel
theorem dX11_next_19 : decode cX11_next 19 = .ok (.getfield 21, 3) := by decide +kernel
theorem dX11_next_22 : decode cX11_next 22 = .ok (.getfield 51, 3) := by decide +kernel
theorem dX11_next_25 : decode cX11_next 25 = .ok (.iload_n 1, 1) := by decide +kernel
theorem dX11_next_26 : decode cX11_next 26 = .ok (.iaload, 1) := by decide +kernel
theorem dX11_next_27 : decode cX11_next 27 = .ok (.i2l, 1) := by decide +kernel
theorem dX11_next_28 : decode cX11_next 28 = .ok (.iconst 1, 1) := by decide +kernel
theorem dX11_next_29 : decode cX11_next 29 = .ok (.aload_n 0, 1) := by decide +kernel
theorem dX11_next_30 : decode cX11_next 30 = .ok (.getfield 21, 3) := by decide +kernel
theorem dX11_next_33 : decode cX11_next 33 = .ok (.getfield 51, 3) := by decide +kernel
theorem dX11_next_36 : decode cX11_next 36 = .ok (.invokestatic 86, 3) := by decide +kernel
theorem dX11_next_39 : decode cX11_next 39 = .ok (.invokestatic 158, 3) := by decide +kernel
theorem dX11_next_42 : decode cX11_next 42 = .ok (.i2l, 1) := by decide +kernel
theorem dX11_next_43 : decode cX11_next 43 = .ok (.iload_n 2, 1) := by decide +kernel
theorem dX11_next_44 : decode cX11_next 44 = .ok (.invokestatic 163, 3) := by decide +kernel
theorem dX11_next_47 : decode cX11_next 47 = .ok (.lreturn, 1) := by decide +kernel
theorem dX11_run_0 : decode cX11_run 0 = .ok (.iload_n 1, 1) := by decide +kernel
theorem dX11_run_1 : decode cX11_run 1 = .ok (.invokestatic 118, 3) := by decide +kernel
theorem dX11_run_4 : decode cX11_run 4 = .ok (.ifCond .eq 20, 3) := by decide +kernel
theorem dX11_run_7 : decode cX11_run 7 = .ok (.iload_n 3, 1) := by decide +kernel
theorem dX11_run_8 : decode cX11_run 8 = .ok (.invokestatic 153, 3) := by decide +kernel
theorem dX11_run_11 : decode cX11_run 11 = .ok (.ifCond .eq 13, 3) := by decide +kernel
theorem dX11_run_14 : decode cX11_run 14 = .ok (.iload_n 2, 1) := by decide +kernel
theorem dX11_run_15 : decode cX11_run 15 = .ok (.iconst 1, 1) := by decide +kernel
theorem dX11_run_16 : decode cX11_run 16 = .ok (.if_icmp .lt 8, 3) := by decide +kernel
theorem dX11_run_19 : decode cX11_run 19 = .ok (.iload_n 2, 1) := by decide +kernel
theorem dX11_run_20 : decode cX11_run 20 = .ok (.iconst 5, 1) := by decide +kernel
theorem dX11_run_21 : decode cX11_run 21 = .ok (.if_icmp .le 7, 3) := by decide +kernel
theorem dX11_run_24 : decode cX11_run 24 = .ok (.ldc2_w 156, 3) := by decide +kernel
theorem dX11_run_27 : decode cX11_run 27 = .ok (.lreturn, 1) := by decide +kernel
theorem dX11_run_28 : decode cX11_run 28 = .ok (.aload_n 0, 1) := by decide +kernel
theorem dX11_run_29 : decode cX11_run 29 = .ok (.getfield 21, 3) := by decide +kernel
theorem dX11_run_32 : decode cX11_run 32 = .ok (.getfield 51, 3) := by decide +kernel
theorem dX11_run_35 : decode cX11_run 35 = .ok (.invokestatic 86, 3) := by decide +kernel
theorem dX11_run_38 : decode cX11_run 38 = .ok (.istore 4, 2) := by decide +kernel
theorem dX11_run_40 : decode cX11_run 40 = .ok (.aload_n 0, 1) := by decide +kernel
theorem dX11_run_41 : decode cX11_run 41 = .ok (.getfield 21, 3) := by decide +kernel
theorem dX11_run_44 : decode cX11_run 44 = .ok (.getfield 51, 3) := by decide +kernel
theorem dX11_run_47 : decode cX11_run 47 = .ok (.iload_n 1, 1) := by decide +kernel
theorem dX11_run_48 : decode cX11_run 48 = .ok (.iaload, 1) := by decide +kernel
theorem dX11_run_49 : decode cX11_run 49 = .ok (.iload_n 2, 1) := by decide +kernel
theorem dX11_run_50 : decode cX11_run 50 = .ok (.invokestatic 167, 3) := by decide +kernel
theorem dX11_run_53 : decode cX11_run 53 = .ok (.i2l, 1) := by decide +kernel
theorem dX11_run_54 : decode cX11_run 54 = .ok (.iconst 1, 1) := by decide +kernel
theorem dX11_run_55 : decode cX11_run 55 = .ok (.iload 4, 2) := by decide +kernel
theorem dX11_run_57 : decode cX11_run 57 = .ok (.iload_n 2, 1) := by decide +kernel
theorem dX11_run_58 : decode cX11_run 58 = .ok (.invokestatic 167, 3) := by decide +kernel
theorem dX11_run_61 : decode cX11_run 61 = .ok (.invokestatic 158, 3) := by decide +kernel
theorem dX11_run_64 : decode cX11_run 64 = .ok (.i2l, 1) := by decide +kernel
theorem dX11_run_65 : decode cX11_run 65 = .ok (.iload_n 3, 1) := by decide +kernel
theorem dX11_run_66 : decode cX11_run 66 = .ok (.invokestatic 163, 3) := by decide +kernel
theorem dX11_run_69 : decode cX11_run 69 = .ok (.lreturn, 1) := by decide +kernel
theorem dX11_by_0 : decode cX11_by 0 = .ok (.iload_n 1, 1) := by decide +kernel
theorem dX11_by_1 : decode cX11_by 1 = .ok (.invokestatic 118, 3) := by decide +kernel
theorem dX11_by_4 : decode cX11_by 4 = .ok (.ifCond .eq 31, 3) := by decide +kernel
theorem dX11_by_7 : decode cX11_by 7 = .ok (.iload 4, 2) := by decide +kernel
theorem dX11_by_9 : decode cX11_by 9 = .ok (.invokestatic 153, 3) := by decide +kernel
theorem dX11_by_12 : decode cX11_by 12 = .ok (.ifCond .eq 23, 3) := by decide +kernel
theorem dX11_by_15 : decode cX11_by 15 = .ok (.iload_n 2, 1) := by decide +kernel
theorem dX11_by_16 : decode cX11_by 16 = .ok (.iconst 1, 1) := by decide +kernel
theorem dX11_by_17 : decode cX11_by 17 = .ok (.if_icmp .lt 18, 3) := by decide +kernel
theorem dX11_by_20 : decode cX11_by 20 = .ok (.iload_n 2, 1) := by decide +kernel
theorem dX11_by_21 : decode cX11_by 21 = .ok (.bipush 15, 2) := by decide +kernel
theorem dX11_by_23 : decode cX11_by 23 = .ok (.if_icmp .gt 12, 3) := by decide +kernel
theorem dX11_by_26 : decode cX11_by 26 = .ok (.iload_n 3, 1) := by decide +kernel
theorem dX11_by_27 : decode cX11_by 27 = .ok (.ifCond .lt 8, 3) := by decide +kernel
theorem dX11_by_30 : decode cX11_by 30 = .ok (.iload_n 3, 1) := by decide +kernel
theorem dX11_by_31 : decode cX11_by 31 = .ok (.iconst 5, 1) := by decide +kernel
theorem dX11_by_32 : decode cX11_by 32 = .ok (.if_icmp .le 7, 3) := by decide +kernel
theorem dX11_by_35 : decode cX11_by 35 = .ok (.ldc2_w 156, 3) := by decide +kernel
theorem dX11_by_38 : decode cX11_by 38 = .ok (.lreturn, 1) := by decide +kernel
theorem dX11_by_39 : decode cX11_by 39 = .ok (.aload_n 0, 1) := by decide +kernel
theorem dX11_by_40 : decode cX11_by 40 = .ok (.getfield 21, 3) := by decide +kernel
theorem dX11_by_43 : decode cX11_by 43 = .ok (.getfield 51, 3) := by decide +kernel
theorem dX11_by_46 : decode cX11_by 46 = .ok (.invokestatic 86, 3) := by decide +kernel
theorem dX11_by_49 : decode cX11_by 49 = .ok (.istore 5, 2) := by decide +kernel
theorem dX11_by_51 : decode cX11_by 51 = .ok (.iload_n 2, 1) := by decide +kernel
theorem dX11_by_52 : decode cX11_by 52 = .ok (.iload 5, 2) := by decide +kernel
theorem dX11_by_54 : decode cX11_by 54 = .ok (.if_icmp .le 7, 3) := by decide +kernel
theorem dX11_by_57 : decode cX11_by 57 = .ok (.ldc2_w 156, 3) := by decide +kernel
theorem dX11_by_60 : decode cX11_by 60 = .ok (.lreturn, 1) := by decide +kernel
theorem dX11_by_61 : decode cX11_by 61 = .ok (.aload_n 0, 1) := by decide +kernel
theorem dX11_by_62 : decode cX11_by 62 = .ok (.getfield 21, 3) := by decide +kernel
theorem dX11_by_65 : decode cX11_by 65 = .ok (.getfield 51, 3) := by decide +kernel
theorem dX11_by_68 : decode cX11_by 68 = .ok (.iload_n 1, 1) := by decide +kernel
theorem dX11_by_69 : decode cX11_by 69 = .ok (.iaload, 1) := by decide +kernel
theorem dX11_by_70 : decode cX11_by 70 = .ok (.istore 6, 2) := by decide +kernel
theorem dX11_by_72 : decode cX11_by 72 = .ok (.lconst 0, 1) := by decide +kernel
theorem dX11_by_73 : decode cX11_by 73 = .ok (.lstore 7, 2) := by decide +kernel
theorem dX11_by_75 : decode cX11_by 75 = .ok (.iload_n 3, 1) := by decide +kernel
theorem dX11_by_76 : decode cX11_by 76 = .ok (.istore 9, 2) := by decide +kernel
theorem dX11_by_78 : decode cX11_by 78 = .ok (.iload 9, 2) := by decide +kernel
theorem dX11_by_80 : decode cX11_by 80 = .ok (.iload 6, 2) := by decide +kernel
theorem dX11_by_82 : decode cX11_by 82 = .ok (.if_icmp .gt 36, 3) := by decide +kernel
theorem dX11_by_85 : decode cX11_by 85 = .ok (.lload 7, 2) := by decide +kernel
theorem dX11_by_87 : decode cX11_by 87 = .ok (.iload 6, 2) := by decide +kernel
theorem dX11_by_89 : decode cX11_by 89 = .ok (.iload 9, 2) := by decide +kernel
theorem dX11_by_91 : decode cX11_by 91 = .ok (.invokestatic 167, 3) := by decide +kernel
theorem dX11_by_94 : decode cX11_by 94 = .ok (.i2l, 1) := by decide +kernel
theorem dX11_by_95 : decode cX11_by 95 = .ok (.iload 5, 2) := by decide +kernel
theorem dX11_by_97 : decode cX11_by 97 = .ok (.iload 6, 2) := by decide +kernel
theorem dX11_by_99 : decode cX11_by 99 = .ok (.isub, 1) := by decide +kernel
theorem dX11_by_100 : decode cX11_by 100 = .ok (.iload_n 2, 1) := by decide +kernel
theorem dX11_by_101 : decode cX11_by 101 = .ok (.iload 9, 2) := by decide +kernel
theorem dX11_by_103 : decode cX11_by 103 = .ok (.isub, 1) := by decide +kernel
theorem dX11_by_104 : decode cX11_by 104 = .ok (.invokestatic 167, 3) := by decide +kernel
theorem dX11_by_107 : decode cX11_by 107 = .ok (.i2l, 1) := by decide +kernel
theorem dX11_by_108 : decode cX11_by 108 = .ok (.lmul, 1) := by decide +kernel
theorem dX11_by_109 : decode cX11_by 109 = .ok (.ladd, 1) := by decide +kernel
theorem dX11_by_110 : decode cX11_by 110 = .ok (.lstore 7, 2) := by decide +kernel
theorem dX11_by_112 : decode cX11_by 112 = .ok (.iinc 9 1, 3) := by decide +kernel
theorem dX11_by_115 : decode cX11_by 115 = .ok (.goto (-37), 3) := by decide +kernel
theorem dX11_by_118 : decode cX11_by 118 = .ok (.lload 7, 2) := by decide +kernel
theorem dX11_by_120 : decode cX11_by 120 = .ok (.iload 5, 2) := by decide +kernel
theorem dX11_by_122 : decode cX11_by 122 = .ok (.iload_n 2, 1) := by decide +kernel
theorem dX11_by_123 : decode cX11_by 123 = .ok (.invokestatic 167, 3) := by decide +kernel
theorem dX11_by_126 : decode cX11_by 126 = .ok (.i2l, 1) := by decide +kernel
theorem dX11_by_127 : decode cX11_by 127 = .ok (.iload 4, 2) := by decide +kernel
theorem dX11_by_129 : decode cX11_by 129 = .ok (.invokestatic 163, 3) := by decide +kernel
theorem dX11_by_132 : decode cX11_by 132 = .ok (.lreturn, 1) := by decide +kernel
theorem dX11_first_0 : decode cX11_first 0 = .ok (.iload_n 1, 1) := by decide +kernel
theorem dX11_first_1 : decode cX11_first 1 = .ok (.invokestatic 118, 3) := by decide +kernel
theorem dX11_first_4 : decode cX11_first 4 = .ok (.ifCond .eq 22, 3) := by decide +kernel
theorem dX11_first_7 : decode cX11_first 7 = .ok (.iload_n 2, 1) := by decide +kernel
theorem dX11_first_8 : decode cX11_first 8 = .ok (.invokestatic 153, 3) := by decide +kernel
theorem dX11_first_11 : decode cX11_first 11 = .ok (.ifCond .eq 15, 3) := by decide +kernel
theorem dX11_first_14 : decode cX11_first 14 = .ok (.aload_n 0, 1) := by decide +kernel
theorem dX11_first_15 : decode cX11_first 15 = .ok (.getfield 21, 3) := by decide +kernel
theorem dX11_first_18 : decode cX11_first 18 = .ok (.getfield 51, 3) := by decide +kernel
theorem dX11_first_21 : decode cX11_first 21 = .ok (.iload_n 1, 1) := by decide +kernel
theorem dX11_first_22 : decode cX11_first 22 = .ok (.iaload, 1) := by decide +kernel
theorem dX11_first_23 : decode cX11_first 23 = .ok (.ifCond .ne 7, 3) := by decide +kernel
theorem dX11_first_26 : decode cX11_first 26 = .ok (.ldc2_w 156, 3) := by decide +kernel
theorem dX11_first_29 : decode cX11_first 29 = .ok (.lreturn, 1) := by decide +kernel
theorem dX11_first_30 : decode cX11_first 30 = .ok (.aload_n 0, 1) := by decide +kernel
theorem dX11_first_31 : decode cX11_first 31 = .ok (.getfield 21, 3) := by decide +kernel
theorem dX11_first_34 : decode cX11_first 34 = .ok (.getfield 51, 3) := by decide +kernel
theorem dX11_first_37 : decode cX11_first 37 = .ok (.invokestatic 86, 3) := by decide +kernel
theorem dX11_first_40 : decode cX11_first 40 = .ok (.iconst 1, 1) := by decide +kernel
theorem dX11_first_41 : decode cX11_first 41 = .ok (.iadd, 1) := by decide +kernel
theorem dX11_first_42 : decode cX11_first 42 = .ok (.i2l, 1) := by decide +kernel
theorem dX11_first_43 : decode cX11_first 43 = .ok (.aload_n 0, 1) := by decide +kernel
theorem dX11_first_44 : decode cX11_first 44 = .ok (.getfield 21, 3) := by decide +kernel
theorem dX11_first_47 : decode cX11_first 47 = .ok (.getfield 51, 3) := by decide +kernel
theorem dX11_first_50 : decode cX11_first 50 = .ok (.iload_n 1, 1) := by decide +kernel
theorem dX11_first_51 : decode cX11_first 51 = .ok (.iaload, 1) := by decide +kernel
theorem dX11_first_52 : decode cX11_first 52 = .ok (.iconst 1, 1) := by decide +kernel
theorem dX11_first_53 : decode cX11_first 53 = .ok (.iadd, 1) := by decide +kernel
theorem dX11_first_54 : decode cX11_first 54 = .ok (.i2l, 1) := by decide +kernel
theorem dX11_first_55 : decode cX11_first 55 = .ok (.iload_n 2, 1) := by decide +kernel
theorem dX11_first_56 : decode cX11_first 56 = .ok (.invokestatic 163, 3) := by decide +kernel
theorem dX11_first_59 : decode cX11_first 59 = .ok (.lreturn, 1) := by decide +kernel
theorem dX11_before_0 : decode cX11_before 0 = .ok (.iload_n 1, 1) := by decide +kernel
theorem dX11_before_1 : decode cX11_before 1 = .ok (.invokestatic 118, 3) := by decide +kernel
theorem dX11_before_4 : decode cX11_before 4 = .ok (.ifCond .eq 22, 3) := by decide +kernel
theorem dX11_before_7 : decode cX11_before 7 = .ok (.iload_n 2, 1) := by decide +kernel
theorem dX11_before_8 : decode cX11_before 8 = .ok (.invokestatic 118, 3) := by decide +kernel
theorem dX11_before_11 : decode cX11_before 11 = .ok (.ifCond .eq 15, 3) := by decide +kernel
theorem dX11_before_14 : decode cX11_before 14 = .ok (.iload_n 3, 1) := by decide +kernel
theorem dX11_before_15 : decode cX11_before 15 = .ok (.invokestatic 153, 3) := by decide +kernel
theorem dX11_before_18 : decode cX11_before 18 = .ok (.ifCond .eq 8, 3) := by decide +kernel
theorem dX11_before_21 : decode cX11_before 21 = .ok (.iload_n 1, 1) := by decide +kernel
theorem dX11_before_22 : decode cX11_before 22 = .ok (.iload_n 2, 1) := by decide +kernel
theorem dX11_before_23 : decode cX11_before 23 = .ok (.if_icmp .ne 7, 3) := by decide +kernel
theorem dX11_before_26 : decode cX11_before 26 = .ok (.ldc2_w 156, 3) := by decide +kernel
theorem dX11_before_29 : decode cX11_before 29 = .ok (.lreturn, 1) := by decide +kernel
theorem dX11_before_30 : decode cX11_before 30 = .ok (.aload_n 0, 1) := by decide +kernel
theorem dX11_before_31 : decode cX11_before 31 = .ok (.getfield 21, 3) := by decide +kernel
theorem dX11_before_34 : decode cX11_before 34 = .ok (.getfield 51, 3) := by decide +kernel
theorem dX11_before_37 : decode cX11_before 37 = .ok (.iload_n 1, 1) := by decide +kernel
theorem dX11_before_38 : decode cX11_before 38 = .ok (.iaload, 1) := by decide +kernel
theorem dX11_before_39 : decode cX11_before 39 = .ok (.aload_n 0, 1) := by decide +kernel
theorem dX11_before_40 : decode cX11_before 40 = .ok (.getfield 21, 3) := by decide +kernel
theorem dX11_before_43 : decode cX11_before 43 = .ok (.getfield 51, 3) := by decide +kernel
theorem dX11_before_46 : decode cX11_before 46 = .ok (.iload_n 2, 1) := by decide +kernel
theorem dX11_before_47 : decode cX11_before 47 = .ok (.iaload, 1) := by decide +kernel
theorem dX11_before_48 : decode cX11_before 48 = .ok (.iadd, 1) := by decide +kernel
theorem dX11_before_49 : decode cX11_before 49 = .ok (.istore 4, 2) := by decide +kernel
theorem dX11_before_51 : decode cX11_before 51 = .ok (.iload 4, 2) := by decide +kernel
theorem dX11_before_53 : decode cX11_before 53 = .ok (.ifCond .ne 9, 3) := by decide +kernel
theorem dX11_before_56 : decode cX11_before 56 = .ok (.ldc2_w 156, 3) := by decide +kernel
theorem dX11_before_59 : decode cX11_before 59 = .ok (.goto 20, 3) := by decide +kernel
theorem dX11_before_62 : decode cX11_before 62 = .ok (.aload_n 0, 1) := by decide +kernel
theorem dX11_before_63 : decode cX11_before 63 = .ok (.getfield 21, 3) := by decide +kernel
theorem dX11_before_66 : decode cX11_before 66 = .ok (.getfield 51, 3) := by decide +kernel
theorem dX11_before_69 : decode cX11_before 69 = .ok (.iload_n 1, 1) := by decide +kernel
theorem dX11_before_70 : decode cX11_before 70 = .ok (.iaload, 1) := by decide +kernel
theorem dX11_before_71 : decode cX11_before 71 = .ok (.i2l, 1) := by decide +kernel
theorem dX11_before_72 : decode cX11_before 72 = .ok (.iload 4, 2) := by decide +kernel
theorem dX11_before_74 : decode cX11_before 74 = .ok (.i2l, 1) := by decide +kernel
theorem dX11_before_75 : decode cX11_before 75 = .ok (.iload_n 3, 1) := by decide +kernel
theorem dX11_before_76 : decode cX11_before 76 = .ok (.invokestatic 163, 3) := by decide +kernel
theorem dX11_before_79 : decode cX11_before 79 = .ok (.lreturn, 1) := by decide +kernel
theorem dX11_orders_0 : decode cX11_orders 0 = .ok (.aload_n 0, 1) := by decide +kernel
theorem dX11_orders_1 : decode cX11_orders 1 = .ok (.getfield 21, 3) := by decide +kernel
theorem dX11_orders_4 : decode cX11_orders 4 = .ok (.getfield 51, 3) := by decide +kernel
theorem dX11_orders_7 : decode cX11_orders 7 = .ok (.invokestatic 170, 3) := by decide +kernel
theorem dX11_orders_10 : decode cX11_orders 10 = .ok (.i2l, 1) := by decide +kernel
theorem dX11_orders_11 : decode cX11_orders 11 = .ok (.lreturn, 1) := by decide +kernel
theorem dX11_mean_0 : decode cX11_mean 0 = .ok (.aload_n 0, 1) := by decide +kernel
theorem dX11_mean_1 : decode cX11_mean 1 = .ok (.iload_n 1, 1) := by decide +kernel
theorem dX11_mean_2 : decode cX11_mean 2 = .ok (.invokevirtual 114, 3) := by decide +kernel
theorem dX11_mean_5 : decode cX11_mean 5 = .ok (.astore 4, 2) := by decide +kernel
theorem dX11_mean_7 : decode cX11_mean 7 = .ok (.aload 4, 2) := by decide +kernel
theorem dX11_mean_9 : decode cX11_mean 9 = .ok (.ifnull 19, 3) := by decide +kernel
theorem dX11_mean_12 : decode cX11_mean 12 = .ok (.iload_n 2, 1) := by decide +kernel
theorem dX11_mean_13 : decode cX11_mean 13 = .ok (.ifCond .lt 15, 3) := by decide +kernel
theorem dX11_mean_16 : decode cX11_mean 16 = .ok (.iload_n 2, 1) := by decide +kernel
theorem dX11_mean_17 : decode cX11_mean 17 = .ok (.iconst 2, 1) := by decide +kernel
theorem dX11_mean_18 : decode cX11_mean 18 = .ok (.if_icmp .gt 10, 3) := by decide +kernel
theorem dX11_mean_21 : decode cX11_mean 21 = .ok (.iload_n 3, 1) := by decide +kernel
theorem dX11_mean_22 : decode cX11_mean 22 = .ok (.invokestatic 153, 3) := by decide +kernel
theorem dX11_mean_25 : decode cX11_mean 25 = .ok (.ifCond .ne 7, 3) := by decide +kernel
theorem dX11_mean_28 : decode cX11_mean 28 = .ok (.ldc2_w 156, 3) := by decide +kernel
theorem dX11_mean_31 : decode cX11_mean 31 = .ok (.lreturn, 1) := by decide +kernel
theorem dX11_mean_32 : decode cX11_mean 32 = .ok (.aload_n 0, 1) := by decide +kernel
theorem dX11_mean_33 : decode cX11_mean 33 = .ok (.getfield 40, 3) := by decide +kernel
theorem dX11_mean_36 : decode cX11_mean 36 = .ok (.aload_n 0, 1) := by decide +kernel
theorem dX11_mean_37 : decode cX11_mean 37 = .ok (.getfield 21, 3) := by decide +kernel
theorem dX11_mean_40 : decode cX11_mean 40 = .ok (.iconst (-1), 1) := by decide +kernel
theorem dX11_mean_41 : decode cX11_mean 41 = .ok (.iconst (-1), 1) := by decide +kernel
theorem dX11_mean_42 : decode cX11_mean 42 = .ok (.invokevirtual 173, 3) := by decide +kernel
theorem dX11_mean_45 : decode cX11_mean 45 = .ok (.aload_n 0, 1) := by decide +kernel
theorem dX11_mean_46 : decode cX11_mean 46 = .ok (.getfield 40, 3) := by decide +kernel
theorem dX11_mean_49 : decode cX11_mean 49 = .ok (.invokevirtual 177, 3) := by decide +kernel
theorem dX11_mean_52 : decode cX11_mean 52 = .ok (.aload_n 0, 1) := by decide +kernel
theorem dX11_mean_53 : decode cX11_mean 53 = .ok (.getfield 40, 3) := by decide +kernel
theorem dX11_mean_56 : decode cX11_mean 56 = .ok (.aload 4, 2) := by decide +kernel
theorem dX11_mean_58 : decode cX11_mean 58 = .ok (.iload_n 2, 1) := by decide +kernel
theorem dX11_mean_59 : decode cX11_mean 59 = .ok (.iconst 1, 1) := by decide +kernel
theorem dX11_mean_60 : decode cX11_mean 60 = .ok (.if_icmp .ne 8, 3) := by decide +kernel
theorem dX11_mean_63 : decode cX11_mean 63 = .ok (.bipush 7, 2) := by decide +kernel
theorem dX11_mean_65 : decode cX11_mean 65 = .ok (.goto 4, 3) := by decide +kernel
theorem dX11_mean_68 : decode cX11_mean 68 = .ok (.iconst 0, 1) := by decide +kernel
theorem dX11_mean_69 : decode cX11_mean 69 = .ok (.aload_n 0, 1) := by decide +kernel
theorem dX11_mean_70 : decode cX11_mean 70 = .ok (.getfield 21, 3) := by decide +kernel
theorem dX11_mean_73 : decode cX11_mean 73 = .ok (.getfield 93, 3) := by decide +kernel
theorem dX11_mean_76 : decode cX11_mean 76 = .ok (.invokevirtual 180, 3) := by decide +kernel
theorem dX11_mean_79 : decode cX11_mean 79 = .ok (.i2l, 1) := by decide +kernel
theorem dX11_mean_80 : decode cX11_mean 80 = .ok (.lstore 5, 2) := by decide +kernel
theorem dX11_mean_82 : decode cX11_mean 82 = .ok (.iload_n 2, 1) := by decide +kernel
theorem dX11_mean_83 : decode cX11_mean 83 = .ok (.iconst 2, 1) := by decide +kernel
theorem dX11_mean_84 : decode cX11_mean 84 = .ok (.if_icmp .ne 23, 3) := by decide +kernel
theorem dX11_mean_87 : decode cX11_mean 87 = .ok (.aload_n 0, 1) := by decide +kernel
theorem dX11_mean_88 : decode cX11_mean 88 = .ok (.getfield 40, 3) := by decide +kernel
theorem dX11_mean_91 : decode cX11_mean 91 = .ok (.aload_n 0, 1) := by decide +kernel
theorem dX11_mean_92 : decode cX11_mean 92 = .ok (.getfield 21, 3) := by decide +kernel
theorem dX11_mean_95 : decode cX11_mean 95 = .ok (.getfield 93, 3) := by decide +kernel
theorem dX11_mean_98 : decode cX11_mean 98 = .ok (.invokevirtual 184, 3) := by decide +kernel
theorem dX11_mean_101 : decode cX11_mean 101 = .ok (.i2l, 1) := by decide +kernel
theorem dX11_mean_102 : decode cX11_mean 102 = .ok (.lload 5, 2) := by decide +kernel
theorem dX11_mean_104 : decode cX11_mean 104 = .ok (.lsub, 1) := by decide +kernel
theorem dX11_mean_105 : decode cX11_mean 105 = .ok (.lstore 5, 2) := by decide +kernel
theorem dX11_mean_107 : decode cX11_mean 107 = .ok (.lload 5, 2) := by decide +kernel
theorem dX11_mean_109 : decode cX11_mean 109 = .ok (.aload_n 0, 1) := by decide +kernel
theorem dX11_mean_110 : decode cX11_mean 110 = .ok (.getfield 21, 3) := by decide +kernel
theorem dX11_mean_113 : decode cX11_mean 113 = .ok (.getfield 51, 3) := by decide +kernel
theorem dX11_mean_116 : decode cX11_mean 116 = .ok (.invokestatic 170, 3) := by decide +kernel
theorem dX11_mean_119 : decode cX11_mean 119 = .ok (.i2l, 1) := by decide +kernel
theorem dX11_mean_120 : decode cX11_mean 120 = .ok (.iload_n 3, 1) := by decide +kernel
theorem dX11_mean_121 : decode cX11_mean 121 = .ok (.invokestatic 163, 3) := by decide +kernel
theorem dX11_mean_124 : decode cX11_mean 124 = .ok (.lreturn, 1) := by decide +kernel
theorem dX11_today_0 : decode cX11_today 0 = .ok (.iload_n 1, 1) := by decide +kernel
theorem dX11_today_1 : decode cX11_today 1 = .ok (.invokestatic 118, 3) := by decide +kernel
theorem dX11_today_4 : decode cX11_today 4 = .ok (.ifCond .ne 5, 3) := by decide +kernel
theorem dX11_today_7 : decode cX11_today 7 = .ok (.iconst (-1), 1) := by decide +kernel
theorem dX11_today_8 : decode cX11_today 8 = .ok (.ireturn, 1) := by decide +kernel
theorem dX11_today_9 : decode cX11_today 9 = .ok (.aload_n 0, 1) := by decide +kernel
theorem dX11_today_10 : decode cX11_today 10 = .ok (.getfield 21, 3) := by decide +kernel
theorem dX11_today_13 : decode cX11_today 13 = .ok (.getfield 51, 3) := by decide +kernel
theorem dX11_today_16 : decode cX11_today 16 = .ok (.iload_n 1, 1) := by decide +kernel
theorem dX11_today_17 : decode cX11_today 17 = .ok (.iaload, 1) := by decide +kernel
theorem dX11_today_18 : decode cX11_today 18 = .ok (.ifCond .ne 6, 3) := by decide +kernel
theorem dX11_today_21 : decode cX11_today 21 = .ok (.bipush (-3), 2) := by decide +kernel
theorem dX11_today_23 : decode cX11_today 23 = .ok (.ireturn, 1) := by decide +kernel
theorem dX11_today_24 : decode cX11_today 24 = .ok (.aload_n 0, 1) := by decide +kernel
theorem dX11_today_25 : decode cX11_today 25 = .ok (.getfield 40, 3) := by decide +kernel
theorem dX11_today_28 : decode cX11_today 28 = .ok (.aload_n 0, 1) := by decide +kernel
theorem dX11_today_29 : decode cX11_today 29 = .ok (.getfield 21, 3) := by decide +kernel
theorem dX11_today_32 : decode cX11_today 32 = .ok (.iconst (-1), 1) := by decide +kernel
theorem dX11_today_33 : decode cX11_today 33 = .ok (.iconst (-1), 1) := by decide +kernel
theorem dX11_today_34 : decode cX11_today 34 = .ok (.invokevirtual 173, 3) := by decide +kernel
theorem dX11_today_37 : decode cX11_today 37 = .ok (.aload_n 0, 1) := by decide +kernel
theorem dX11_today_38 : decode cX11_today 38 = .ok (.getfield 40, 3) := by decide +kernel
theorem dX11_today_41 : decode cX11_today 41 = .ok (.iload_n 1, 1) := by decide +kernel
theorem dX11_today_42 : decode cX11_today 42 = .ok (.invokevirtual 187, 3) := by decide +kernel
theorem dX11_today_45 : decode cX11_today 45 = .ok (.aload_n 0, 1) := by decide +kernel
theorem dX11_today_46 : decode cX11_today 46 = .ok (.getfield 40, 3) := by decide +kernel
theorem dX11_today_49 : decode cX11_today 49 = .ok (.iload_n 1, 1) := by decide +kernel
theorem dX11_today_50 : decode cX11_today 50 = .ok (.aload_n 0, 1) := by decide +kernel
theorem dX11_today_51 : decode cX11_today 51 = .ok (.getfield 21, 3) := by decide +kernel
theorem dX11_today_54 : decode cX11_today 54 = .ok (.getfield 93, 3) := by decide +kernel
theorem dX11_today_57 : decode cX11_today 57 = .ok (.invokevirtual 191, 3) := by decide +kernel
theorem dX11_today_60 : decode cX11_today 60 = .ok (.invokestatic 144, 3) := by decide +kernel
theorem dX11_today_63 : decode cX11_today 63 = .ok (.ireturn, 1) := by decide +kernel
theorem dX11_whatever_0 : decode cX11_whatever 0 = .ok (.aload_n 0, 1) := by decide +kernel
theorem dX11_whatever_1 : decode cX11_whatever 1 = .ok (.getfield 40, 3) := by decide +kernel
theorem dX11_whatever_4 : decode cX11_whatever 4 = .ok (.aload_n 0, 1) := by decide +kernel
theorem dX11_whatever_5 : decode cX11_whatever 5 = .ok (.getfield 21, 3) := by decide +kernel
theorem dX11_whatever_8 : decode cX11_whatever 8 = .ok (.iconst (-1), 1) := by decide +kernel
theorem dX11_whatever_9 : decode cX11_whatever 9 = .ok (.iconst (-1), 1) := by decide +kernel
theorem dX11_whatever_10 : decode cX11_whatever 10 = .ok (.invokevirtual 173, 3) := by decide +kernel
theorem dX11_whatever_13 : decode cX11_whatever 13 = .ok (.iconst 0, 1) := by decide +kernel
theorem dX11_whatever_14 : decode cX11_whatever 14 = .ok (.istore_n 1, 1) := by decide +kernel
theorem dX11_whatever_15 : decode cX11_whatever 15 = .ok (.iconst 0, 1) := by decide +kernel
theorem dX11_whatever_16 : decode cX11_whatever 16 = .ok (.istore_n 2, 1) := by decide +kernel
theorem dX11_whatever_17 : decode cX11_whatever 17 = .ok (.iload_n 2, 1) := by decide +kernel
theorem dX11_whatever_18 : decode cX11_whatever 18 = .ok (.iconst 3, 1) := by decide +kernel
theorem dX11_whatever_19 : decode cX11_whatever 19 = .ok (.if_icmp .ge 58, 3) := by decide +kernel
theorem dX11_whatever_22 : decode cX11_whatever 22 = .ok (.aload_n 0, 1) := by decide +kernel
theorem dX11_whatever_23 : decode cX11_whatever 23 = .ok (.getfield 40, 3) := by decide +kernel
theorem dX11_whatever_26 : decode cX11_whatever 26 = .ok (.invokevirtual 177, 3) := by decide +kernel
theorem dX11_whatever_29 : decode cX11_whatever 29 = .ok (.aload_n 0, 1) := by decide +kernel
theorem dX11_whatever_30 : decode cX11_whatever 30 = .ok (.getfield 40, 3) := by decide +kernel
theorem dX11_whatever_33 : decode cX11_whatever 33 = .ok (.iload_n 2, 1) := by decide +kernel
theorem dX11_whatever_34 : decode cX11_whatever 34 = .ok (.invokestatic 194, 3) := by decide +kernel
theorem dX11_whatever_37 : decode cX11_whatever 37 = .ok (.iconst 1, 1) := by decide +kernel
theorem dX11_whatever_38 : decode cX11_whatever 38 = .ok (.iload_n 2, 1) := by decide +kernel
theorem dX11_whatever_39 : decode cX11_whatever 39 = .ok (.ishl, 1) := by decide +kernel
theorem dX11_whatever_40 : decode cX11_whatever 40 = .ok (.aload_n 0, 1) := by decide +kernel
theorem dX11_whatever_41 : decode cX11_whatever 41 = .ok (.getfield 21, 3) := by decide +kernel
theorem dX11_whatever_44 : decode cX11_whatever 44 = .ok (.getfield 93, 3) := by decide +kernel
theorem dX11_whatever_47 : decode cX11_whatever 47 = .ok (.invokevirtual 180, 3) := by decide +kernel
theorem dX11_whatever_50 : decode cX11_whatever 50 = .ok (.istore_n 3, 1) := by decide +kernel
theorem dX11_whatever_51 : decode cX11_whatever 51 = .ok (.iload_n 3, 1) := by decide +kernel
theorem dX11_whatever_52 : decode cX11_whatever 52 = .ok (.aload_n 0, 1) := by decide +kernel
theorem dX11_whatever_53 : decode cX11_whatever 53 = .ok (.getfield 21, 3) := by decide +kernel
theorem dX11_whatever_56 : decode cX11_whatever 56 = .ok (.getfield 51, 3) := by decide +kernel
theorem dX11_whatever_59 : decode cX11_whatever 59 = .ok (.invokestatic 170, 3) := by decide +kernel
theorem dX11_whatever_62 : decode cX11_whatever 62 = .ok (.if_icmp .ne 9, 3) := by decide +kernel
theorem dX11_whatever_65 : decode cX11_whatever 65 = .ok (.iload_n 1, 1) := by decide +kernel
theorem dX11_whatever_66 : decode cX11_whatever 66 = .ok (.iconst 1, 1) := by decide +kernel
theorem dX11_whatever_67 : decode cX11_whatever 67 = .ok (.iload_n 2, 1) := by decide +kernel
theorem dX11_whatever_68 : decode cX11_whatever 68 = .ok (.ishl, 1) := by decide +kernel
theorem dX11_whatever_69 : decode cX11_whatever 69 = .ok (.ior, 1) := by decide +kernel
theorem dX11_whatever_70 : decode cX11_whatever 70 = .ok (.istore_n 1, 1) := by decide +kernel
theorem dX11_whatever_71 : decode cX11_whatever 71 = .ok (.iinc 2 1, 3) := by decide +kernel
theorem dX11_whatever_74 : decode cX11_whatever 74 = .ok (.goto (-57), 3) := by decide +kernel
theorem dX11_whatever_77 : decode cX11_whatever 77 = .ok (.iload_n 1, 1) := by decide +kernel
theorem dX11_whatever_78 : decode cX11_whatever 78 = .ok (.ireturn, 1) := by decide +kernel
theorem dX11_most_0 : decode cX11_most 0 = .ok (.aload_n 0, 1) := by decide +kernel
theorem dX11_most_1 : decode cX11_most 1 = .ok (.getfield 40, 3) := by decide +kernel
theorem dX11_most_4 : decode cX11_most 4 = .ok (.aload_n 0, 1) := by decide +kernel
theorem dX11_most_5 : decode cX11_most 5 = .ok (.getfield 21, 3) := by decide +kernel
theorem dX11_most_8 : decode cX11_most 8 = .ok (.iconst (-1), 1) := by decide +kernel
theorem dX11_most_9 : decode cX11_most 9 = .ok (.iconst (-1), 1) := by decide +kernel
theorem dX11_most_10 : decode cX11_most 10 = .ok (.invokevirtual 173, 3) := by decide +kernel
theorem dX11_most_13 : decode cX11_most 13 = .ok (.aload_n 0, 1) := by decide +kernel
theorem dX11_most_14 : decode cX11_most 14 = .ok (.getfield 40, 3) := by decide +kernel
theorem dX11_most_17 : decode cX11_most 17 = .ok (.invokevirtual 177, 3) := by decide +kernel
theorem dX11_most_20 : decode cX11_most 20 = .ok (.aload_n 0, 1) := by decide +kernel
theorem dX11_most_21 : decode cX11_most 21 = .ok (.getfield 40, 3) := by decide +kernel
theorem dX11_most_24 : decode cX11_most 24 = .ok (.aload_n 0, 1) := by decide +kernel
theorem dX11_most_25 : decode cX11_most 25 = .ok (.getfield 21, 3) := by decide +kernel
theorem dX11_most_28 : decode cX11_most 28 = .ok (.getfield 93, 3) := by decide +kernel
theorem dX11_most_31 : decode cX11_most 31 = .ok (.invokevirtual 197, 3) := by decide +kernel
theorem dX11_most_34 : decode cX11_most 34 = .ok (.ireturn, 1) := by decide +kernel
theorem dX11_put_0 : decode cX11_put 0 = .ok (.iload_n 1, 1) := by decide +kernel
theorem dX11_put_1 : decode cX11_put 1 = .ok (.invokestatic 118, 3) := by decide +kernel
theorem dX11_put_4 : decode cX11_put 4 = .ok (.ifCond .eq 23, 3) := by decide +kernel
theorem dX11_put_7 : decode cX11_put 7 = .ok (.iload_n 2, 1) := by decide +kernel
theorem dX11_put_8 : decode cX11_put 8 = .ok (.invokestatic 153, 3) := by decide +kernel
theorem dX11_put_11 : decode cX11_put 11 = .ok (.ifCond .eq 16, 3) := by decide +kernel
theorem dX11_put_14 : decode cX11_put 14 = .ok (.aload_n 0, 1) := by decide +kernel
theorem dX11_put_15 : decode cX11_put 15 = .ok (.getfield 21, 3) := by decide +kernel
theorem dX11_put_18 : decode cX11_put 18 = .ok (.getfield 51, 3) := by decide +kernel
theorem dX11_put_21 : decode cX11_put 21 = .ok (.iload_n 1, 1) := by decide +kernel
theorem dX11_put_22 : decode cX11_put 22 = .ok (.iaload, 1) := by decide +kernel
theorem dX11_put_23 : decode cX11_put 23 = .ok (.iconst 5, 1) := by decide +kernel
theorem dX11_put_24 : decode cX11_put 24 = .ok (.if_icmp .lt 7, 3) := by decide +kernel
theorem dX11_put_27 : decode cX11_put 27 = .ok (.ldc2_w 156, 3) := by decide +kernel
theorem dX11_put_30 : decode cX11_put 30 = .ok (.lreturn, 1) := by decide +kernel
theorem dX11_put_31 : decode cX11_put 31 = .ok (.aload_n 0, 1) := by decide +kernel
theorem dX11_put_32 : decode cX11_put 32 = .ok (.getfield 40, 3) := by decide +kernel
theorem dX11_put_35 : decode cX11_put 35 = .ok (.aload_n 0, 1) := by decide +kernel
theorem dX11_put_36 : decode cX11_put 36 = .ok (.getfield 21, 3) := by decide +kernel
theorem dX11_put_39 : decode cX11_put 39 = .ok (.iconst (-1), 1) := by decide +kernel
theorem dX11_put_40 : decode cX11_put 40 = .ok (.iconst (-1), 1) := by decide +kernel
theorem dX11_put_41 : decode cX11_put 41 = .ok (.invokevirtual 173, 3) := by decide +kernel
theorem dX11_put_44 : decode cX11_put 44 = .ok (.aload_n 0, 1) := by decide +kernel
theorem dX11_put_45 : decode cX11_put 45 = .ok (.getfield 44, 3) := by decide +kernel
theorem dX11_put_48 : decode cX11_put 48 = .ok (.aload_n 0, 1) := by decide +kernel
theorem dX11_put_49 : decode cX11_put 49 = .ok (.getfield 21, 3) := by decide +kernel
theorem dX11_put_52 : decode cX11_put 52 = .ok (.iload_n 1, 1) := by decide +kernel
theorem dX11_put_53 : decode cX11_put 53 = .ok (.iconst (-1), 1) := by decide +kernel
theorem dX11_put_54 : decode cX11_put 54 = .ok (.invokevirtual 173, 3) := by decide +kernel
theorem dX11_put_57 : decode cX11_put 57 = .ok (.aload_n 0, 1) := by decide +kernel
theorem dX11_put_58 : decode cX11_put 58 = .ok (.getfield 21, 3) := by decide +kernel
theorem dX11_put_61 : decode cX11_put 61 = .ok (.getfield 51, 3) := by decide +kernel
theorem dX11_put_64 : decode cX11_put 64 = .ok (.invokestatic 170, 3) := by decide +kernel
theorem dX11_put_67 : decode cX11_put 67 = .ok (.i2l, 1) := by decide +kernel
theorem dX11_put_68 : decode cX11_put 68 = .ok (.lstore_n 3, 1) := by decide +kernel
theorem dX11_put_69 : decode cX11_put 69 = .ok (.aload_n 0, 1) := by decide +kernel
theorem dX11_put_70 : decode cX11_put 70 = .ok (.getfield 44, 3) := by decide +kernel
theorem dX11_put_73 : decode cX11_put 73 = .ok (.invokevirtual 200, 3) := by decide +kernel
theorem dX11_put_76 : decode cX11_put 76 = .ok (.i2l, 1) := by decide +kernel
theorem dX11_put_77 : decode cX11_put 77 = .ok (.lstore 5, 2) := by decide +kernel
theorem dX11_put_79 : decode cX11_put 79 = .ok (.aload_n 0, 1) := by decide +kernel
theorem dX11_put_80 : decode cX11_put 80 = .ok (.getfield 44, 3) := by decide +kernel
theorem dX11_put_83 : decode cX11_put 83 = .ok (.aload_n 0, 1) := by decide +kernel
theorem dX11_put_84 : decode cX11_put 84 = .ok (.getfield 21, 3) := by decide +kernel
theorem dX11_put_87 : decode cX11_put 87 = .ok (.getfield 93, 3) := by decide +kernel
theorem dX11_put_90 : decode cX11_put 90 = .ok (.invokevirtual 184, 3) := by decide +kernel
theorem dX11_put_93 : decode cX11_put 93 = .ok (.i2l, 1) := by decide +kernel
theorem dX11_put_94 : decode cX11_put 94 = .ok (.lload_n 3, 1) := by decide +kernel
theorem dX11_put_95 : decode cX11_put 95 = .ok (.lmul, 1) := by decide +kernel
theorem dX11_put_96 : decode cX11_put 96 = .ok (.aload_n 0, 1) := by decide +kernel
theorem dX11_put_97 : decode cX11_put 97 = .ok (.getfield 40, 3) := by decide +kernel
theorem dX11_put_100 : decode cX11_put 100 = .ok (.aload_n 0, 1) := by decide +kernel
theorem dX11_put_101 : decode cX11_put 101 = .ok (.getfield 21, 3) := by decide +kernel
theorem dX11_put_104 : decode cX11_put 104 = .ok (.getfield 93, 3) := by decide +kernel
theorem dX11_put_107 : decode cX11_put 107 = .ok (.invokevirtual 184, 3) := by decide +kernel
theorem dX11_put_110 : decode cX11_put 110 = .ok (.i2l, 1) := by decide +kernel
theorem dX11_put_111 : decode cX11_put 111 = .ok (.lload 5, 2) := by decide +kernel
theorem dX11_put_113 : decode cX11_put 113 = .ok (.lmul, 1) := by decide +kernel
theorem dX11_put_114 : decode cX11_put 114 = .ok (.lsub, 1) := by decide +kernel
theorem dX11_put_115 : decode cX11_put 115 = .ok (.lstore 7, 2) := by decide +kernel
theorem dX11_put_117 : decode cX11_put 117 = .ok (.lload 7, 2) := by decide +kernel
theorem dX11_put_119 : decode cX11_put 119 = .ok (.lload_n 3, 1) := by decide +kernel
theorem dX11_put_120 : decode cX11_put 120 = .ok (.lload 5, 2) := by decide +kernel
theorem dX11_put_122 : decode cX11_put 122 = .ok (.lmul, 1) := by decide +kernel
theorem dX11_put_123 : decode cX11_put 123 = .ok (.iload_n 2, 1) := by decide +kernel
theorem dX11_put_124 : decode cX11_put 124 = .ok (.invokestatic 163, 3) := by decide +kernel
theorem dX11_put_127 : decode cX11_put 127 = .ok (.lreturn, 1) := by decide +kernel
theorem dX11_pass_0 : decode cX11_pass 0 = .ok (.iload_n 1, 1) := by decide +kernel
theorem dX11_pass_1 : decode cX11_pass 1 = .ok (.invokestatic 118, 3) := by decide +kernel
theorem dX11_pass_4 : decode cX11_pass 4 = .ok (.ifCond .eq 22, 3) := by decide +kernel
theorem dX11_pass_7 : decode cX11_pass 7 = .ok (.iload_n 2, 1) := by decide +kernel
theorem dX11_pass_8 : decode cX11_pass 8 = .ok (.invokestatic 153, 3) := by decide +kernel
theorem dX11_pass_11 : decode cX11_pass 11 = .ok (.ifCond .eq 15, 3) := by decide +kernel
theorem dX11_pass_14 : decode cX11_pass 14 = .ok (.aload_n 0, 1) := by decide +kernel
theorem dX11_pass_15 : decode cX11_pass 15 = .ok (.getfield 21, 3) := by decide +kernel
theorem dX11_pass_18 : decode cX11_pass 18 = .ok (.getfield 51, 3) := by decide +kernel
theorem dX11_pass_21 : decode cX11_pass 21 = .ok (.iload_n 1, 1) := by decide +kernel
theorem dX11_pass_22 : decode cX11_pass 22 = .ok (.iaload, 1) := by decide +kernel
theorem dX11_pass_23 : decode cX11_pass 23 = .ok (.ifCond .ne 7, 3) := by decide +kernel
theorem dX11_pass_26 : decode cX11_pass 26 = .ok (.ldc2_w 156, 3) := by decide +kernel
theorem dX11_pass_29 : decode cX11_pass 29 = .ok (.lreturn, 1) := by decide +kernel
theorem dX11_pass_30 : decode cX11_pass 30 = .ok (.aload_n 0, 1) := by decide +kernel
theorem dX11_pass_31 : decode cX11_pass 31 = .ok (.getfield 40, 3) := by decide +kernel
theorem dX11_pass_34 : decode cX11_pass 34 = .ok (.aload_n 0, 1) := by decide +kernel
theorem dX11_pass_35 : decode cX11_pass 35 = .ok (.getfield 21, 3) := by decide +kernel
theorem dX11_pass_38 : decode cX11_pass 38 = .ok (.iconst (-1), 1) := by decide +kernel
theorem dX11_pass_39 : decode cX11_pass 39 = .ok (.iconst (-1), 1) := by decide +kernel
theorem dX11_pass_40 : decode cX11_pass 40 = .ok (.invokevirtual 173, 3) := by decide +kernel
theorem dX11_pass_43 : decode cX11_pass 43 = .ok (.aload_n 0, 1) := by decide +kernel
theorem dX11_pass_44 : decode cX11_pass 44 = .ok (.getfield 40, 3) := by decide +kernel
theorem dX11_pass_47 : decode cX11_pass 47 = .ok (.aload_n 0, 1) := by decide +kernel
theorem dX11_pass_48 : decode cX11_pass 48 = .ok (.getfield 21, 3) := by decide +kernel
theorem dX11_pass_51 : decode cX11_pass 51 = .ok (.getfield 93, 3) := by decide +kernel
theorem dX11_pass_54 : decode cX11_pass 54 = .ok (.invokevirtual 184, 3) := by decide +kernel
theorem dX11_pass_57 : decode cX11_pass 57 = .ok (.i2l, 1) := by decide +kernel
theorem dX11_pass_58 : decode cX11_pass 58 = .ok (.lstore_n 3, 1) := by decide +kernel
theorem dX11_pass_59 : decode cX11_pass 59 = .ok (.aload_n 0, 1) := by decide +kernel
theorem dX11_pass_60 : decode cX11_pass 60 = .ok (.getfield 40, 3) := by decide +kernel
theorem dX11_pass_63 : decode cX11_pass 63 = .ok (.iload_n 1, 1) := by decide +kernel
theorem dX11_pass_64 : decode cX11_pass 64 = .ok (.invokevirtual 187, 3) := by decide +kernel
theorem dX11_pass_67 : decode cX11_pass 67 = .ok (.aload_n 0, 1) := by decide +kernel
theorem dX11_pass_68 : decode cX11_pass 68 = .ok (.getfield 40, 3) := by decide +kernel
theorem dX11_pass_71 : decode cX11_pass 71 = .ok (.iload_n 1, 1) := by decide +kernel
theorem dX11_pass_72 : decode cX11_pass 72 = .ok (.aload_n 0, 1) := by decide +kernel
theorem dX11_pass_73 : decode cX11_pass 73 = .ok (.getfield 21, 3) := by decide +kernel
theorem dX11_pass_76 : decode cX11_pass 76 = .ok (.getfield 93, 3) := by decide +kernel
theorem dX11_pass_79 : decode cX11_pass 79 = .ok (.invokevirtual 204, 3) := by decide +kernel
theorem dX11_pass_82 : decode cX11_pass 82 = .ok (.i2l, 1) := by decide +kernel
theorem dX11_pass_83 : decode cX11_pass 83 = .ok (.lstore 5, 2) := by decide +kernel
theorem dX11_pass_85 : decode cX11_pass 85 = .ok (.aload_n 0, 1) := by decide +kernel
theorem dX11_pass_86 : decode cX11_pass 86 = .ok (.getfield 21, 3) := by decide +kernel
theorem dX11_pass_89 : decode cX11_pass 89 = .ok (.getfield 51, 3) := by decide +kernel
theorem dX11_pass_92 : decode cX11_pass 92 = .ok (.invokestatic 170, 3) := by decide +kernel
theorem dX11_pass_95 : decode cX11_pass 95 = .ok (.i2l, 1) := by decide +kernel
theorem dX11_pass_96 : decode cX11_pass 96 = .ok (.lstore 7, 2) := by decide +kernel
theorem dX11_pass_98 : decode cX11_pass 98 = .ok (.aload_n 0, 1) := by decide +kernel
theorem dX11_pass_99 : decode cX11_pass 99 = .ok (.getfield 40, 3) := by decide +kernel
theorem dX11_pass_102 : decode cX11_pass 102 = .ok (.invokevirtual 200, 3) := by decide +kernel
theorem dX11_pass_105 : decode cX11_pass 105 = .ok (.i2l, 1) := by decide +kernel
theorem dX11_pass_106 : decode cX11_pass 106 = .ok (.lstore 9, 2) := by decide +kernel
theorem dX11_pass_108 : decode cX11_pass 108 = .ok (.lload_n 3, 1) := by decide +kernel
theorem dX11_pass_109 : decode cX11_pass 109 = .ok (.lload 9, 2) := by decide +kernel
theorem dX11_pass_111 : decode cX11_pass 111 = .ok (.lmul, 1) := by decide +kernel
theorem dX11_pass_112 : decode cX11_pass 112 = .ok (.lload 5, 2) := by decide +kernel
theorem dX11_pass_114 : decode cX11_pass 114 = .ok (.lload 7, 2) := by decide +kernel
theorem dX11_pass_116 : decode cX11_pass 116 = .ok (.lmul, 1) := by decide +kernel
theorem dX11_pass_117 : decode cX11_pass 117 = .ok (.lsub, 1) := by decide +kernel
theorem dX11_pass_118 : decode cX11_pass 118 = .ok (.lload 7, 2) := by decide +kernel
theorem dX11_pass_120 : decode cX11_pass 120 = .ok (.lload 9, 2) := by decide +kernel
theorem dX11_pass_122 : decode cX11_pass 122 = .ok (.lmul, 1) := by decide +kernel
theorem dX11_pass_123 : decode cX11_pass 123 = .ok (.iload_n 2, 1) := by decide +kernel
theorem dX11_pass_124 : decode cX11_pass 124 = .ok (.invokestatic 163, 3) := by decide +kernel
theorem dX11_pass_127 : decode cX11_pass 127 = .ok (.lreturn, 1) := by decide +kernel
theorem dX11_cover_0 : decode cX11_cover 0 = .ok (.iload_n 1, 1) := by decide +kernel
theorem dX11_cover_1 : decode cX11_cover 1 = .ok (.invokestatic 118, 3) := by decide +kernel
theorem dX11_cover_4 : decode cX11_cover 4 = .ok (.ifCond .eq 21, 3) := by decide +kernel
theorem dX11_cover_7 : decode cX11_cover 7 = .ok (.iload_n 3, 1) := by decide +kernel
theorem dX11_cover_8 : decode cX11_cover 8 = .ok (.invokestatic 153, 3) := by decide +kernel
theorem dX11_cover_11 : decode cX11_cover 11 = .ok (.ifCond .eq 14, 3) := by decide +kernel
theorem dX11_cover_14 : decode cX11_cover 14 = .ok (.iload_n 2, 1) := by decide +kernel
theorem dX11_cover_15 : decode cX11_cover 15 = .ok (.iconst 1, 1) := by decide +kernel
theorem dX11_cover_16 : decode cX11_cover 16 = .ok (.if_icmp .lt 9, 3) := by decide +kernel
theorem dX11_cover_19 : decode cX11_cover 19 = .ok (.iload_n 2, 1) := by decide +kernel
theorem dX11_cover_20 : decode cX11_cover 20 = .ok (.bipush 15, 2) := by decide +kernel
theorem dX11_cover_22 : decode cX11_cover 22 = .ok (.if_icmp .le 7, 3) := by decide +kernel
theorem dX11_cover_25 : decode cX11_cover 25 = .ok (.ldc2_w 156, 3) := by decide +kernel
theorem dX11_cover_28 : decode cX11_cover 28 = .ok (.lreturn, 1) := by decide +kernel
theorem dX11_cover_29 : decode cX11_cover 29 = .ok (.aload_n 0, 1) := by decide +kernel
theorem dX11_cover_30 : decode cX11_cover 30 = .ok (.getfield 21, 3) := by decide +kernel
theorem dX11_cover_33 : decode cX11_cover 33 = .ok (.getfield 51, 3) := by decide +kernel
theorem dX11_cover_36 : decode cX11_cover 36 = .ok (.invokestatic 86, 3) := by decide +kernel
theorem dX11_cover_39 : decode cX11_cover 39 = .ok (.istore 4, 2) := by decide +kernel
theorem dX11_cover_41 : decode cX11_cover 41 = .ok (.iload_n 2, 1) := by decide +kernel
theorem dX11_cover_42 : decode cX11_cover 42 = .ok (.iload 4, 2) := by decide +kernel
theorem dX11_cover_44 : decode cX11_cover 44 = .ok (.invokestatic 207, 3) := by decide +kernel
theorem dX11_cover_47 : decode cX11_cover 47 = .ok (.istore 5, 2) := by decide +kernel
theorem dX11_cover_49 : decode cX11_cover 49 = .ok (.iload 4, 2) := by decide +kernel
theorem dX11_cover_51 : decode cX11_cover 51 = .ok (.iload 5, 2) := by decide +kernel
theorem dX11_cover_53 : decode cX11_cover 53 = .ok (.invokestatic 167, 3) := by decide +kernel
theorem dX11_cover_56 : decode cX11_cover 56 = .ok (.i2l, 1) := by decide +kernel
theorem dX11_cover_57 : decode cX11_cover 57 = .ok (.lstore 6, 2) := by decide +kernel
theorem dX11_cover_59 : decode cX11_cover 59 = .ok (.iload 4, 2) := by decide +kernel
theorem dX11_cover_61 : decode cX11_cover 61 = .ok (.aload_n 0, 1) := by decide +kernel
theorem dX11_cover_62 : decode cX11_cover 62 = .ok (.getfield 21, 3) := by decide +kernel
theorem dX11_cover_65 : decode cX11_cover 65 = .ok (.getfield 51, 3) := by decide +kernel
theorem dX11_cover_68 : decode cX11_cover 68 = .ok (.iload_n 1, 1) := by decide +kernel
theorem dX11_cover_69 : decode cX11_cover 69 = .ok (.iaload, 1) := by decide +kernel
theorem dX11_cover_70 : decode cX11_cover 70 = .ok (.isub, 1) := by decide +kernel
theorem dX11_cover_71 : decode cX11_cover 71 = .ok (.iload 5, 2) := by decide +kernel
theorem dX11_cover_73 : decode cX11_cover 73 = .ok (.invokestatic 167, 3) := by decide +kernel
theorem dX11_cover_76 : decode cX11_cover 76 = .ok (.i2l, 1) := by decide +kernel
theorem dX11_cover_77 : decode cX11_cover 77 = .ok (.lstore 8, 2) := by decide +kernel
theorem dX11_cover_79 : decode cX11_cover 79 = .ok (.aload_n 0, 1) := by decide +kernel
theorem dX11_cover_80 : decode cX11_cover 80 = .ok (.getfield 21, 3) := by decide +kernel
theorem dX11_cover_83 : decode cX11_cover 83 = .ok (.getfield 76, 3) := by decide +kernel
theorem dX11_cover_86 : decode cX11_cover 86 = .ok (.getfield 80, 3) := by decide +kernel
theorem dX11_cover_89 : decode cX11_cover 89 = .ok (.i2l, 1) := by decide +kernel
theorem dX11_cover_90 : decode cX11_cover 90 = .ok (.lload 6, 2) := by decide +kernel
theorem dX11_cover_92 : decode cX11_cover 92 = .ok (.lload 8, 2) := by decide +kernel
theorem dX11_cover_94 : decode cX11_cover 94 = .ok (.lsub, 1) := by decide +kernel
theorem dX11_cover_95 : decode cX11_cover 95 = .ok (.lmul, 1) := by decide +kernel
theorem dX11_cover_96 : decode cX11_cover 96 = .ok (.lload 6, 2) := by decide +kernel
theorem dX11_cover_98 : decode cX11_cover 98 = .ok (.iload_n 3, 1) := by decide +kernel
theorem dX11_cover_99 : decode cX11_cover 99 = .ok (.invokestatic 163, 3) := by decide +kernel
theorem dX11_cover_102 : decode cX11_cover 102 = .ok (.lreturn, 1) := by decide +kernel
theorem dX11_right_0 : decode cX11_right 0 = .ok (.iload_n 1, 1) := by decide +kernel
theorem dX11_right_1 : decode cX11_right 1 = .ok (.invokestatic 118, 3) := by decide +kernel
theorem dX11_right_4 : decode cX11_right 4 = .ok (.ifCond .eq 22, 3) := by decide +kernel
theorem dX11_right_7 : decode cX11_right 7 = .ok (.iload_n 2, 1) := by decide +kernel
theorem dX11_right_8 : decode cX11_right 8 = .ok (.invokestatic 153, 3) := by decide +kernel
theorem dX11_right_11 : decode cX11_right 11 = .ok (.ifCond .eq 15, 3) := by decide +kernel
theorem dX11_right_14 : decode cX11_right 14 = .ok (.aload_n 0, 1) := by decide +kernel
theorem dX11_right_15 : decode cX11_right 15 = .ok (.getfield 21, 3) := by decide +kernel
theorem dX11_right_18 : decode cX11_right 18 = .ok (.getfield 51, 3) := by decide +kernel
theorem dX11_right_21 : decode cX11_right 21 = .ok (.iload_n 1, 1) := by decide +kernel
theorem dX11_right_22 : decode cX11_right 22 = .ok (.iaload, 1) := by decide +kernel
theorem dX11_right_23 : decode cX11_right 23 = .ok (.ifCond .ne 7, 3) := by decide +kernel
theorem dX11_right_26 : decode cX11_right 26 = .ok (.ldc2_w 156, 3) := by decide +kernel
theorem dX11_right_29 : decode cX11_right 29 = .ok (.lreturn, 1) := by decide +kernel
theorem dX11_right_30 : decode cX11_right 30 = .ok (.aload_n 0, 1) := by decide +kernel
theorem dX11_right_31 : decode cX11_right 31 = .ok (.getfield 40, 3) := by decide +kernel
theorem dX11_right_34 : decode cX11_right 34 = .ok (.aload_n 0, 1) := by decide +kernel
theorem dX11_right_35 : decode cX11_right 35 = .ok (.getfield 21, 3) := by decide +kernel
theorem dX11_right_38 : decode cX11_right 38 = .ok (.iconst (-1), 1) := by decide +kernel
theorem dX11_right_39 : decode cX11_right 39 = .ok (.iconst (-1), 1) := by decide +kernel
theorem dX11_right_40 : decode cX11_right 40 = .ok (.invokevirtual 173, 3) := by decide +kernel
theorem dX11_right_43 : decode cX11_right 43 = .ok (.aload_n 0, 1) := by decide +kernel
theorem dX11_right_44 : decode cX11_right 44 = .ok (.getfield 44, 3) := by decide +kernel
theorem dX11_right_47 : decode cX11_right 47 = .ok (.aload_n 0, 1) := by decide +kernel
theorem dX11_right_48 : decode cX11_right 48 = .ok (.getfield 21, 3) := by decide +kernel
theorem dX11_right_51 : decode cX11_right 51 = .ok (.iconst (-1), 1) := by decide +kernel
theorem dX11_right_52 : decode cX11_right 52 = .ok (.iload_n 1, 1) := by decide +kernel
theorem dX11_right_53 : decode cX11_right 53 = .ok (.invokevirtual 173, 3) := by decide +kernel
theorem dX11_right_56 : decode cX11_right 56 = .ok (.aload_n 0, 1) := by decide +kernel
theorem dX11_right_57 : decode cX11_right 57 = .ok (.getfield 40, 3) := by decide +kernel
theorem dX11_right_60 : decode cX11_right 60 = .ok (.aload_n 0, 1) := by decide +kernel
theorem dX11_right_61 : decode cX11_right 61 = .ok (.getfield 21, 3) := by decide +kernel
theorem dX11_right_64 : decode cX11_right 64 = .ok (.getfield 93, 3) := by decide +kernel
theorem dX11_right_67 : decode cX11_right 67 = .ok (.invokevirtual 184, 3) := by decide +kernel
theorem dX11_right_70 : decode cX11_right 70 = .ok (.i2l, 1) := by decide +kernel
theorem dX11_right_71 : decode cX11_right 71 = .ok (.aload_n 0, 1) := by decide +kernel
theorem dX11_right_72 : decode cX11_right 72 = .ok (.getfield 44, 3) := by decide +kernel
theorem dX11_right_75 : decode cX11_right 75 = .ok (.aload_n 0, 1) := by decide +kernel
theorem dX11_right_76 : decode cX11_right 76 = .ok (.getfield 21, 3) := by decide +kernel
theorem dX11_right_79 : decode cX11_right 79 = .ok (.getfield 93, 3) := by decide +kernel
theorem dX11_right_82 : decode cX11_right 82 = .ok (.invokevirtual 184, 3) := by decide +kernel
theorem dX11_right_85 : decode cX11_right 85 = .ok (.i2l, 1) := by decide +kernel
theorem dX11_right_86 : decode cX11_right 86 = .ok (.lsub, 1) := by decide +kernel
theorem dX11_right_87 : decode cX11_right 87 = .ok (.lstore_n 3, 1) := by decide +kernel
theorem dX11_right_88 : decode cX11_right 88 = .ok (.lload_n 3, 1) := by decide +kernel
theorem dX11_right_89 : decode cX11_right 89 = .ok (.aload_n 0, 1) := by decide +kernel
theorem dX11_right_90 : decode cX11_right 90 = .ok (.getfield 21, 3) := by decide +kernel
theorem dX11_right_93 : decode cX11_right 93 = .ok (.getfield 51, 3) := by decide +kernel
theorem dX11_right_96 : decode cX11_right 96 = .ok (.invokestatic 170, 3) := by decide +kernel
theorem dX11_right_99 : decode cX11_right 99 = .ok (.i2l, 1) := by decide +kernel
theorem dX11_right_100 : decode cX11_right 100 = .ok (.iload_n 2, 1) := by decide +kernel
theorem dX11_right_101 : decode cX11_right 101 = .ok (.invokestatic 163, 3) := by decide +kernel
theorem dX11_right_104 : decode cX11_right 104 = .ok (.lreturn, 1) := by decide +kernel
theorem dX11_book_0 : decode cX11_book 0 = .ok (.iload_n 1, 1) := by decide +kernel
theorem dX11_book_1 : decode cX11_book 1 = .ok (.iconst (-1), 1) := by decide +kernel
theorem dX11_book_2 : decode cX11_book 2 = .ok (.if_icmp .ne 13, 3) := by decide +kernel
theorem dX11_book_5 : decode cX11_book 5 = .ok (.aload_n 0, 1) := by decide +kernel
theorem dX11_book_6 : decode cX11_book 6 = .ok (.getfield 21, 3) := by decide +kernel
theorem dX11_book_9 : decode cX11_book 9 = .ok (.iconst 0, 1) := by decide +kernel
theorem dX11_book_10 : decode cX11_book 10 = .ok (.putfield 210, 3) := by decide +kernel
theorem dX11_book_13 : decode cX11_book 13 = .ok (.iconst 0, 1) := by decide +kernel
theorem dX11_book_14 : decode cX11_book 14 = .ok (.ireturn, 1) := by decide +kernel
theorem dX11_book_15 : decode cX11_book 15 = .ok (.iload_n 1, 1) := by decide +kernel
theorem dX11_book_16 : decode cX11_book 16 = .ok (.invokestatic 118, 3) := by decide +kernel
theorem dX11_book_19 : decode cX11_book 19 = .ok (.ifCond .ne 5, 3) := by decide +kernel
theorem dX11_book_22 : decode cX11_book 22 = .ok (.iconst (-1), 1) := by decide +kernel
theorem dX11_book_23 : decode cX11_book 23 = .ok (.ireturn, 1) := by decide +kernel
theorem dX11_book_24 : decode cX11_book 24 = .ok (.aload_n 0, 1) := by decide +kernel
theorem dX11_book_25 : decode cX11_book 25 = .ok (.getfield 21, 3) := by decide +kernel
theorem dX11_book_28 : decode cX11_book 28 = .ok (.getfield 210, 3) := by decide +kernel
theorem dX11_book_31 : decode cX11_book 31 = .ok (.bipush 12, 2) := by decide +kernel
theorem dX11_book_33 : decode cX11_book 33 = .ok (.if_icmp .lt 6, 3) := by decide +kernel
theorem dX11_book_36 : decode cX11_book 36 = .ok (.bipush (-4), 2) := by decide +kernel
theorem dX11_book_38 : decode cX11_book 38 = .ok (.ireturn, 1) := by decide +kernel
theorem dX11_book_39 : decode cX11_book 39 = .ok (.aload_n 0, 1) := by decide +kernel
theorem dX11_book_40 : decode cX11_book 40 = .ok (.getfield 21, 3) := by decide +kernel
theorem dX11_book_43 : decode cX11_book 43 = .ok (.getfield 213, 3) := by decide +kernel
theorem dX11_book_46 : decode cX11_book 46 = .ok (.aload_n 0, 1) := by decide +kernel
theorem dX11_book_47 : decode cX11_book 47 = .ok (.getfield 21, 3) := by decide +kernel
theorem dX11_book_50 : decode cX11_book 50 = .ok (.getfield 210, 3) := by decide +kernel
theorem dX11_book_53 : decode cX11_book 53 = .ok (.iload_n 1, 1) := by decide +kernel
theorem dX11_book_54 : decode cX11_book 54 = .ok (.iastore, 1) := by decide +kernel
theorem dX11_book_55 : decode cX11_book 55 = .ok (.aload_n 0, 1) := by decide +kernel
theorem dX11_book_56 : decode cX11_book 56 = .ok (.getfield 21, 3) := by decide +kernel
theorem dX11_book_59 : decode cX11_book 59 = .ok (.dup, 1) := by decide +kernel
theorem dX11_book_60 : decode cX11_book 60 = .ok (.getfield 210, 3) := by decide +kernel
theorem dX11_book_63 : decode cX11_book 63 = .ok (.iconst 1, 1) := by decide +kernel
theorem dX11_book_64 : decode cX11_book 64 = .ok (.iadd, 1) := by decide +kernel
theorem dX11_book_65 : decode cX11_book 65 = .ok (.putfield 210, 3) := by decide +kernel
theorem dX11_book_68 : decode cX11_book 68 = .ok (.aload_n 0, 1) := by decide +kernel
theorem dX11_book_69 : decode cX11_book 69 = .ok (.getfield 21, 3) := by decide +kernel
theorem dX11_book_72 : decode cX11_book 72 = .ok (.getfield 210, 3) := by decide +kernel
theorem dX11_book_75 : decode cX11_book 75 = .ok (.ireturn, 1) := by decide +kernel
theorem dX11_likely_0 : decode cX11_likely 0 = .ok (.iload_n 1, 1) := by decide +kernel
theorem dX11_likely_1 : decode cX11_likely 1 = .ok (.invokestatic 153, 3) := by decide +kernel
theorem dX11_likely_4 : decode cX11_likely 4 = .ok (.ifCond .ne 7, 3) := by decide +kernel
theorem dX11_likely_7 : decode cX11_likely 7 = .ok (.ldc2_w 156, 3) := by decide +kernel
theorem dX11_likely_10 : decode cX11_likely 10 = .ok (.lreturn, 1) := by decide +kernel
theorem dX11_likely_11 : decode cX11_likely 11 = .ok (.aload_n 0, 1) := by decide +kernel
theorem dX11_likely_12 : decode cX11_likely 12 = .ok (.aload_n 0, 1) := by decide +kernel
theorem dX11_likely_13 : decode cX11_likely 13 = .ok (.getfield 21, 3) := by decide +kernel
theorem dX11_likely_16 : decode cX11_likely 16 = .ok (.getfield 51, 3) := by decide +kernel
theorem dX11_likely_19 : decode cX11_likely 19 = .ok (.invokevirtual 216, 3) := by decide +kernel
theorem dX11_likely_22 : decode cX11_likely 22 = .ok (.i2l, 1) := by decide +kernel
theorem dX11_likely_23 : decode cX11_likely 23 = .ok (.aload_n 0, 1) := by decide +kernel
theorem dX11_likely_24 : decode cX11_likely 24 = .ok (.getfield 21, 3) := by decide +kernel
theorem dX11_likely_27 : decode cX11_likely 27 = .ok (.getfield 51, 3) := by decide +kernel
theorem dX11_likely_30 : decode cX11_likely 30 = .ok (.invokestatic 170, 3) := by decide +kernel
theorem dX11_likely_33 : decode cX11_likely 33 = .ok (.i2l, 1) := by decide +kernel
theorem dX11_likely_34 : decode cX11_likely 34 = .ok (.iload_n 1, 1) := by decide +kernel
theorem dX11_likely_35 : decode cX11_likely 35 = .ok (.invokestatic 163, 3) := by decide +kernel
theorem dX11_likely_38 : decode cX11_likely 38 = .ok (.lreturn, 1) := by decide +kernel
theorem dX11_judged_0 : decode cX11_judged 0 = .ok (.aload_n 0, 1) := by decide +kernel
theorem dX11_judged_1 : decode cX11_judged 1 = .ok (.iload_n 1, 1) := by decide +kernel
theorem dX11_judged_2 : decode cX11_judged 2 = .ok (.invokevirtual 114, 3) := by decide +kernel
theorem dX11_judged_5 : decode cX11_judged 5 = .ok (.astore_n 3, 1) := by decide +kernel
theorem dX11_judged_6 : decode cX11_judged 6 = .ok (.aload_n 3, 1) := by decide +kernel
theorem dX11_judged_7 : decode cX11_judged 7 = .ok (.ifnull 12, 3) := by decide +kernel
theorem dX11_judged_10 : decode cX11_judged 10 = .ok (.iload_n 2, 1) := by decide +kernel
theorem dX11_judged_11 : decode cX11_judged 11 = .ok (.ifCond .lt 8, 3) := by decide +kernel
theorem dX11_judged_14 : decode cX11_judged 14 = .ok (.iload_n 2, 1) := by decide +kernel
theorem dX11_judged_15 : decode cX11_judged 15 = .ok (.iconst 1, 1) := by decide +kernel
theorem dX11_judged_16 : decode cX11_judged 16 = .ok (.if_icmp .le 5, 3) := by decide +kernel
theorem dX11_judged_19 : decode cX11_judged 19 = .ok (.iconst (-1), 1) := by decide +kernel
theorem dX11_judged_20 : decode cX11_judged 20 = .ok (.ireturn, 1) := by decide +kernel
theorem dX11_judged_21 : decode cX11_judged 21 = .ok (.aload_n 0, 1) := by decide +kernel
theorem dX11_judged_22 : decode cX11_judged 22 = .ok (.getfield 40, 3) := by decide +kernel
theorem dX11_judged_25 : decode cX11_judged 25 = .ok (.aload_n 0, 1) := by decide +kernel
theorem dX11_judged_26 : decode cX11_judged 26 = .ok (.getfield 21, 3) := by decide +kernel
theorem dX11_judged_29 : decode cX11_judged 29 = .ok (.iconst (-1), 1) := by decide +kernel
theorem dX11_judged_30 : decode cX11_judged 30 = .ok (.iconst (-1), 1) := by decide +kernel
theorem dX11_judged_31 : decode cX11_judged 31 = .ok (.invokevirtual 173, 3) := by decide +kernel
theorem dX11_judged_34 : decode cX11_judged 34 = .ok (.iconst 0, 1) := by decide +kernel
theorem dX11_judged_35 : decode cX11_judged 35 = .ok (.istore 4, 2) := by decide +kernel
theorem dX11_judged_37 : decode cX11_judged 37 = .ok (.iconst 0, 1) := by decide +kernel
theorem dX11_judged_38 : decode cX11_judged 38 = .ok (.istore 5, 2) := by decide +kernel
theorem dX11_judged_40 : decode cX11_judged 40 = .ok (.aload_n 0, 1) := by decide +kernel
theorem dX11_judged_41 : decode cX11_judged 41 = .ok (.getfield 21, 3) := by decide +kernel
theorem dX11_judged_44 : decode cX11_judged 44 = .ok (.getfield 93, 3) := by decide +kernel
theorem dX11_judged_47 : decode cX11_judged 47 = .ok (.istore 6, 2) := by decide +kernel
theorem dX11_judged_49 : decode cX11_judged 49 = .ok (.iconst 0, 1) := by decide +kernel
theorem dX11_judged_50 : decode cX11_judged 50 = .ok (.istore 7, 2) := by decide +kernel
theorem dX11_judged_52 : decode cX11_judged 52 = .ok (.iload 7, 2) := by decide +kernel
theorem dX11_judged_54 : decode cX11_judged 54 = .ok (.aload_n 0, 1) := by decide +kernel
theorem dX11_judged_55 : decode cX11_judged 55 = .ok (.getfield 21, 3) := by decide +kernel
theorem dX11_judged_58 : decode cX11_judged 58 = .ok (.getfield 210, 3) := by decide +kernel
theorem dX11_judged_61 : decode cX11_judged 61 = .ok (.if_icmp .ge 99, 3) := by decide +kernel
theorem dX11_judged_64 : decode cX11_judged 64 = .ok (.aload_n 0, 1) := by decide +kernel
theorem dX11_judged_65 : decode cX11_judged 65 = .ok (.getfield 40, 3) := by decide +kernel
theorem dX11_judged_68 : decode cX11_judged 68 = .ok (.aload_n 0, 1) := by decide +kernel
theorem dX11_judged_69 : decode cX11_judged 69 = .ok (.getfield 21, 3) := by decide +kernel
theorem dX11_judged_72 : decode cX11_judged 72 = .ok (.getfield 213, 3) := by decide +kernel
theorem dX11_judged_75 : decode cX11_judged 75 = .ok (.iload 7, 2) := by decide +kernel
theorem dX11_judged_77 : decode cX11_judged 77 = .ok (.iaload, 1) := by decide +kernel
theorem dX11_judged_78 : decode cX11_judged 78 = .ok (.invokevirtual 219, 3) := by decide +kernel
theorem dX11_judged_81 : decode cX11_judged 81 = .ok (.ifCond .eq 79, 3) := by decide +kernel
theorem dX11_judged_84 : decode cX11_judged 84 = .ok (.aload_n 0, 1) := by decide +kernel
theorem dX11_judged_85 : decode cX11_judged 85 = .ok (.getfield 40, 3) := by decide +kernel
theorem dX11_judged_88 : decode cX11_judged 88 = .ok (.aload_n 0, 1) := by decide +kernel
theorem dX11_judged_89 : decode cX11_judged 89 = .ok (.getfield 21, 3) := by decide +kernel
theorem dX11_judged_92 : decode cX11_judged 92 = .ok (.getfield 213, 3) := by decide +kernel
theorem dX11_judged_95 : decode cX11_judged 95 = .ok (.iload 7, 2) := by decide +kernel
theorem dX11_judged_97 : decode cX11_judged 97 = .ok (.iaload, 1) := by decide +kernel
theorem dX11_judged_98 : decode cX11_judged 98 = .ok (.invokevirtual 187, 3) := by decide +kernel
theorem dX11_judged_101 : decode cX11_judged 101 = .ok (.aload_n 3, 1) := by decide +kernel
theorem dX11_judged_102 : decode cX11_judged 102 = .ok (.aload_n 0, 1) := by decide +kernel
theorem dX11_judged_103 : decode cX11_judged 103 = .ok (.getfield 40, 3) := by decide +kernel
theorem dX11_judged_106 : decode cX11_judged 106 = .ok (.aload_n 0, 1) := by decide +kernel
theorem dX11_judged_107 : decode cX11_judged 107 = .ok (.getfield 21, 3) := by decide +kernel
theorem dX11_judged_110 : decode cX11_judged 110 = .ok (.getfield 213, 3) := by decide +kernel
theorem dX11_judged_113 : decode cX11_judged 113 = .ok (.iload 7, 2) := by decide +kernel
theorem dX11_judged_115 : decode cX11_judged 115 = .ok (.iaload, 1) := by decide +kernel
theorem dX11_judged_116 : decode cX11_judged 116 = .ok (.iload 6, 2) := by decide +kernel
theorem dX11_judged_118 : decode cX11_judged 118 = .ok (.invokevirtual 222, 3) := by decide +kernel
theorem dX11_judged_121 : decode cX11_judged 121 = .ok (.istore 8, 2) := by decide +kernel
theorem dX11_judged_123 : decode cX11_judged 123 = .ok (.iload 5, 2) := by decide +kernel
theorem dX11_judged_125 : decode cX11_judged 125 = .ok (.aload_n 0, 1) := by decide +kernel
theorem dX11_judged_126 : decode cX11_judged 126 = .ok (.getfield 21, 3) := by decide +kernel
theorem dX11_judged_129 : decode cX11_judged 129 = .ok (.getfield 76, 3) := by decide +kernel
theorem dX11_judged_132 : decode cX11_judged 132 = .ok (.iload 8, 2) := by decide +kernel
theorem dX11_judged_134 : decode cX11_judged 134 = .ok (.iload 6, 2) := by decide +kernel
theorem dX11_judged_136 : decode cX11_judged 136 = .ok (.invokevirtual 147, 3) := by decide +kernel
theorem dX11_judged_139 : decode cX11_judged 139 = .ok (.iadd, 1) := by decide +kernel
theorem dX11_judged_140 : decode cX11_judged 140 = .ok (.istore 5, 2) := by decide +kernel
theorem dX11_judged_142 : decode cX11_judged 142 = .ok (.iload 8, 2) := by decide +kernel
theorem dX11_judged_144 : decode cX11_judged 144 = .ok (.iload 6, 2) := by decide +kernel
theorem dX11_judged_146 : decode cX11_judged 146 = .ok (.invokestatic 150, 3) := by decide +kernel
theorem dX11_judged_149 : decode cX11_judged 149 = .ok (.istore 6, 2) := by decide +kernel
theorem dX11_judged_151 : decode cX11_judged 151 = .ok (.iinc 4 1, 3) := by decide +kernel
theorem dX11_judged_154 : decode cX11_judged 154 = .ok (.iinc 7 1, 3) := by decide +kernel
theorem dX11_judged_157 : decode cX11_judged 157 = .ok (.goto (-105), 3) := by decide +kernel
theorem dX11_judged_160 : decode cX11_judged 160 = .ok (.iload_n 2, 1) := by decide +kernel
theorem dX11_judged_161 : decode cX11_judged 161 = .ok (.ifCond .ne 8, 3) := by decide +kernel
theorem dX11_judged_164 : decode cX11_judged 164 = .ok (.iload 4, 2) := by decide +kernel
theorem dX11_judged_166 : decode cX11_judged 166 = .ok (.goto 5, 3) := by decide +kernel
theorem dX11_judged_169 : decode cX11_judged 169 = .ok (.iload 5, 2) := by decide +kernel
theorem dX11_judged_171 : decode cX11_judged 171 = .ok (.ireturn, 1) := by decide +kernel
theorem dX11_other_0 : decode cX11_other 0 = .ok (.aload_n 0, 1) := by decide +kernel
theorem dX11_other_1 : decode cX11_other 1 = .ok (.getfield 21, 3) := by decide +kernel
theorem dX11_other_4 : decode cX11_other 4 = .ok (.getfield 226, 3) := by decide +kernel
theorem dX11_other_7 : decode cX11_other 7 = .ok (.iload_n 1, 1) := by decide +kernel
theorem dX11_other_8 : decode cX11_other 8 = .ok (.iload_n 2, 1) := by decide +kernel
theorem dX11_other_9 : decode cX11_other 9 = .ok (.invokestatic 54, 3) := by decide +kernel
theorem dX11_other_12 : decode cX11_other 12 = .ok (.ireturn, 1) := by decide +kernel
theorem dX11_same_0 : decode cX11_same 0 = .ok (.aload_n 0, 1) := by decide +kernel
theorem dX11_same_1 : decode cX11_same 1 = .ok (.aload_n 0, 1) := by decide +kernel
theorem dX11_same_2 : decode cX11_same 2 = .ok (.getfield 21, 3) := by decide +kernel
theorem dX11_same_5 : decode cX11_same 5 = .ok (.getfield 51, 3) := by decide +kernel
theorem dX11_same_8 : decode cX11_same 8 = .ok (.invokevirtual 216, 3) := by decide +kernel
theorem dX11_same_11 : decode cX11_same 11 = .ok (.i2l, 1) := by decide +kernel
theorem dX11_same_12 : decode cX11_same 12 = .ok (.aload_n 0, 1) := by decide +kernel
theorem dX11_same_13 : decode cX11_same 13 = .ok (.getfield 21, 3) := by decide +kernel
theorem dX11_same_16 : decode cX11_same 16 = .ok (.getfield 226, 3) := by decide +kernel
theorem dX11_same_19 : decode cX11_same 19 = .ok (.invokestatic 170, 3) := by decide +kernel
theorem dX11_same_22 : decode cX11_same 22 = .ok (.i2l, 1) := by decide +kernel
theorem dX11_same_23 : decode cX11_same 23 = .ok (.lmul, 1) := by decide +kernel
theorem dX11_same_24 : decode cX11_same 24 = .ok (.lstore_n 1, 1) := by decide +kernel
theorem dX11_same_25 : decode cX11_same 25 = .ok (.aload_n 0, 1) := by decide +kernel
theorem dX11_same_26 : decode cX11_same 26 = .ok (.aload_n 0, 1) := by decide +kernel
theorem dX11_same_27 : decode cX11_same 27 = .ok (.getfield 21, 3) := by decide +kernel
theorem dX11_same_30 : decode cX11_same 30 = .ok (.getfield 226, 3) := by decide +kernel
theorem dX11_same_33 : decode cX11_same 33 = .ok (.invokevirtual 216, 3) := by decide +kernel
theorem dX11_same_36 : decode cX11_same 36 = .ok (.i2l, 1) := by decide +kernel
theorem dX11_same_37 : decode cX11_same 37 = .ok (.aload_n 0, 1) := by decide +kernel
theorem dX11_same_38 : decode cX11_same 38 = .ok (.getfield 21, 3) := by decide +kernel
theorem dX11_same_41 : decode cX11_same 41 = .ok (.getfield 51, 3) := by decide +kernel
theorem dX11_same_44 : decode cX11_same 44 = .ok (.invokestatic 170, 3) := by decide +kernel
theorem dX11_same_47 : decode cX11_same 47 = .ok (.i2l, 1) := by decide +kernel
theorem dX11_same_48 : decode cX11_same 48 = .ok (.lmul, 1) := by decide +kernel
theorem dX11_same_49 : decode cX11_same 49 = .ok (.lstore_n 3, 1) := by decide +kernel
theorem dX11_same_50 : decode cX11_same 50 = .ok (.lload_n 1, 1) := by decide +kernel
theorem dX11_same_51 : decode cX11_same 51 = .ok (.lload_n 3, 1) := by decide +kernel
theorem dX11_same_52 : decode cX11_same 52 = .ok (.lcmp, 1) := by decide +kernel
theorem dX11_same_53 : decode cX11_same 53 = .ok (.ifCond .ne 5, 3) := by decide +kernel
theorem dX11_same_56 : decode cX11_same 56 = .ok (.iconst 0, 1) := by decide +kernel
theorem dX11_same_57 : decode cX11_same 57 = .ok (.ireturn, 1) := by decide +kernel
theorem dX11_same_58 : decode cX11_same 58 = .ok (.lload_n 1, 1) := by decide +kernel
theorem dX11_same_59 : decode cX11_same 59 = .ok (.lload_n 3, 1) := by decide +kernel
theorem dX11_same_60 : decode cX11_same 60 = .ok (.lcmp, 1) := by decide +kernel
theorem dX11_same_61 : decode cX11_same 61 = .ok (.ifCond .le 7, 3) := by decide +kernel
theorem dX11_same_64 : decode cX11_same 64 = .ok (.iconst 1, 1) := by decide +kernel
theorem dX11_same_65 : decode cX11_same 65 = .ok (.goto 4, 3) := by decide +kernel
theorem dX11_same_68 : decode cX11_same 68 = .ok (.iconst 2, 1) := by decide +kernel
theorem dX11_same_69 : decode cX11_same 69 = .ok (.ireturn, 1) := by decide +kernel
theorem dX11_act_0 : decode cX11_act 0 = .ok (.aload_n 0, 1) := by decide +kernel
theorem dX11_act_1 : decode cX11_act 1 = .ok (.getfield 47, 3) := by decide +kernel
theorem dX11_act_4 : decode cX11_act 4 = .ok (.iconst 0, 1) := by decide +kernel
theorem dX11_act_5 : decode cX11_act 5 = .ok (.iconst 0, 1) := by decide +kernel
theorem dX11_act_6 : decode cX11_act 6 = .ok (.iastore, 1) := by decide +kernel
theorem dX11_act_7 : decode cX11_act 7 = .ok (.aload_n 0, 1) := by decide +kernel
theorem dX11_act_8 : decode cX11_act 8 = .ok (.iload_n 1, 1) := by decide +kernel
theorem dX11_act_9 : decode cX11_act 9 = .ok (.invokevirtual 114, 3) := by decide +kernel
theorem dX11_act_12 : decode cX11_act 12 = .ok (.astore 4, 2) := by decide +kernel
theorem dX11_act_14 : decode cX11_act 14 = .ok (.aload 4, 2) := by decide +kernel
theorem dX11_act_16 : decode cX11_act 16 = .ok (.ifnull 12, 3) := by decide +kernel
theorem dX11_act_19 : decode cX11_act 19 = .ok (.iload_n 2, 1) := by decide +kernel
theorem dX11_act_20 : decode cX11_act 20 = .ok (.ifCond .lt 8, 3) := by decide +kernel
theorem dX11_act_23 : decode cX11_act 23 = .ok (.iload_n 2, 1) := by decide +kernel
theorem dX11_act_24 : decode cX11_act 24 = .ok (.iconst 3, 1) := by decide +kernel
theorem dX11_act_25 : decode cX11_act 25 = .ok (.if_icmp .lt 5, 3) := by decide +kernel
theorem dX11_act_28 : decode cX11_act 28 = .ok (.iconst 0, 1) := by decide +kernel
theorem dX11_act_29 : decode cX11_act 29 = .ok (.ireturn, 1) := by decide +kernel
theorem dX11_act_30 : decode cX11_act 30 = .ok (.iload_n 2, 1) := by decide +kernel
theorem dX11_act_31 : decode cX11_act 31 = .ok (.ifCond .ne 14, 3) := by decide +kernel
theorem dX11_act_34 : decode cX11_act 34 = .ok (.aload 4, 2) := by decide +kernel
theorem dX11_act_36 : decode cX11_act 36 = .ok (.iload_n 3, 1) := by decide +kernel
theorem dX11_act_37 : decode cX11_act 37 = .ok (.aload_n 0, 1) := by decide +kernel
theorem dX11_act_38 : decode cX11_act 38 = .ok (.getfield 47, 3) := by decide +kernel
theorem dX11_act_41 : decode cX11_act 41 = .ok (.invokevirtual 229, 3) := by decide +kernel
theorem dX11_act_44 : decode cX11_act 44 = .ok (.ireturn, 1) := by decide +kernel
theorem dX11_act_45 : decode cX11_act 45 = .ok (.iload_n 2, 1) := by decide +kernel
theorem dX11_act_46 : decode cX11_act 46 = .ok (.iconst 1, 1) := by decide +kernel
theorem dX11_act_47 : decode cX11_act 47 = .ok (.if_icmp .ne 16, 3) := by decide +kernel
theorem dX11_act_50 : decode cX11_act 50 = .ok (.aload 4, 2) := by decide +kernel
theorem dX11_act_52 : decode cX11_act 52 = .ok (.iload_n 3, 1) := by decide +kernel
theorem dX11_act_53 : decode cX11_act 53 = .ok (.aload_n 0, 1) := by decide +kernel
theorem dX11_act_54 : decode cX11_act 54 = .ok (.getfield 47, 3) := by decide +kernel
theorem dX11_act_57 : decode cX11_act 57 = .ok (.invokevirtual 233, 3) := by decide +kernel
theorem dX11_act_60 : decode cX11_act 60 = .ok (.goto 13, 3) := by decide +kernel
theorem dX11_act_63 : decode cX11_act 63 = .ok (.aload 4, 2) := by decide +kernel
theorem dX11_act_65 : decode cX11_act 65 = .ok (.iload_n 3, 1) := by decide +kernel
theorem dX11_act_66 : decode cX11_act 66 = .ok (.aload_n 0, 1) := by decide +kernel
theorem dX11_act_67 : decode cX11_act 67 = .ok (.getfield 47, 3) := by decide +kernel
theorem dX11_act_70 : decode cX11_act 70 = .ok (.invokevirtual 236, 3) := by decide +kernel
theorem dX11_act_73 : decode cX11_act 73 = .ok (.ireturn, 1) := by decide +kernel
theorem dX11_trace_0 : decode cX11_trace 0 = .ok (.iload_n 1, 1) := by decide +kernel
theorem dX11_trace_1 : decode cX11_trace 1 = .ok (.ifCond .lt 19, 3) := by decide +kernel
theorem dX11_trace_4 : decode cX11_trace 4 = .ok (.iload_n 1, 1) := by decide +kernel
theorem dX11_trace_5 : decode cX11_trace 5 = .ok (.bipush 20, 2) := by decide +kernel
theorem dX11_trace_7 : decode cX11_trace 7 = .ok (.if_icmp .ge 13, 3) := by decide +kernel
theorem dX11_trace_10 : decode cX11_trace 10 = .ok (.iload_n 1, 1) := by decide +kernel
theorem dX11_trace_11 : decode cX11_trace 11 = .ok (.aload_n 0, 1) := by decide +kernel
theorem dX11_trace_12 : decode cX11_trace 12 = .ok (.getfield 47, 3) := by decide +kernel
theorem dX11_trace_15 : decode cX11_trace 15 = .ok (.iconst 0, 1) := by decide +kernel
theorem dX11_trace_16 : decode cX11_trace 16 = .ok (.iaload, 1) := by decide +kernel
theorem dX11_trace_17 : decode cX11_trace 17 = .ok (.if_icmp .lt 5, 3) := by decide +kernel
theorem dX11_trace_20 : decode cX11_trace 20 = .ok (.iconst (-1), 1) := by decide +kernel
theorem dX11_trace_21 : decode cX11_trace 21 = .ok (.ireturn, 1) := by decide +kernel
theorem dX11_trace_22 : decode cX11_trace 22 = .ok (.aload_n 0, 1) := by decide +kernel
theorem dX11_trace_23 : decode cX11_trace 23 = .ok (.getfield 47, 3) := by decide +kernel
theorem dX11_trace_26 : decode cX11_trace 26 = .ok (.iload_n 1, 1) := by decide +kernel
theorem dX11_trace_27 : decode cX11_trace 27 = .ok (.iconst 1, 1) := by decide +kernel
theorem dX11_trace_28 : decode cX11_trace 28 = .ok (.iadd, 1) := by decide +kernel
theorem dX11_trace_29 : decode cX11_trace 29 = .ok (.iaload, 1) := by decide +kernel
theorem dX11_trace_30 : decode cX11_trace 30 = .ok (.ireturn, 1) := by decide +kernel
theorem dX11_as_0 : decode cX11_as 0 = .ok (.aload_n 0, 1) := by decide +kernel
theorem dX11_as_1 : decode cX11_as 1 = .ok (.iload_n 1, 1) := by decide +kernel
theorem dX11_as_2 : decode cX11_as 2 = .ok (.invokevirtual 114, 3) := by decide +kernel
theorem dX11_as_5 : decode cX11_as 5 = .ok (.astore_n 3, 1) := by decide +kernel
theorem dX11_as_6 : decode cX11_as 6 = .ok (.aload_n 3, 1) := by decide +kernel
theorem dX11_as_7 : decode cX11_as 7 = .ok (.ifnull 13, 3) := by decide +kernel
theorem dX11_as_10 : decode cX11_as 10 = .ok (.iload_n 2, 1) := by decide +kernel
theorem dX11_as_11 : decode cX11_as 11 = .ok (.ifCond .lt 9, 3) := by decide +kernel
theorem dX11_as_14 : decode cX11_as 14 = .ok (.iload_n 2, 1) := by decide +kernel
theorem dX11_as_15 : decode cX11_as 15 = .ok (.bipush 7, 2) := by decide +kernel
theorem dX11_as_17 : decode cX11_as 17 = .ok (.if_icmp .lt 5, 3) := by decide +kernel
theorem dX11_as_20 : decode cX11_as 20 = .ok (.iconst (-1), 1) := by decide +kernel
theorem dX11_as_21 : decode cX11_as 21 = .ok (.ireturn, 1) := by decide +kernel
theorem dX11_as_22 : decode cX11_as 22 = .ok (.aload_n 3, 1) := by decide +kernel
theorem dX11_as_23 : decode cX11_as 23 = .ok (.iload_n 2, 1) := by decide +kernel
theorem dX11_as_24 : decode cX11_as 24 = .ok (.invokestatic 239, 3) := by decide +kernel
theorem dX11_as_27 : decode cX11_as 27 = .ok (.ifCond .eq 10, 3) := by decide +kernel
theorem dX11_as_30 : decode cX11_as 30 = .ok (.aload_n 3, 1) := by decide +kernel
theorem dX11_as_31 : decode cX11_as 31 = .ok (.getfield 137, 3) := by decide +kernel
theorem dX11_as_34 : decode cX11_as 34 = .ok (.goto 5, 3) := by decide +kernel
theorem dX11_as_37 : decode cX11_as 37 = .ok (.bipush (-6), 2) := by decide +kernel
theorem dX11_as_39 : decode cX11_as 39 = .ok (.ireturn, 1) := by decide +kernel
theorem dX11_image_0 : decode cX11_image 0 = .ok (.aload_n 0, 1) := by decide +kernel
theorem dX11_image_1 : decode cX11_image 1 = .ok (.getfield 25, 3) := by decide +kernel
theorem dX11_image_4 : decode cX11_image 4 = .ok (.aload_n 0, 1) := by decide +kernel
theorem dX11_image_5 : decode cX11_image 5 = .ok (.getfield 21, 3) := by decide +kernel
theorem dX11_image_8 : decode cX11_image 8 = .ok (.invokevirtual 243, 3) := by decide +kernel
theorem dX11_image_11 : decode cX11_image 11 = .ok (.aload_n 0, 1) := by decide +kernel
theorem dX11_image_12 : decode cX11_image 12 = .ok (.iconst 1, 1) := by decide +kernel
theorem dX11_image_13 : decode cX11_image 13 = .ok (.putfield 247, 3) := by decide +kernel
theorem dX11_image_16 : decode cX11_image 16 = .ok (.aload_n 0, 1) := by decide +kernel
theorem dX11_image_17 : decode cX11_image 17 = .ok (.getfield 21, 3) := by decide +kernel
theorem dX11_image_20 : decode cX11_image 20 = .ok (.getfield 103, 3) := by decide +kernel
theorem dX11_image_23 : decode cX11_image 23 = .ok (.ireturn, 1) := by decide +kernel
theorem dX11_undo_0 : decode cX11_undo 0 = .ok (.aload_n 0, 1) := by decide +kernel
theorem dX11_undo_1 : decode cX11_undo 1 = .ok (.getfield 247, 3) := by decide +kernel
theorem dX11_undo_4 : decode cX11_undo 4 = .ok (.ifCond .ne 6, 3) := by decide +kernel
theorem dX11_undo_7 : decode cX11_undo 7 = .ok (.bipush (-3), 2) := by decide +kernel
theorem dX11_undo_9 : decode cX11_undo 9 = .ok (.ireturn, 1) := by decide +kernel
theorem dX11_undo_10 : decode cX11_undo 10 = .ok (.aload_n 0, 1) := by decide +kernel
theorem dX11_undo_11 : decode cX11_undo 11 = .ok (.getfield 21, 3) := by decide +kernel
theorem dX11_undo_14 : decode cX11_undo 14 = .ok (.aload_n 0, 1) := by decide +kernel
theorem dX11_undo_15 : decode cX11_undo 15 = .ok (.getfield 25, 3) := by decide +kernel
theorem dX11_undo_18 : decode cX11_undo 18 = .ok (.invokevirtual 243, 3) := by decide +kernel
theorem dX11_undo_21 : decode cX11_undo 21 = .ok (.aload_n 0, 1) := by decide +kernel
theorem dX11_undo_22 : decode cX11_undo 22 = .ok (.getfield 21, 3) := by decide +kernel
theorem dX11_undo_25 : decode cX11_undo 25 = .ok (.getfield 103, 3) := by decide +kernel
theorem dX11_undo_28 : decode cX11_undo 28 = .ok (.ireturn, 1) := by decide +kernel
theorem dX11_count_0 : decode cX11_count 0 = .ok (.iload_n 1, 1) := by decide +kernel
theorem dX11_count_1 : decode cX11_count 1 = .ok (.tableswitch 74 0 4 #[35, 43, 51, 59, 67], 35) := by decide +kernel
theorem dX11_count_36 : decode cX11_count 36 = .ok (.aload_n 0, 1) := by decide +kernel
theorem dX11_count_37 : decode cX11_count 37 = .ok (.getfield 21, 3) := by decide +kernel
theorem dX11_count_40 : decode cX11_count 40 = .ok (.getfield 103, 3) := by decide +kernel
theorem dX11_count_43 : decode cX11_count 43 = .ok (.ireturn, 1) := by decide +kernel
theorem dX11_count_44 : decode cX11_count 44 = .ok (.aload_n 0, 1) := by decide +kernel
theorem dX11_count_45 : decode cX11_count 45 = .ok (.getfield 21, 3) := by decide +kernel
theorem dX11_count_48 : decode cX11_count 48 = .ok (.getfield 65, 3) := by decide +kernel
theorem dX11_count_51 : decode cX11_count 51 = .ok (.ireturn, 1) := by decide +kernel
theorem dX11_count_52 : decode cX11_count 52 = .ok (.aload_n 0, 1) := by decide +kernel
theorem dX11_count_53 : decode cX11_count 53 = .ok (.getfield 21, 3) := by decide +kernel
theorem dX11_count_56 : decode cX11_count 56 = .ok (.getfield 210, 3) := by decide +kernel
theorem dX11_count_59 : decode cX11_count 59 = .ok (.ireturn, 1) := by decide +kernel
theorem dX11_count_60 : decode cX11_count 60 = .ok (.aload_n 0, 1) := by decide +kernel
theorem dX11_count_61 : decode cX11_count 61 = .ok (.getfield 21, 3) := by decide +kernel
theorem dX11_count_64 : decode cX11_count 64 = .ok (.getfield 58, 3) := by decide +kernel
theorem dX11_count_67 : decode cX11_count 67 = .ok (.ireturn, 1) := by decide +kernel
theorem dX11_count_68 : decode cX11_count 68 = .ok (.aload_n 0, 1) := by decide +kernel
theorem dX11_count_69 : decode cX11_count 69 = .ok (.getfield 47, 3) := by decide +kernel
theorem dX11_count_72 : decode cX11_count 72 = .ok (.iconst 0, 1) := by decide +kernel
theorem dX11_count_73 : decode cX11_count 73 = .ok (.iaload, 1) := by decide +kernel
theorem dX11_count_74 : decode cX11_count 74 = .ok (.ireturn, 1) := by decide +kernel
theorem dX11_count_75 : decode cX11_count 75 = .ok (.iconst (-1), 1) := by decide +kernel
theorem dX11_count_76 : decode cX11_count 76 = .ok (.ireturn, 1) := by decide +kernel
theorem dX11_isSort_0 : decode cX11_isSort 0 = .ok (.iload_n 0, 1) := by decide +kernel
theorem dX11_isSort_1 : decode cX11_isSort 1 = .ok (.ifCond .lt 12, 3) := by decide +kernel
theorem dX11_isSort_4 : decode cX11_isSort 4 = .ok (.iload_n 0, 1) := by decide +kernel
theorem dX11_isSort_5 : decode cX11_isSort 5 = .ok (.iconst 3, 1) := by decide +kernel
theorem dX11_isSort_6 : decode cX11_isSort 6 = .ok (.if_icmp .ge 7, 3) := by decide +kernel
theorem dX11_isSort_9 : decode cX11_isSort 9 = .ok (.iconst 1, 1) := by decide +kernel
theorem dX11_isSort_10 : decode cX11_isSort 10 = .ok (.goto 4, 3) := by decide +kernel
theorem dX11_isSort_13 : decode cX11_isSort 13 = .ok (.iconst 0, 1) := by decide +kernel
theorem dX11_isSort_14 : decode cX11_isSort 14 = .ok (.ireturn, 1) := by decide +kernel
theorem dX11_isPart_0 : decode cX11_isPart 0 = .ok (.iload_n 0, 1) := by decide +kernel
theorem dX11_isPart_1 : decode cX11_isPart 1 = .ok (.ifCond .eq 8, 3) := by decide +kernel
theorem dX11_isPart_4 : decode cX11_isPart 4 = .ok (.iload_n 0, 1) := by decide +kernel
theorem dX11_isPart_5 : decode cX11_isPart 5 = .ok (.iconst 1, 1) := by decide +kernel
theorem dX11_isPart_6 : decode cX11_isPart 6 = .ok (.if_icmp .ne 7, 3) := by decide +kernel
theorem dX11_isPart_9 : decode cX11_isPart 9 = .ok (.iconst 1, 1) := by decide +kernel
theorem dX11_isPart_10 : decode cX11_isPart 10 = .ok (.goto 4, 3) := by decide +kernel
theorem dX11_isPart_13 : decode cX11_isPart 13 = .ok (.iconst 0, 1) := by decide +kernel
theorem dX11_isPart_14 : decode cX11_isPart 14 = .ok (.ireturn, 1) := by decide +kernel
theorem dX11_workName_0 : decode cX11_workName 0 = .ok (.iload_n 0, 1) := by decide +kernel
theorem dX11_workName_1 : decode cX11_workName 1 = .ok (.iconst 3, 1) := by decide +kernel
theorem dX11_workName_2 : decode cX11_workName 2 = .ok (.if_icmp .ne 8, 3) := by decide +kernel
theorem dX11_workName_5 : decode cX11_workName 5 = .ok (.bipush (-5), 2) := by decide +kernel
theorem dX11_workName_7 : decode cX11_workName 7 = .ok (.goto 4, 3) := by decide +kernel
theorem dX11_workName_10 : decode cX11_workName 10 = .ok (.iload_n 0, 1) := by decide +kernel
theorem dX11_workName_11 : decode cX11_workName 11 = .ok (.ireturn, 1) := by decide +kernel
theorem dX11_changed_0 : decode cX11_changed 0 = .ok (.iload_n 1, 1) := by decide +kernel
theorem dX11_changed_1 : decode cX11_changed 1 = .ok (.invokestatic 118, 3) := by decide +kernel
theorem dX11_changed_4 : decode cX11_changed 4 = .ok (.ifCond .ne 5, 3) := by decide +kernel
theorem dX11_changed_7 : decode cX11_changed 7 = .ok (.iconst (-1), 1) := by decide +kernel
theorem dX11_changed_8 : decode cX11_changed 8 = .ok (.ireturn, 1) := by decide +kernel
theorem dX11_changed_9 : decode cX11_changed 9 = .ok (.iload_n 2, 1) := by decide +kernel
theorem dX11_changed_10 : decode cX11_changed 10 = .ok (.ifCond .lt 8, 3) := by decide +kernel
theorem dX11_changed_13 : decode cX11_changed 13 = .ok (.iload_n 2, 1) := by decide +kernel
theorem dX11_changed_14 : decode cX11_changed 14 = .ok (.iconst 5, 1) := by decide +kernel
theorem dX11_changed_15 : decode cX11_changed 15 = .ok (.if_icmp .le 6, 3) := by decide +kernel
theorem dX11_changed_18 : decode cX11_changed 18 = .ok (.bipush (-2), 2) := by decide +kernel
theorem dX11_changed_20 : decode cX11_changed 20 = .ok (.ireturn, 1) := by decide +kernel
theorem dX11_changed_21 : decode cX11_changed 21 = .ok (.aload_n 0, 1) := by decide +kernel
theorem dX11_changed_22 : decode cX11_changed 22 = .ok (.iload_n 1, 1) := by decide +kernel
theorem dX11_changed_23 : decode cX11_changed 23 = .ok (.iaload, 1) := by decide +kernel
theorem dX11_changed_24 : decode cX11_changed 24 = .ok (.istore_n 3, 1) := by decide +kernel
theorem dX11_changed_25 : decode cX11_changed 25 = .ok (.aload_n 0, 1) := by decide +kernel
theorem dX11_changed_26 : decode cX11_changed 26 = .ok (.iload_n 1, 1) := by decide +kernel
theorem dX11_changed_27 : decode cX11_changed 27 = .ok (.iload_n 2, 1) := by decide +kernel
theorem dX11_changed_28 : decode cX11_changed 28 = .ok (.iastore, 1) := by decide +kernel
theorem dX11_changed_29 : decode cX11_changed 29 = .ok (.iload_n 3, 1) := by decide +kernel
theorem dX11_changed_30 : decode cX11_changed 30 = .ok (.ireturn, 1) := by decide +kernel
theorem dX11_restOf_0 : decode cX11_restOf 0 = .ok (.iconst 0, 1) := by decide +kernel
theorem dX11_restOf_1 : decode cX11_restOf 1 = .ok (.istore_n 1, 1) := by decide +kernel
theorem dX11_restOf_2 : decode cX11_restOf 2 = .ok (.iconst 0, 1) := by decide +kernel
theorem dX11_restOf_3 : decode cX11_restOf 3 = .ok (.istore_n 2, 1) := by decide +kernel
theorem dX11_restOf_4 : decode cX11_restOf 4 = .ok (.iload_n 2, 1) := by decide +kernel
theorem dX11_restOf_5 : decode cX11_restOf 5 = .ok (.iconst 3, 1) := by decide +kernel
theorem dX11_restOf_6 : decode cX11_restOf 6 = .ok (.if_icmp .ge 15, 3) := by decide +kernel
theorem dX11_restOf_9 : decode cX11_restOf 9 = .ok (.iload_n 1, 1) := by decide +kernel
theorem dX11_restOf_10 : decode cX11_restOf 10 = .ok (.aload_n 0, 1) := by decide +kernel
theorem dX11_restOf_11 : decode cX11_restOf 11 = .ok (.iload_n 2, 1) := by decide +kernel
theorem dX11_restOf_12 : decode cX11_restOf 12 = .ok (.iaload, 1) := by decide +kernel
theorem dX11_restOf_13 : decode cX11_restOf 13 = .ok (.iadd, 1) := by decide +kernel
theorem dX11_restOf_14 : decode cX11_restOf 14 = .ok (.istore_n 1, 1) := by decide +kernel
theorem dX11_restOf_15 : decode cX11_restOf 15 = .ok (.iinc 2 1, 3) := by decide +kernel
theorem dX11_restOf_18 : decode cX11_restOf 18 = .ok (.goto (-14), 3) := by decide +kernel
theorem dX11_restOf_21 : decode cX11_restOf 21 = .ok (.iload_n 1, 1) := by decide +kernel
theorem dX11_restOf_22 : decode cX11_restOf 22 = .ok (.ireturn, 1) := by decide +kernel
theorem dX11_hasBit_0 : decode cX11_hasBit 0 = .ok (.iload_n 0, 1) := by decide +kernel
theorem dX11_hasBit_1 : decode cX11_hasBit 1 = .ok (.iload_n 1, 1) := by decide +kernel
theorem dX11_hasBit_2 : decode cX11_hasBit 2 = .ok (.ishr, 1) := by decide +kernel
theorem dX11_hasBit_3 : decode cX11_hasBit 3 = .ok (.iconst 1, 1) := by decide +kernel
theorem dX11_hasBit_4 : decode cX11_hasBit 4 = .ok (.iand, 1) := by decide +kernel
theorem dX11_hasBit_5 : decode cX11_hasBit 5 = .ok (.iconst 1, 1) := by decide +kernel
theorem dX11_hasBit_6 : decode cX11_hasBit 6 = .ok (.if_icmp .ne 7, 3) := by decide +kernel
theorem dX11_hasBit_9 : decode cX11_hasBit 9 = .ok (.iconst 1, 1) := by decide +kernel
theorem dX11_hasBit_10 : decode cX11_hasBit 10 = .ok (.goto 4, 3) := by decide +kernel
theorem dX11_hasBit_13 : decode cX11_hasBit 13 = .ok (.iconst 0, 1) := by decide +kernel
theorem dX11_hasBit_14 : decode cX11_hasBit 14 = .ok (.ireturn, 1) := by decide +kernel
theorem dX11_isIn_0 : decode cX11_isIn 0 = .ok (.iload_n 0, 1) := by decide +kernel
theorem dX11_isIn_1 : decode cX11_isIn 1 = .ok (.iload_n 1, 1) := by decide +kernel
theorem dX11_isIn_2 : decode cX11_isIn 2 = .ok (.iconst 2, 1) := by decide +kernel
theorem dX11_isIn_3 : decode cX11_isIn 3 = .ok (.imul, 1) := by decide +kernel
theorem dX11_isIn_4 : decode cX11_isIn 4 = .ok (.ishr, 1) := by decide +kernel
theorem dX11_isIn_5 : decode cX11_isIn 5 = .ok (.iconst 3, 1) := by decide +kernel
theorem dX11_isIn_6 : decode cX11_isIn 6 = .ok (.iand, 1) := by decide +kernel
theorem dX11_isIn_7 : decode cX11_isIn 7 = .ok (.ifCond .eq 7, 3) := by decide +kernel
theorem dX11_isIn_10 : decode cX11_isIn 10 = .ok (.iconst 1, 1) := by decide +kernel
theorem dX11_isIn_11 : decode cX11_isIn 11 = .ok (.goto 4, 3) := by decide +kernel
theorem dX11_isIn_14 : decode cX11_isIn 14 = .ok (.iconst 0, 1) := by decide +kernel
theorem dX11_isIn_15 : decode cX11_isIn 15 = .ok (.ireturn, 1) := by decide +kernel
theorem dX11_stageOf_0 : decode cX11_stageOf 0 = .ok (.iload_n 0, 1) := by decide +kernel
theorem dX11_stageOf_1 : decode cX11_stageOf 1 = .ok (.getstatic 100, 3) := by decide +kernel
theorem dX11_stageOf_4 : decode cX11_stageOf 4 = .ok (.iload_n 1, 1) := by decide +kernel
theorem dX11_stageOf_5 : decode cX11_stageOf 5 = .ok (.iaload, 1) := by decide +kernel
theorem dX11_stageOf_6 : decode cX11_stageOf 6 = .ok (.idiv, 1) := by decide +kernel
theorem dX11_stageOf_7 : decode cX11_stageOf 7 = .ok (.iconst 3, 1) := by decide +kernel
theorem dX11_stageOf_8 : decode cX11_stageOf 8 = .ok (.irem, 1) := by decide +kernel
theorem dX11_stageOf_9 : decode cX11_stageOf 9 = .ok (.ireturn, 1) := by decide +kernel
theorem dX11_after_0 : decode cX11_after 0 = .ok (.iload_n 0, 1) := by decide +kernel
theorem dX11_after_1 : decode cX11_after 1 = .ok (.ifCond .lt 18, 3) := by decide +kernel
theorem dX11_after_4 : decode cX11_after 4 = .ok (.iload_n 0, 1) := by decide +kernel
theorem dX11_after_5 : decode cX11_after 5 = .ok (.iconst 3, 1) := by decide +kernel
theorem dX11_after_6 : decode cX11_after 6 = .ok (.if_icmp .ge 13, 3) := by decide +kernel
theorem dX11_after_9 : decode cX11_after 9 = .ok (.iload_n 1, 1) := by decide +kernel
theorem dX11_after_10 : decode cX11_after 10 = .ok (.getstatic 100, 3) := by decide +kernel
theorem dX11_after_13 : decode cX11_after 13 = .ok (.iload_n 0, 1) := by decide +kernel
theorem dX11_after_14 : decode cX11_after 14 = .ok (.iaload, 1) := by decide +kernel
theorem dX11_after_15 : decode cX11_after 15 = .ok (.iadd, 1) := by decide +kernel
theorem dX11_after_16 : decode cX11_after 16 = .ok (.goto 4, 3) := by decide +kernel
theorem dX11_after_19 : decode cX11_after 19 = .ok (.iload_n 1, 1) := by decide +kernel
theorem dX11_after_20 : decode cX11_after 20 = .ok (.ireturn, 1) := by decide +kernel
theorem dX11_choose_0 : decode cX11_choose 0 = .ok (.iload_n 1, 1) := by decide +kernel
theorem dX11_choose_1 : decode cX11_choose 1 = .ok (.ifCond .lt 14, 3) := by decide +kernel
theorem dX11_choose_4 : decode cX11_choose 4 = .ok (.iload_n 1, 1) := by decide +kernel
theorem dX11_choose_5 : decode cX11_choose 5 = .ok (.iload_n 0, 1) := by decide +kernel
theorem dX11_choose_6 : decode cX11_choose 6 = .ok (.if_icmp .gt 9, 3) := by decide +kernel
theorem dX11_choose_9 : decode cX11_choose 9 = .ok (.iload_n 0, 1) := by decide +kernel
theorem dX11_choose_10 : decode cX11_choose 10 = .ok (.bipush 15, 2) := by decide +kernel
theorem dX11_choose_12 : decode cX11_choose 12 = .ok (.if_icmp .le 5, 3) := by decide +kernel
theorem dX11_choose_15 : decode cX11_choose 15 = .ok (.iconst 0, 1) := by decide +kernel
theorem dX11_choose_16 : decode cX11_choose 16 = .ok (.ireturn, 1) := by decide +kernel
theorem dX11_choose_17 : decode cX11_choose 17 = .ok (.getstatic 251, 3) := by decide +kernel
theorem dX11_choose_20 : decode cX11_choose 20 = .ok (.iload_n 0, 1) := by decide +kernel
theorem dX11_choose_21 : decode cX11_choose 21 = .ok (.iload_n 0, 1) := by decide +kernel
theorem dX11_choose_22 : decode cX11_choose 22 = .ok (.iconst 1, 1) := by decide +kernel
theorem dX11_choose_23 : decode cX11_choose 23 = .ok (.iadd, 1) := by decide +kernel
theorem dX11_choose_24 : decode cX11_choose 24 = .ok (.imul, 1) := by decide +kernel
theorem dX11_choose_25 : decode cX11_choose 25 = .ok (.iconst 2, 1) := by decide +kernel
theorem dX11_choose_26 : decode cX11_choose 26 = .ok (.idiv, 1) := by decide +kernel
theorem dX11_choose_27 : decode cX11_choose 27 = .ok (.iload_n 1, 1) := by decide +kernel
theorem dX11_choose_28 : decode cX11_choose 28 = .ok (.iadd, 1) := by decide +kernel
theorem dX11_choose_29 : decode cX11_choose 29 = .ok (.iaload, 1) := by decide +kernel
theorem dX11_choose_30 : decode cX11_choose 30 = .ok (.ireturn, 1) := by decide +kernel
theorem dX11_ordersOf_0 : decode cX11_ordersOf 0 = .ok (.aload_n 0, 1) := by decide +kernel
theorem dX11_ordersOf_1 : decode cX11_ordersOf 1 = .ok (.invokestatic 86, 3) := by decide +kernel
theorem dX11_ordersOf_4 : decode cX11_ordersOf 4 = .ok (.istore_n 1, 1) := by decide +kernel
theorem dX11_ordersOf_5 : decode cX11_ordersOf 5 = .ok (.iload_n 1, 1) := by decide +kernel
theorem dX11_ordersOf_6 : decode cX11_ordersOf 6 = .ok (.aload_n 0, 1) := by decide +kernel
theorem dX11_ordersOf_7 : decode cX11_ordersOf 7 = .ok (.iconst 0, 1) := by decide +kernel
theorem dX11_ordersOf_8 : decode cX11_ordersOf 8 = .ok (.iaload, 1) := by decide +kernel
theorem dX11_ordersOf_9 : decode cX11_ordersOf 9 = .ok (.invokestatic 167, 3) := by decide +kernel
theorem dX11_ordersOf_12 : decode cX11_ordersOf 12 = .ok (.iload_n 1, 1) := by decide +kernel
theorem dX11_ordersOf_13 : decode cX11_ordersOf 13 = .ok (.aload_n 0, 1) := by decide +kernel
theorem dX11_ordersOf_14 : decode cX11_ordersOf 14 = .ok (.iconst 0, 1) := by decide +kernel
theorem dX11_ordersOf_15 : decode cX11_ordersOf 15 = .ok (.iaload, 1) := by decide +kernel
theorem dX11_ordersOf_16 : decode cX11_ordersOf 16 = .ok (.isub, 1) := by decide +kernel
theorem dX11_ordersOf_17 : decode cX11_ordersOf 17 = .ok (.aload_n 0, 1) := by decide +kernel
theorem dX11_ordersOf_18 : decode cX11_ordersOf 18 = .ok (.iconst 1, 1) := by decide +kernel
theorem dX11_ordersOf_19 : decode cX11_ordersOf 19 = .ok (.iaload, 1) := by decide +kernel
theorem dX11_ordersOf_20 : decode cX11_ordersOf 20 = .ok (.invokestatic 167, 3) := by decide +kernel
theorem dX11_ordersOf_23 : decode cX11_ordersOf 23 = .ok (.imul, 1) := by decide +kernel
theorem dX11_ordersOf_24 : decode cX11_ordersOf 24 = .ok (.ireturn, 1) := by decide +kernel
theorem dX11_lowest_0 : decode cX11_lowest 0 = .ok (.lload_n 0, 1) := by decide +kernel
theorem dX11_lowest_1 : decode cX11_lowest 1 = .ok (.invokestatic 254, 3) := by decide +kernel
theorem dX11_lowest_4 : decode cX11_lowest 4 = .ok (.lload_n 2, 1) := by decide +kernel
theorem dX11_lowest_5 : decode cX11_lowest 5 = .ok (.invokestatic 258, 3) := by decide +kernel
theorem dX11_lowest_8 : decode cX11_lowest 8 = .ok (.lstore 5, 2) := by decide +kernel
theorem dX11_lowest_10 : decode cX11_lowest 10 = .ok (.lload 5, 2) := by decide +kernel
theorem dX11_lowest_12 : decode cX11_lowest 12 = .ok (.lconst 0, 1) := by decide +kernel
theorem dX11_lowest_13 : decode cX11_lowest 13 = .ok (.lcmp, 1) := by decide +kernel
theorem dX11_lowest_14 : decode cX11_lowest 14 = .ok (.ifCond .ne 7, 3) := by decide +kernel
theorem dX11_lowest_17 : decode cX11_lowest 17 = .ok (.ldc2_w 156, 3) := by decide +kernel
theorem dX11_lowest_20 : decode cX11_lowest 20 = .ok (.lreturn, 1) := by decide +kernel
theorem dX11_lowest_21 : decode cX11_lowest 21 = .ok (.iload 4, 2) := by decide +kernel
theorem dX11_lowest_23 : decode cX11_lowest 23 = .ok (.ifCond .ne 7, 3) := by decide +kernel
theorem dX11_lowest_26 : decode cX11_lowest 26 = .ok (.lload_n 0, 1) := by decide +kernel
theorem dX11_lowest_27 : decode cX11_lowest 27 = .ok (.goto 4, 3) := by decide +kernel
theorem dX11_lowest_30 : decode cX11_lowest 30 = .ok (.lload_n 2, 1) := by decide +kernel
theorem dX11_lowest_31 : decode cX11_lowest 31 = .ok (.lload 5, 2) := by decide +kernel
theorem dX11_lowest_33 : decode cX11_lowest 33 = .ok (.ldiv, 1) := by decide +kernel
theorem dX11_lowest_34 : decode cX11_lowest 34 = .ok (.lreturn, 1) := by decide +kernel
theorem dX11_commonOf_0 : decode cX11_commonOf 0 = .ok (.iconst 0, 1) := by decide +kernel
theorem dX11_commonOf_1 : decode cX11_commonOf 1 = .ok (.istore 4, 2) := by decide +kernel
theorem dX11_commonOf_3 : decode cX11_commonOf 3 = .ok (.iload 4, 2) := by decide +kernel
theorem dX11_commonOf_5 : decode cX11_commonOf 5 = .ok (.sipush 200, 3) := by decide +kernel
theorem dX11_commonOf_8 : decode cX11_commonOf 8 = .ok (.if_icmp .ge 25, 3) := by decide +kernel
theorem dX11_commonOf_11 : decode cX11_commonOf 11 = .ok (.lload_n 2, 1) := by decide +kernel
theorem dX11_commonOf_12 : decode cX11_commonOf 12 = .ok (.lconst 0, 1) := by decide +kernel
theorem dX11_commonOf_13 : decode cX11_commonOf 13 = .ok (.lcmp, 1) := by decide +kernel
theorem dX11_commonOf_14 : decode cX11_commonOf 14 = .ok (.ifCond .eq 19, 3) := by decide +kernel
theorem dX11_commonOf_17 : decode cX11_commonOf 17 = .ok (.lload_n 0, 1) := by decide +kernel
theorem dX11_commonOf_18 : decode cX11_commonOf 18 = .ok (.lload_n 2, 1) := by decide +kernel
theorem dX11_commonOf_19 : decode cX11_commonOf 19 = .ok (.lrem, 1) := by decide +kernel
theorem dX11_commonOf_20 : decode cX11_commonOf 20 = .ok (.lstore 5, 2) := by decide +kernel
theorem dX11_commonOf_22 : decode cX11_commonOf 22 = .ok (.lload_n 2, 1) := by decide +kernel
theorem dX11_commonOf_23 : decode cX11_commonOf 23 = .ok (.lstore_n 0, 1) := by decide +kernel
theorem dX11_commonOf_24 : decode cX11_commonOf 24 = .ok (.lload 5, 2) := by decide +kernel
theorem dX11_commonOf_26 : decode cX11_commonOf 26 = .ok (.lstore_n 2, 1) := by decide +kernel
theorem dX11_commonOf_27 : decode cX11_commonOf 27 = .ok (.iinc 4 1, 3) := by decide +kernel
theorem dX11_commonOf_30 : decode cX11_commonOf 30 = .ok (.goto (-27), 3) := by decide +kernel
theorem dX11_commonOf_33 : decode cX11_commonOf 33 = .ok (.lload_n 0, 1) := by decide +kernel
theorem dX11_commonOf_34 : decode cX11_commonOf 34 = .ok (.lreturn, 1) := by decide +kernel
theorem dX11_workerAt_0 : decode cX11_workerAt 0 = .ok (.iload_n 1, 1) := by decide +kernel
theorem dX11_workerAt_1 : decode cX11_workerAt 1 = .ok (.ifCond .lt 26, 3) := by decide +kernel
theorem dX11_workerAt_4 : decode cX11_workerAt 4 = .ok (.iload_n 1, 1) := by decide +kernel
theorem dX11_workerAt_5 : decode cX11_workerAt 5 = .ok (.aload_n 0, 1) := by decide +kernel
theorem dX11_workerAt_6 : decode cX11_workerAt 6 = .ok (.getfield 21, 3) := by decide +kernel
theorem dX11_workerAt_9 : decode cX11_workerAt 9 = .ok (.getfield 103, 3) := by decide +kernel
theorem dX11_workerAt_12 : decode cX11_workerAt 12 = .ok (.if_icmp .ge 15, 3) := by decide +kernel
theorem dX11_workerAt_15 : decode cX11_workerAt 15 = .ok (.aload_n 0, 1) := by decide +kernel
theorem dX11_workerAt_16 : decode cX11_workerAt 16 = .ok (.getfield 21, 3) := by decide +kernel
theorem dX11_workerAt_19 : decode cX11_workerAt 19 = .ok (.getfield 106, 3) := by decide +kernel
theorem dX11_workerAt_22 : decode cX11_workerAt 22 = .ok (.iload_n 1, 1) := by decide +kernel
theorem dX11_workerAt_23 : decode cX11_workerAt 23 = .ok (.aaload, 1) := by decide +kernel
theorem dX11_workerAt_24 : decode cX11_workerAt 24 = .ok (.goto 4, 3) := by decide +kernel
theorem dX11_workerAt_27 : decode cX11_workerAt 27 = .ok (.aconst_null, 1) := by decide +kernel
theorem dX11_workerAt_28 : decode cX11_workerAt 28 = .ok (.areturn, 1) := by decide +kernel
theorem dX11_workNow_0 : decode cX11_workNow 0 = .ok (.aload_n 0, 1) := by decide +kernel
theorem dX11_workNow_1 : decode cX11_workNow 1 = .ok (.getfield 40, 3) := by decide +kernel
theorem dX11_workNow_4 : decode cX11_workNow 4 = .ok (.aload_n 0, 1) := by decide +kernel
theorem dX11_workNow_5 : decode cX11_workNow 5 = .ok (.getfield 21, 3) := by decide +kernel
theorem dX11_workNow_8 : decode cX11_workNow 8 = .ok (.iconst (-1), 1) := by decide +kernel
theorem dX11_workNow_9 : decode cX11_workNow 9 = .ok (.iconst (-1), 1) := by decide +kernel
theorem dX11_workNow_10 : decode cX11_workNow 10 = .ok (.invokevirtual 173, 3) := by decide +kernel
theorem dX11_workNow_13 : decode cX11_workNow 13 = .ok (.aload_n 0, 1) := by decide +kernel
theorem dX11_workNow_14 : decode cX11_workNow 14 = .ok (.getfield 40, 3) := by decide +kernel
theorem dX11_workNow_17 : decode cX11_workNow 17 = .ok (.iload_n 2, 1) := by decide +kernel
theorem dX11_workNow_18 : decode cX11_workNow 18 = .ok (.invokevirtual 187, 3) := by decide +kernel
theorem dX11_workNow_21 : decode cX11_workNow 21 = .ok (.aload_n 1, 1) := by decide +kernel
theorem dX11_workNow_22 : decode cX11_workNow 22 = .ok (.aload_n 0, 1) := by decide +kernel
theorem dX11_workNow_23 : decode cX11_workNow 23 = .ok (.getfield 40, 3) := by decide +kernel
theorem dX11_workNow_26 : decode cX11_workNow 26 = .ok (.iload_n 2, 1) := by decide +kernel
theorem dX11_workNow_27 : decode cX11_workNow 27 = .ok (.aload_n 0, 1) := by decide +kernel
theorem dX11_workNow_28 : decode cX11_workNow 28 = .ok (.getfield 21, 3) := by decide +kernel
theorem dX11_workNow_31 : decode cX11_workNow 31 = .ok (.getfield 93, 3) := by decide +kernel
theorem dX11_workNow_34 : decode cX11_workNow 34 = .ok (.invokevirtual 222, 3) := by decide +kernel
theorem dX11_workNow_37 : decode cX11_workNow 37 = .ok (.ireturn, 1) := by decide +kernel
theorem dX11_ordersByBook_0 : decode cX11_ordersByBook 0 = .ok (.aload_n 1, 1) := by decide +kernel
theorem dX11_ordersByBook_1 : decode cX11_ordersByBook 1 = .ok (.invokevirtual 262, 3) := by decide +kernel
theorem dX11_ordersByBook_4 : decode cX11_ordersByBook 4 = .ok (.checkcast 263, 3) := by decide +kernel
theorem dX11_ordersByBook_7 : decode cX11_ordersByBook 7 = .ok (.astore_n 2, 1) := by decide +kernel
theorem dX11_ordersByBook_8 : decode cX11_ordersByBook 8 = .ok (.iconst 0, 1) := by decide +kernel
theorem dX11_ordersByBook_9 : decode cX11_ordersByBook 9 = .ok (.istore_n 3, 1) := by decide +kernel
theorem dX11_ordersByBook_10 : decode cX11_ordersByBook 10 = .ok (.iload_n 3, 1) := by decide +kernel
theorem dX11_ordersByBook_11 : decode cX11_ordersByBook 11 = .ok (.aload_n 0, 1) := by decide +kernel
theorem dX11_ordersByBook_12 : decode cX11_ordersByBook 12 = .ok (.getfield 21, 3) := by decide +kernel
theorem dX11_ordersByBook_15 : decode cX11_ordersByBook 15 = .ok (.getfield 210, 3) := by decide +kernel
theorem dX11_ordersByBook_18 : decode cX11_ordersByBook 18 = .ok (.if_icmp .ge 37, 3) := by decide +kernel
theorem dX11_ordersByBook_21 : decode cX11_ordersByBook 21 = .ok (.aload_n 0, 1) := by decide +kernel
theorem dX11_ordersByBook_22 : decode cX11_ordersByBook 22 = .ok (.getfield 21, 3) := by decide +kernel
theorem dX11_ordersByBook_25 : decode cX11_ordersByBook 25 = .ok (.getfield 213, 3) := by decide +kernel
theorem dX11_ordersByBook_28 : decode cX11_ordersByBook 28 = .ok (.iload_n 3, 1) := by decide +kernel
theorem dX11_ordersByBook_29 : decode cX11_ordersByBook 29 = .ok (.iaload, 1) := by decide +kernel
theorem dX11_ordersByBook_30 : decode cX11_ordersByBook 30 = .ok (.istore 4, 2) := by decide +kernel
theorem dX11_ordersByBook_32 : decode cX11_ordersByBook 32 = .ok (.aload_n 2, 1) := by decide +kernel
theorem dX11_ordersByBook_33 : decode cX11_ordersByBook 33 = .ok (.iload 4, 2) := by decide +kernel
theorem dX11_ordersByBook_35 : decode cX11_ordersByBook 35 = .ok (.iaload, 1) := by decide +kernel
theorem dX11_ordersByBook_36 : decode cX11_ordersByBook 36 = .ok (.ifCond .ne 5, 3) := by decide +kernel
theorem dX11_ordersByBook_39 : decode cX11_ordersByBook 39 = .ok (.iconst 0, 1) := by decide +kernel
theorem dX11_ordersByBook_40 : decode cX11_ordersByBook 40 = .ok (.ireturn, 1) := by decide +kernel
theorem dX11_ordersByBook_41 : decode cX11_ordersByBook 41 = .ok (.aload_n 2, 1) := by decide +kernel
theorem dX11_ordersByBook_42 : decode cX11_ordersByBook 42 = .ok (.iload 4, 2) := by decide +kernel
theorem dX11_ordersByBook_44 : decode cX11_ordersByBook 44 = .ok (.dup2, 1) := by decide +kernel
theorem dX11_ordersByBook_45 : decode cX11_ordersByBook 45 = .ok (.iaload, 1) := by decide +kernel
theorem dX11_ordersByBook_46 : decode cX11_ordersByBook 46 = .ok (.iconst 1, 1) := by decide +kernel
theorem dX11_ordersByBook_47 : decode cX11_ordersByBook 47 = .ok (.isub, 1) := by decide +kernel
theorem dX11_ordersByBook_48 : decode cX11_ordersByBook 48 = .ok (.iastore, 1) := by decide +kernel
theorem dX11_ordersByBook_49 : decode cX11_ordersByBook 49 = .ok (.iinc 3 1, 3) := by decide +kernel
theorem dX11_ordersByBook_52 : decode cX11_ordersByBook 52 = .ok (.goto (-42), 3) := by decide +kernel
theorem dX11_ordersByBook_55 : decode cX11_ordersByBook 55 = .ok (.aload_n 2, 1) := by decide +kernel
theorem dX11_ordersByBook_56 : decode cX11_ordersByBook 56 = .ok (.invokestatic 170, 3) := by decide +kernel
theorem dX11_ordersByBook_59 : decode cX11_ordersByBook 59 = .ok (.ireturn, 1) := by decide +kernel
theorem dX11_hired_0 : decode cX11_hired 0 = .ok (.iload_n 0, 1) := by decide +kernel
theorem dX11_hired_1 : decode cX11_hired 1 = .ok (.tableswitch 106 1 6 #[39, 50, 61, 72, 83, 94], 39) := by decide +kernel
theorem dX11_hired_40 : decode cX11_hired 40 = .ok (.new 267, 3) := by decide +kernel
theorem dX11_hired_43 : decode cX11_hired 43 = .ok (.dup, 1) := by decide +kernel
theorem dX11_hired_44 : decode cX11_hired 44 = .ok (.iload_n 0, 1) := by decide +kernel
theorem dX11_hired_45 : decode cX11_hired 45 = .ok (.iload_n 1, 1) := by decide +kernel
theorem dX11_hired_46 : decode cX11_hired 46 = .ok (.iload_n 2, 1) := by decide +kernel
theorem dX11_hired_47 : decode cX11_hired 47 = .ok (.invokespecial 269, 3) := by decide +kernel
theorem dX11_hired_50 : decode cX11_hired 50 = .ok (.areturn, 1) := by decide +kernel
theorem dX11_hired_51 : decode cX11_hired 51 = .ok (.new 272, 3) := by decide +kernel
theorem dX11_hired_54 : decode cX11_hired 54 = .ok (.dup, 1) := by decide +kernel
theorem dX11_hired_55 : decode cX11_hired 55 = .ok (.iload_n 0, 1) := by decide +kernel
theorem dX11_hired_56 : decode cX11_hired 56 = .ok (.iload_n 1, 1) := by decide +kernel
theorem dX11_hired_57 : decode cX11_hired 57 = .ok (.iload_n 2, 1) := by decide +kernel
theorem dX11_hired_58 : decode cX11_hired 58 = .ok (.invokespecial 274, 3) := by decide +kernel
theorem dX11_hired_61 : decode cX11_hired 61 = .ok (.areturn, 1) := by decide +kernel
theorem dX11_hired_62 : decode cX11_hired 62 = .ok (.new 275, 3) := by decide +kernel
theorem dX11_hired_65 : decode cX11_hired 65 = .ok (.dup, 1) := by decide +kernel
theorem dX11_hired_66 : decode cX11_hired 66 = .ok (.iload_n 0, 1) := by decide +kernel
theorem dX11_hired_67 : decode cX11_hired 67 = .ok (.iload_n 1, 1) := by decide +kernel
theorem dX11_hired_68 : decode cX11_hired 68 = .ok (.iload_n 2, 1) := by decide +kernel
theorem dX11_hired_69 : decode cX11_hired 69 = .ok (.invokespecial 277, 3) := by decide +kernel
theorem dX11_hired_72 : decode cX11_hired 72 = .ok (.areturn, 1) := by decide +kernel
theorem dX11_hired_73 : decode cX11_hired 73 = .ok (.new 278, 3) := by decide +kernel
theorem dX11_hired_76 : decode cX11_hired 76 = .ok (.dup, 1) := by decide +kernel
theorem dX11_hired_77 : decode cX11_hired 77 = .ok (.iload_n 0, 1) := by decide +kernel
theorem dX11_hired_78 : decode cX11_hired 78 = .ok (.iload_n 1, 1) := by decide +kernel
theorem dX11_hired_79 : decode cX11_hired 79 = .ok (.iload_n 2, 1) := by decide +kernel
theorem dX11_hired_80 : decode cX11_hired 80 = .ok (.invokespecial 280, 3) := by decide +kernel
theorem dX11_hired_83 : decode cX11_hired 83 = .ok (.areturn, 1) := by decide +kernel
theorem dX11_hired_84 : decode cX11_hired 84 = .ok (.new 281, 3) := by decide +kernel
theorem dX11_hired_87 : decode cX11_hired 87 = .ok (.dup, 1) := by decide +kernel
theorem dX11_hired_88 : decode cX11_hired 88 = .ok (.iload_n 0, 1) := by decide +kernel
theorem dX11_hired_89 : decode cX11_hired 89 = .ok (.iload_n 1, 1) := by decide +kernel
theorem dX11_hired_90 : decode cX11_hired 90 = .ok (.iload_n 2, 1) := by decide +kernel
theorem dX11_hired_91 : decode cX11_hired 91 = .ok (.invokespecial 283, 3) := by decide +kernel
theorem dX11_hired_94 : decode cX11_hired 94 = .ok (.areturn, 1) := by decide +kernel
theorem dX11_hired_95 : decode cX11_hired 95 = .ok (.new 122, 3) := by decide +kernel
theorem dX11_hired_98 : decode cX11_hired 98 = .ok (.dup, 1) := by decide +kernel
theorem dX11_hired_99 : decode cX11_hired 99 = .ok (.iload_n 1, 1) := by decide +kernel
theorem dX11_hired_100 : decode cX11_hired 100 = .ok (.iload_n 2, 1) := by decide +kernel
theorem dX11_hired_101 : decode cX11_hired 101 = .ok (.bipush 63, 2) := by decide +kernel
theorem dX11_hired_103 : decode cX11_hired 103 = .ok (.invokespecial 284, 3) := by decide +kernel
theorem dX11_hired_106 : decode cX11_hired 106 = .ok (.areturn, 1) := by decide +kernel
theorem dX11_hired_107 : decode cX11_hired 107 = .ok (.new 133, 3) := by decide +kernel
theorem dX11_hired_110 : decode cX11_hired 110 = .ok (.dup, 1) := by decide +kernel
theorem dX11_hired_111 : decode cX11_hired 111 = .ok (.iload_n 0, 1) := by decide +kernel
theorem dX11_hired_112 : decode cX11_hired 112 = .ok (.iload_n 1, 1) := by decide +kernel
theorem dX11_hired_113 : decode cX11_hired 113 = .ok (.iload_n 2, 1) := by decide +kernel
theorem dX11_hired_114 : decode cX11_hired 114 = .ok (.invokespecial 285, 3) := by decide +kernel
theorem dX11_hired_117 : decode cX11_hired 117 = .ok (.areturn, 1) := by decide +kernel
theorem dX11_lonely_0 : decode cX11_lonely 0 = .ok (.new 122, 3) := by decide +kernel
theorem dX11_lonely_3 : decode cX11_lonely 3 = .ok (.dup, 1) := by decide +kernel
theorem dX11_lonely_4 : decode cX11_lonely 4 = .ok (.iconst 0, 1) := by decide +kernel
theorem dX11_lonely_5 : decode cX11_lonely 5 = .ok (.iconst (-1), 1) := by decide +kernel
theorem dX11_lonely_6 : decode cX11_lonely 6 = .ok (.iload_n 0, 1) := by decide +kernel
theorem dX11_lonely_7 : decode cX11_lonely 7 = .ok (.iload_n 0, 1) := by decide +kernel
theorem dX11_lonely_8 : decode cX11_lonely 8 = .ok (.iconst 2, 1) := by decide +kernel
theorem dX11_lonely_9 : decode cX11_lonely 9 = .ok (.ishl, 1) := by decide +kernel
theorem dX11_lonely_10 : decode cX11_lonely 10 = .ok (.ior, 1) := by decide +kernel
theorem dX11_lonely_11 : decode cX11_lonely 11 = .ok (.iload_n 0, 1) := by decide +kernel
theorem dX11_lonely_12 : decode cX11_lonely 12 = .ok (.iconst 4, 1) := by decide +kernel
theorem dX11_lonely_13 : decode cX11_lonely 13 = .ok (.ishl, 1) := by decide +kernel
theorem dX11_lonely_14 : decode cX11_lonely 14 = .ok (.ior, 1) := by decide +kernel
theorem dX11_lonely_15 : decode cX11_lonely 15 = .ok (.invokespecial 284, 3) := by decide +kernel
theorem dX11_lonely_18 : decode cX11_lonely 18 = .ok (.areturn, 1) := by decide +kernel
theorem dX11_isOf_0 : decode cX11_isOf 0 = .ok (.iload_n 1, 1) := by decide +kernel
theorem dX11_isOf_1 : decode cX11_isOf 1 = .ok (.tableswitch 69 1 6 #[39, 44, 49, 54, 59, 64], 39) := by decide +kernel
theorem dX11_isOf_40 : decode cX11_isOf 40 = .ok (.aload_n 0, 1) := by decide +kernel
theorem dX11_isOf_41 : decode cX11_isOf 41 = .ok (.instanceof 267, 3) := by decide +kernel
theorem dX11_isOf_44 : decode cX11_isOf 44 = .ok (.ireturn, 1) := by decide +kernel
theorem dX11_isOf_45 : decode cX11_isOf 45 = .ok (.aload_n 0, 1) := by decide +kernel
theorem dX11_isOf_46 : decode cX11_isOf 46 = .ok (.instanceof 272, 3) := by decide +kernel
theorem dX11_isOf_49 : decode cX11_isOf 49 = .ok (.ireturn, 1) := by decide +kernel
theorem dX11_isOf_50 : decode cX11_isOf 50 = .ok (.aload_n 0, 1) := by decide +kernel
theorem dX11_isOf_51 : decode cX11_isOf 51 = .ok (.instanceof 275, 3) := by decide +kernel
theorem dX11_isOf_54 : decode cX11_isOf 54 = .ok (.ireturn, 1) := by decide +kernel
theorem dX11_isOf_55 : decode cX11_isOf 55 = .ok (.aload_n 0, 1) := by decide +kernel
theorem dX11_isOf_56 : decode cX11_isOf 56 = .ok (.instanceof 278, 3) := by decide +kernel
theorem dX11_isOf_59 : decode cX11_isOf 59 = .ok (.ireturn, 1) := by decide +kernel
theorem dX11_isOf_60 : decode cX11_isOf 60 = .ok (.aload_n 0, 1) := by decide +kernel
theorem dX11_isOf_61 : decode cX11_isOf 61 = .ok (.instanceof 281, 3) := by decide +kernel
theorem dX11_isOf_64 : decode cX11_isOf 64 = .ok (.ireturn, 1) := by decide +kernel
theorem dX11_isOf_65 : decode cX11_isOf 65 = .ok (.aload_n 0, 1) := by decide +kernel
theorem dX11_isOf_66 : decode cX11_isOf 66 = .ok (.instanceof 122, 3) := by decide +kernel
theorem dX11_isOf_69 : decode cX11_isOf 69 = .ok (.ireturn, 1) := by decide +kernel
theorem dX11_isOf_70 : decode cX11_isOf 70 = .ok (.iconst 1, 1) := by decide +kernel
theorem dX11_isOf_71 : decode cX11_isOf 71 = .ok (.ireturn, 1) := by decide +kernel
theorem dX12_init_0 : decode cX12_init 0 = .ok (.aload_n 0, 1) := by decide +kernel
theorem dX12_init_1 : decode cX12_init 1 = .ok (.invokespecial 3, 3) := by decide +kernel
theorem dX12_init_4 : decode cX12_init 4 = .ok (.aload_n 0, 1) := by decide +kernel
theorem dX12_init_5 : decode cX12_init 5 = .ok (.sipush 892, 3) := by decide +kernel
theorem dX12_init_8 : decode cX12_init 8 = .ok (.newarray .int, 2) := by decide +kernel
theorem dX12_init_10 : decode cX12_init 10 = .ok (.putfield 9, 3) := by decide +kernel
theorem dX12_init_13 : decode cX12_init 13 = .ok (.aload_n 0, 1) := by decide +kernel
theorem dX12_init_14 : decode cX12_init 14 = .ok (.sipush 892, 3) := by decide +kernel
theorem dX12_init_17 : decode cX12_init 17 = .ok (.newarray .int, 2) := by decide +kernel
theorem dX12_init_19 : decode cX12_init 19 = .ok (.putfield 15, 3) := by decide +kernel
theorem dX12_init_22 : decode cX12_init 22 = .ok (.aload_n 0, 1) := by decide +kernel
theorem dX12_init_23 : decode cX12_init 23 = .ok (.iconst 5, 1) := by decide +kernel
theorem dX12_init_24 : decode cX12_init 24 = .ok (.newarray .int, 2) := by decide +kernel
theorem dX12_init_26 : decode cX12_init 26 = .ok (.putfield 18, 3) := by decide +kernel
theorem dX12_init_29 : decode cX12_init 29 = .ok (.aload_n 0, 1) := by decide +kernel
theorem dX12_init_30 : decode cX12_init 30 = .ok (.bipush 64, 2) := by decide +kernel
theorem dX12_init_32 : decode cX12_init 32 = .ok (.newarray .boolean, 2) := by decide +kernel
theorem dX12_init_34 : decode cX12_init 34 = .ok (.putfield 21, 3) := by decide +kernel
theorem dX12_init_37 : decode cX12_init 37 = .ok (.aload_n 0, 1) := by decide +kernel
theorem dX12_init_38 : decode cX12_init 38 = .ok (.sipush 1728, 3) := by decide +kernel
theorem dX12_init_41 : decode cX12_init 41 = .ok (.newarray .int, 2) := by decide +kernel
theorem dX12_init_43 : decode cX12_init 43 = .ok (.putfield 25, 3) := by decide +kernel
theorem dX12_init_46 : decode cX12_init 46 = .ok (.aload_n 0, 1) := by decide +kernel
theorem dX12_init_47 : decode cX12_init 47 = .ok (.sipush 5832, 3) := by decide +kernel
theorem dX12_init_50 : decode cX12_init 50 = .ok (.newarray .long, 2) := by decide +kernel
theorem dX12_init_52 : decode cX12_init 52 = .ok (.putfield 28, 3) := by decide +kernel
theorem dX12_init_55 : decode cX12_init 55 = .ok (.aload_n 0, 1) := by decide +kernel
theorem dX12_init_56 : decode cX12_init 56 = .ok (.sipush 5832, 3) := by decide +kernel
theorem dX12_init_59 : decode cX12_init 59 = .ok (.newarray .int, 2) := by decide +kernel
theorem dX12_init_61 : decode cX12_init 61 = .ok (.putfield 32, 3) := by decide +kernel
theorem dX12_init_64 : decode cX12_init 64 = .ok (.aload_n 0, 1) := by decide +kernel
theorem dX12_init_65 : decode cX12_init 65 = .ok (.sipush 17496, 3) := by decide +kernel
theorem dX12_init_68 : decode cX12_init 68 = .ok (.newarray .int, 2) := by decide +kernel
theorem dX12_init_70 : decode cX12_init 70 = .ok (.putfield 35, 3) := by decide +kernel
theorem dX12_init_73 : decode cX12_init 73 = .ok (.aload_n 0, 1) := by decide +kernel
theorem dX12_init_74 : decode cX12_init 74 = .ok (.sipush 5832, 3) := by decide +kernel
theorem dX12_init_77 : decode cX12_init 77 = .ok (.newarray .long, 2) := by decide +kernel
theorem dX12_init_79 : decode cX12_init 79 = .ok (.putfield 38, 3) := by decide +kernel
theorem dX12_init_82 : decode cX12_init 82 = .ok (.aload_n 0, 1) := by decide +kernel
theorem dX12_init_83 : decode cX12_init 83 = .ok (.sipush 5832, 3) := by decide +kernel
theorem dX12_init_86 : decode cX12_init 86 = .ok (.newarray .long, 2) := by decide +kernel
theorem dX12_init_88 : decode cX12_init 88 = .ok (.putfield 41, 3) := by decide +kernel
theorem dX12_init_91 : decode cX12_init 91 = .ok (.aload_n 0, 1) := by decide +kernel
theorem dX12_init_92 : decode cX12_init 92 = .ok (.sipush 5832, 3) := by decide +kernel
theorem dX12_init_95 : decode cX12_init 95 = .ok (.newarray .int, 2) := by decide +kernel
theorem dX12_init_97 : decode cX12_init 97 = .ok (.putfield 44, 3) := by decide +kernel
theorem dX12_init_100 : decode cX12_init 100 = .ok (.aload_n 0, 1) := by decide +kernel
theorem dX12_init_101 : decode cX12_init 101 = .ok (.sipush 5832, 3) := by decide +kernel
theorem dX12_init_104 : decode cX12_init 104 = .ok (.newarray .int, 2) := by decide +kernel
theorem dX12_init_106 : decode cX12_init 106 = .ok (.putfield 47, 3) := by decide +kernel
theorem dX12_init_109 : decode cX12_init 109 = .ok (.aload_n 0, 1) := by decide +kernel
theorem dX12_init_110 : decode cX12_init 110 = .ok (.sipush 5832, 3) := by decide +kernel
theorem dX12_init_113 : decode cX12_init 113 = .ok (.newarray .int, 2) := by decide +kernel
theorem dX12_init_115 : decode cX12_init 115 = .ok (.putfield 50, 3) := by decide +kernel
theorem dX12_init_118 : decode cX12_init 118 = .ok (.aload_n 0, 1) := by decide +kernel
theorem dX12_init_119 : decode cX12_init 119 = .ok (.sipush 5832, 3) := by decide +kernel
theorem dX12_init_122 : decode cX12_init 122 = .ok (.newarray .int, 2) := by decide +kernel
theorem dX12_init_124 : decode cX12_init 124 = .ok (.putfield 53, 3) := by decide +kernel
theorem dX12_init_127 : decode cX12_init 127 = .ok (.aload_n 0, 1) := by decide +kernel
theorem dX12_init_128 : decode cX12_init 128 = .ok (.sipush 5832, 3) := by decide +kernel
theorem dX12_init_131 : decode cX12_init 131 = .ok (.newarray .long, 2) := by decide +kernel
theorem dX12_init_133 : decode cX12_init 133 = .ok (.putfield 56, 3) := by decide +kernel
theorem dX12_init_136 : decode cX12_init 136 = .ok (.aload_n 0, 1) := by decide +kernel
theorem dX12_init_137 : decode cX12_init 137 = .ok (.sipush 5832, 3) := by decide +kernel
theorem dX12_init_140 : decode cX12_init 140 = .ok (.newarray .int, 2) := by decide +kernel
theorem dX12_init_142 : decode cX12_init 142 = .ok (.putfield 59, 3) := by decide +kernel
theorem dX12_init_145 : decode cX12_init 145 = .ok (.aload_n 0, 1) := by decide +kernel
theorem dX12_init_146 : decode cX12_init 146 = .ok (.bipush 20, 2) := by decide +kernel
theorem dX12_init_148 : decode cX12_init 148 = .ok (.newarray .int, 2) := by decide +kernel
theorem dX12_init_150 : decode cX12_init 150 = .ok (.putfield 62, 3) := by decide +kernel
theorem dX12_init_153 : decode cX12_init 153 = .ok (.aload_n 0, 1) := by decide +kernel
theorem dX12_init_154 : decode cX12_init 154 = .ok (.getfield 9, 3) := by decide +kernel
theorem dX12_init_157 : decode cX12_init 157 = .ok (.iconst 4, 1) := by decide +kernel
theorem dX12_init_158 : decode cX12_init 158 = .ok (.iconst (-1), 1) := by decide +kernel
theorem dX12_init_159 : decode cX12_init 159 = .ok (.iastore, 1) := by decide +kernel
theorem dX12_init_160 : decode cX12_init 160 = .ok (.iconst 0, 1) := by decide +kernel
theorem dX12_init_161 : decode cX12_init 161 = .ok (.istore_n 1, 1) := by decide +kernel
theorem dX12_init_162 : decode cX12_init 162 = .ok (.iload_n 1, 1) := by decide +kernel
theorem dX12_init_163 : decode cX12_init 163 = .ok (.bipush 24, 2) := by decide +kernel
theorem dX12_init_165 : decode cX12_init 165 = .ok (.if_icmp .ge 20, 3) := by decide +kernel
theorem dX12_init_168 : decode cX12_init 168 = .ok (.aload_n 0, 1) := by decide +kernel
theorem dX12_init_169 : decode cX12_init 169 = .ok (.getfield 9, 3) := by decide +kernel
theorem dX12_init_172 : decode cX12_init 172 = .ok (.sipush 128, 3) := by decide +kernel
theorem dX12_init_175 : decode cX12_init 175 = .ok (.iload_n 1, 1) := by decide +kernel
theorem dX12_init_176 : decode cX12_init 176 = .ok (.iadd, 1) := by decide +kernel
theorem dX12_init_177 : decode cX12_init 177 = .ok (.iconst 3, 1) := by decide +kernel
theorem dX12_init_178 : decode cX12_init 178 = .ok (.iastore, 1) := by decide +kernel
theorem dX12_init_179 : decode cX12_init 179 = .ok (.iinc 1 1, 3) := by decide +kernel
theorem dX12_init_182 : decode cX12_init 182 = .ok (.goto (-20), 3) := by decide +kernel
theorem dX12_init_185 : decode cX12_init 185 = .ok (.return_, 1) := by decide +kernel
theorem dX12_in_0 : decode cX12_in 0 = .ok (.iload_n 0, 1) := by decide +kernel
theorem dX12_in_1 : decode cX12_in 1 = .ok (.iload_n 1, 1) := by decide +kernel
theorem dX12_in_2 : decode cX12_in 2 = .ok (.if_icmp .lt 12, 3) := by decide +kernel
theorem dX12_in_5 : decode cX12_in 5 = .ok (.iload_n 0, 1) := by decide +kernel
theorem dX12_in_6 : decode cX12_in 6 = .ok (.iload_n 2, 1) := by decide +kernel
theorem dX12_in_7 : decode cX12_in 7 = .ok (.if_icmp .gt 7, 3) := by decide +kernel
theorem dX12_in_10 : decode cX12_in 10 = .ok (.iconst 1, 1) := by decide +kernel
theorem dX12_in_11 : decode cX12_in 11 = .ok (.goto 4, 3) := by decide +kernel
theorem dX12_in_14 : decode cX12_in 14 = .ok (.iconst 0, 1) := by decide +kernel
theorem dX12_in_15 : decode cX12_in 15 = .ok (.ireturn, 1) := by decide +kernel
theorem dX12_isSort_0 : decode cX12_isSort 0 = .ok (.iload_n 0, 1) := by decide +kernel
theorem dX12_isSort_1 : decode cX12_isSort 1 = .ok (.iconst 0, 1) := by decide +kernel
theorem dX12_isSort_2 : decode cX12_isSort 2 = .ok (.iconst 2, 1) := by decide +kernel
theorem dX12_isSort_3 : decode cX12_isSort 3 = .ok (.invokestatic 69, 3) := by decide +kernel
theorem dX12_isSort_6 : decode cX12_isSort 6 = .ok (.ireturn, 1) := by decide +kernel
theorem dX12_isWork_0 : decode cX12_isWork 0 = .ok (.iload_n 0, 1) := by decide +kernel
theorem dX12_isWork_1 : decode cX12_isWork 1 = .ok (.iconst 0, 1) := by decide +kernel
theorem dX12_isWork_2 : decode cX12_isWork 2 = .ok (.iconst 2, 1) := by decide +kernel
theorem dX12_isWork_3 : decode cX12_isWork 3 = .ok (.invokestatic 69, 3) := by decide +kernel
theorem dX12_isWork_6 : decode cX12_isWork 6 = .ok (.ireturn, 1) := by decide +kernel
theorem dX12_isWorker_0 : decode cX12_isWorker 0 = .ok (.iload_n 1, 1) := by decide +kernel
theorem dX12_isWorker_1 : decode cX12_isWorker 1 = .ok (.iconst 0, 1) := by decide +kernel
theorem dX12_isWorker_2 : decode cX12_isWorker 2 = .ok (.aload_n 0, 1) := by decide +kernel
theorem dX12_isWorker_3 : decode cX12_isWorker 3 = .ok (.getfield 9, 3) := by decide +kernel
theorem dX12_isWorker_6 : decode cX12_isWorker 6 = .ok (.iconst 0, 1) := by decide +kernel
theorem dX12_isWorker_7 : decode cX12_isWorker 7 = .ok (.iaload, 1) := by decide +kernel
theorem dX12_isWorker_8 : decode cX12_isWorker 8 = .ok (.iconst 1, 1) := by decide +kernel
theorem dX12_isWorker_9 : decode cX12_isWorker 9 = .ok (.isub, 1) := by decide +kernel
theorem dX12_isWorker_10 : decode cX12_isWorker 10 = .ok (.invokestatic 69, 3) := by decide +kernel
theorem dX12_isWorker_13 : decode cX12_isWorker 13 = .ok (.ireturn, 1) := by decide +kernel
theorem dX12_rest_0 : decode cX12_rest 0 = .ok (.aload_n 0, 1) := by decide +kernel
theorem dX12_rest_1 : decode cX12_rest 1 = .ok (.getfield 9, 3) := by decide +kernel
theorem dX12_rest_4 : decode cX12_rest 4 = .ok (.bipush 6, 2) := by decide +kernel
theorem dX12_rest_6 : decode cX12_rest 6 = .ok (.iaload, 1) := by decide +kernel
theorem dX12_rest_7 : decode cX12_rest 7 = .ok (.aload_n 0, 1) := by decide +kernel
theorem dX12_rest_8 : decode cX12_rest 8 = .ok (.getfield 9, 3) := by decide +kernel
theorem dX12_rest_11 : decode cX12_rest 11 = .ok (.bipush 7, 2) := by decide +kernel
theorem dX12_rest_13 : decode cX12_rest 13 = .ok (.iaload, 1) := by decide +kernel
theorem dX12_rest_14 : decode cX12_rest 14 = .ok (.iadd, 1) := by decide +kernel
theorem dX12_rest_15 : decode cX12_rest 15 = .ok (.aload_n 0, 1) := by decide +kernel
theorem dX12_rest_16 : decode cX12_rest 16 = .ok (.getfield 9, 3) := by decide +kernel
theorem dX12_rest_19 : decode cX12_rest 19 = .ok (.bipush 8, 2) := by decide +kernel
theorem dX12_rest_21 : decode cX12_rest 21 = .ok (.iaload, 1) := by decide +kernel
theorem dX12_rest_22 : decode cX12_rest 22 = .ok (.iadd, 1) := by decide +kernel
theorem dX12_rest_23 : decode cX12_rest 23 = .ok (.ireturn, 1) := by decide +kernel
theorem dX12_bag_0 : decode cX12_bag 0 = .ok (.iload_n 1, 1) := by decide +kernel
theorem dX12_bag_1 : decode cX12_bag 1 = .ok (.invokestatic 73, 3) := by decide +kernel
theorem dX12_bag_4 : decode cX12_bag 4 = .ok (.ifCond .ne 5, 3) := by decide +kernel
theorem dX12_bag_7 : decode cX12_bag 7 = .ok (.iconst (-1), 1) := by decide +kernel
theorem dX12_bag_8 : decode cX12_bag 8 = .ok (.ireturn, 1) := by decide +kernel
theorem dX12_bag_9 : decode cX12_bag 9 = .ok (.iload_n 2, 1) := by decide +kernel
theorem dX12_bag_10 : decode cX12_bag 10 = .ok (.iconst 0, 1) := by decide +kernel
theorem dX12_bag_11 : decode cX12_bag 11 = .ok (.iconst 5, 1) := by decide +kernel
theorem dX12_bag_12 : decode cX12_bag 12 = .ok (.invokestatic 69, 3) := by decide +kernel
theorem dX12_bag_15 : decode cX12_bag 15 = .ok (.ifCond .ne 6, 3) := by decide +kernel
theorem dX12_bag_18 : decode cX12_bag 18 = .ok (.bipush (-2), 2) := by decide +kernel
theorem dX12_bag_20 : decode cX12_bag 20 = .ok (.ireturn, 1) := by decide +kernel
theorem dX12_bag_21 : decode cX12_bag 21 = .ok (.aload_n 0, 1) := by decide +kernel
theorem dX12_bag_22 : decode cX12_bag 22 = .ok (.getfield 9, 3) := by decide +kernel
theorem dX12_bag_25 : decode cX12_bag 25 = .ok (.bipush 6, 2) := by decide +kernel
theorem dX12_bag_27 : decode cX12_bag 27 = .ok (.iload_n 1, 1) := by decide +kernel
theorem dX12_bag_28 : decode cX12_bag 28 = .ok (.iadd, 1) := by decide +kernel
theorem dX12_bag_29 : decode cX12_bag 29 = .ok (.iaload, 1) := by decide +kernel
theorem dX12_bag_30 : decode cX12_bag 30 = .ok (.istore_n 3, 1) := by decide +kernel
theorem dX12_bag_31 : decode cX12_bag 31 = .ok (.aload_n 0, 1) := by decide +kernel
theorem dX12_bag_32 : decode cX12_bag 32 = .ok (.getfield 9, 3) := by decide +kernel
theorem dX12_bag_35 : decode cX12_bag 35 = .ok (.bipush 6, 2) := by decide +kernel
theorem dX12_bag_37 : decode cX12_bag 37 = .ok (.iload_n 1, 1) := by decide +kernel
theorem dX12_bag_38 : decode cX12_bag 38 = .ok (.iadd, 1) := by decide +kernel
theorem dX12_bag_39 : decode cX12_bag 39 = .ok (.iload_n 2, 1) := by decide +kernel
theorem dX12_bag_40 : decode cX12_bag 40 = .ok (.iastore, 1) := by decide +kernel
theorem dX12_bag_41 : decode cX12_bag 41 = .ok (.iload_n 3, 1) := by decide +kernel
theorem dX12_bag_42 : decode cX12_bag 42 = .ok (.ireturn, 1) := by decide +kernel
theorem dX12_feed_0 : decode cX12_feed 0 = .ok (.iload_n 1, 1) := by decide +kernel
theorem dX12_feed_1 : decode cX12_feed 1 = .ok (.iconst 0, 1) := by decide +kernel
theorem dX12_feed_2 : decode cX12_feed 2 = .ok (.bipush 127, 2) := by decide +kernel
theorem dX12_feed_4 : decode cX12_feed 4 = .ok (.invokestatic 69, 3) := by decide +kernel
theorem dX12_feed_7 : decode cX12_feed 7 = .ok (.ifCond .ne 6, 3) := by decide +kernel
theorem dX12_feed_10 : decode cX12_feed 10 = .ok (.bipush (-2), 2) := by decide +kernel
theorem dX12_feed_12 : decode cX12_feed 12 = .ok (.ireturn, 1) := by decide +kernel
theorem dX12_feed_13 : decode cX12_feed 13 = .ok (.aload_n 0, 1) := by decide +kernel
theorem dX12_feed_14 : decode cX12_feed 14 = .ok (.getfield 9, 3) := by decide +kernel
theorem dX12_feed_17 : decode cX12_feed 17 = .ok (.iconst 3, 1) := by decide +kernel
theorem dX12_feed_18 : decode cX12_feed 18 = .ok (.iaload, 1) := by decide +kernel
theorem dX12_feed_19 : decode cX12_feed 19 = .ok (.bipush 100, 2) := by decide +kernel
theorem dX12_feed_21 : decode cX12_feed 21 = .ok (.if_icmp .ne 6, 3) := by decide +kernel
theorem dX12_feed_24 : decode cX12_feed 24 = .ok (.bipush (-4), 2) := by decide +kernel
theorem dX12_feed_26 : decode cX12_feed 26 = .ok (.ireturn, 1) := by decide +kernel
theorem dX12_feed_27 : decode cX12_feed 27 = .ok (.aload_n 0, 1) := by decide +kernel
theorem dX12_feed_28 : decode cX12_feed 28 = .ok (.getfield 9, 3) := by decide +kernel
theorem dX12_feed_31 : decode cX12_feed 31 = .ok (.bipush 12, 2) := by decide +kernel
theorem dX12_feed_33 : decode cX12_feed 33 = .ok (.aload_n 0, 1) := by decide +kernel
theorem dX12_feed_34 : decode cX12_feed 34 = .ok (.getfield 9, 3) := by decide +kernel
theorem dX12_feed_37 : decode cX12_feed 37 = .ok (.iconst 3, 1) := by decide +kernel
theorem dX12_feed_38 : decode cX12_feed 38 = .ok (.iaload, 1) := by decide +kernel
theorem dX12_feed_39 : decode cX12_feed 39 = .ok (.iadd, 1) := by decide +kernel
theorem dX12_feed_40 : decode cX12_feed 40 = .ok (.iload_n 1, 1) := by decide +kernel
theorem dX12_feed_41 : decode cX12_feed 41 = .ok (.iastore, 1) := by decide +kernel
theorem dX12_feed_42 : decode cX12_feed 42 = .ok (.aload_n 0, 1) := by decide +kernel
theorem dX12_feed_43 : decode cX12_feed 43 = .ok (.getfield 9, 3) := by decide +kernel
theorem dX12_feed_46 : decode cX12_feed 46 = .ok (.iconst 3, 1) := by decide +kernel
theorem dX12_feed_47 : decode cX12_feed 47 = .ok (.dup2, 1) := by decide +kernel
theorem dX12_feed_48 : decode cX12_feed 48 = .ok (.iaload, 1) := by decide +kernel
theorem dX12_feed_49 : decode cX12_feed 49 = .ok (.iconst 1, 1) := by decide +kernel
theorem dX12_feed_50 : decode cX12_feed 50 = .ok (.iadd, 1) := by decide +kernel
theorem dX12_feed_51 : decode cX12_feed 51 = .ok (.iastore, 1) := by decide +kernel
theorem dX12_feed_52 : decode cX12_feed 52 = .ok (.aload_n 0, 1) := by decide +kernel
theorem dX12_feed_53 : decode cX12_feed 53 = .ok (.getfield 9, 3) := by decide +kernel
theorem dX12_feed_56 : decode cX12_feed 56 = .ok (.iconst 3, 1) := by decide +kernel
theorem dX12_feed_57 : decode cX12_feed 57 = .ok (.iaload, 1) := by decide +kernel
theorem dX12_feed_58 : decode cX12_feed 58 = .ok (.ireturn, 1) := by decide +kernel
theorem dX12_here_0 : decode cX12_here 0 = .ok (.aload_n 0, 1) := by decide +kernel
theorem dX12_here_1 : decode cX12_here 1 = .ok (.getfield 77, 3) := by decide +kernel
theorem dX12_here_4 : decode cX12_here 4 = .ok (.aload_n 0, 1) := by decide +kernel
theorem dX12_here_5 : decode cX12_here 5 = .ok (.getfield 80, 3) := by decide +kernel
theorem dX12_here_8 : decode cX12_here 8 = .ok (.if_icmp .ge 18, 3) := by decide +kernel
theorem dX12_here_11 : decode cX12_here 11 = .ok (.aload_n 0, 1) := by decide +kernel
theorem dX12_here_12 : decode cX12_here 12 = .ok (.getfield 9, 3) := by decide +kernel
theorem dX12_here_15 : decode cX12_here 15 = .ok (.bipush 12, 2) := by decide +kernel
theorem dX12_here_17 : decode cX12_here 17 = .ok (.aload_n 0, 1) := by decide +kernel
theorem dX12_here_18 : decode cX12_here 18 = .ok (.getfield 77, 3) := by decide +kernel
theorem dX12_here_21 : decode cX12_here 21 = .ok (.iadd, 1) := by decide +kernel
theorem dX12_here_22 : decode cX12_here 22 = .ok (.iaload, 1) := by decide +kernel
theorem dX12_here_23 : decode cX12_here 23 = .ok (.goto 4, 3) := by decide +kernel
theorem dX12_here_26 : decode cX12_here 26 = .ok (.iconst (-1), 1) := by decide +kernel
theorem dX12_here_27 : decode cX12_here 27 = .ok (.ireturn, 1) := by decide +kernel
theorem dX12_must_0 : decode cX12_must 0 = .ok (.aload_n 0, 1) := by decide +kernel
theorem dX12_must_1 : decode cX12_must 1 = .ok (.aload_n 0, 1) := by decide +kernel
theorem dX12_must_2 : decode cX12_must 2 = .ok (.getfield 83, 3) := by decide +kernel
theorem dX12_must_5 : decode cX12_must 5 = .ok (.ifCond .ne 11, 3) := by decide +kernel
theorem dX12_must_8 : decode cX12_must 8 = .ok (.aload_n 0, 1) := by decide +kernel
theorem dX12_must_9 : decode cX12_must 9 = .ok (.invokevirtual 87, 3) := by decide +kernel
theorem dX12_must_12 : decode cX12_must 12 = .ok (.iload_n 1, 1) := by decide +kernel
theorem dX12_must_13 : decode cX12_must 13 = .ok (.if_icmp .eq 7, 3) := by decide +kernel
theorem dX12_must_16 : decode cX12_must 16 = .ok (.iconst 1, 1) := by decide +kernel
theorem dX12_must_17 : decode cX12_must 17 = .ok (.goto 4, 3) := by decide +kernel
theorem dX12_must_20 : decode cX12_must 20 = .ok (.iconst 0, 1) := by decide +kernel
theorem dX12_must_21 : decode cX12_must 21 = .ok (.putfield 83, 3) := by decide +kernel
theorem dX12_must_24 : decode cX12_must 24 = .ok (.aload_n 0, 1) := by decide +kernel
theorem dX12_must_25 : decode cX12_must 25 = .ok (.dup, 1) := by decide +kernel
theorem dX12_must_26 : decode cX12_must 26 = .ok (.getfield 77, 3) := by decide +kernel
theorem dX12_must_29 : decode cX12_must 29 = .ok (.aload_n 0, 1) := by decide +kernel
theorem dX12_must_30 : decode cX12_must 30 = .ok (.getfield 83, 3) := by decide +kernel
theorem dX12_must_33 : decode cX12_must 33 = .ok (.ifCond .eq 7, 3) := by decide +kernel
theorem dX12_must_36 : decode cX12_must 36 = .ok (.iconst 0, 1) := by decide +kernel
theorem dX12_must_37 : decode cX12_must 37 = .ok (.goto 4, 3) := by decide +kernel
theorem dX12_must_40 : decode cX12_must 40 = .ok (.iconst 1, 1) := by decide +kernel
theorem dX12_must_41 : decode cX12_must 41 = .ok (.iadd, 1) := by decide +kernel
theorem dX12_must_42 : decode cX12_must 42 = .ok (.putfield 77, 3) := by decide +kernel
theorem dX12_must_45 : decode cX12_must 45 = .ok (.return_, 1) := by decide +kernel
theorem dX12_spells_0 : decode cX12_spells 0 = .ok (.iconst 0, 1) := by decide +kernel
theorem dX12_spells_1 : decode cX12_spells 1 = .ok (.istore_n 2, 1) := by decide +kernel
theorem dX12_spells_2 : decode cX12_spells 2 = .ok (.iload_n 2, 1) := by decide +kernel
theorem dX12_spells_3 : decode cX12_spells 3 = .ok (.aload_n 1, 1) := by decide +kernel
theorem dX12_spells_4 : decode cX12_spells 4 = .ok (.invokevirtual 91, 3) := by decide +kernel
theorem dX12_spells_7 : decode cX12_spells 7 = .ok (.if_icmp .ge 18, 3) := by decide +kernel
theorem dX12_spells_10 : decode cX12_spells 10 = .ok (.aload_n 0, 1) := by decide +kernel
theorem dX12_spells_11 : decode cX12_spells 11 = .ok (.aload_n 1, 1) := by decide +kernel
theorem dX12_spells_12 : decode cX12_spells 12 = .ok (.iload_n 2, 1) := by decide +kernel
theorem dX12_spells_13 : decode cX12_spells 13 = .ok (.invokevirtual 96, 3) := by decide +kernel
theorem dX12_spells_16 : decode cX12_spells 16 = .ok (.invokevirtual 100, 3) := by decide +kernel
theorem dX12_spells_19 : decode cX12_spells 19 = .ok (.iinc 2 1, 3) := by decide +kernel
theorem dX12_spells_22 : decode cX12_spells 22 = .ok (.goto (-20), 3) := by decide +kernel
theorem dX12_spells_25 : decode cX12_spells 25 = .ok (.return_, 1) := by decide +kernel
theorem dX12_figures_0 : decode cX12_figures 0 = .ok (.aload_n 0, 1) := by decide +kernel
theorem dX12_figures_1 : decode cX12_figures 1 = .ok (.aload_n 0, 1) := by decide +kernel
theorem dX12_figures_2 : decode cX12_figures 2 = .ok (.getfield 83, 3) := by decide +kernel
theorem dX12_figures_5 : decode cX12_figures 5 = .ok (.ifCond .ne 17, 3) := by decide +kernel
theorem dX12_figures_8 : decode cX12_figures 8 = .ok (.aload_n 0, 1) := by decide +kernel
theorem dX12_figures_9 : decode cX12_figures 9 = .ok (.invokevirtual 87, 3) := by decide +kernel
theorem dX12_figures_12 : decode cX12_figures 12 = .ok (.bipush 48, 2) := by decide +kernel
theorem dX12_figures_14 : decode cX12_figures 14 = .ok (.bipush 57, 2) := by decide +kernel
theorem dX12_figures_16 : decode cX12_figures 16 = .ok (.invokestatic 69, 3) := by decide +kernel
theorem dX12_figures_19 : decode cX12_figures 19 = .ok (.ifCond .ne 7, 3) := by decide +kernel
theorem dX12_figures_22 : decode cX12_figures 22 = .ok (.iconst 1, 1) := by decide +kernel
theorem dX12_figures_23 : decode cX12_figures 23 = .ok (.goto 4, 3) := by decide +kernel
theorem dX12_figures_26 : decode cX12_figures 26 = .ok (.iconst 0, 1) := by decide +kernel
theorem dX12_figures_27 : decode cX12_figures 27 = .ok (.putfield 83, 3) := by decide +kernel
theorem dX12_figures_30 : decode cX12_figures 30 = .ok (.iconst 0, 1) := by decide +kernel
theorem dX12_figures_31 : decode cX12_figures 31 = .ok (.istore_n 1, 1) := by decide +kernel
theorem dX12_figures_32 : decode cX12_figures 32 = .ok (.iconst 0, 1) := by decide +kernel
theorem dX12_figures_33 : decode cX12_figures 33 = .ok (.istore_n 2, 1) := by decide +kernel
theorem dX12_figures_34 : decode cX12_figures 34 = .ok (.iload_n 2, 1) := by decide +kernel
theorem dX12_figures_35 : decode cX12_figures 35 = .ok (.iconst 2, 1) := by decide +kernel
theorem dX12_figures_36 : decode cX12_figures 36 = .ok (.if_icmp .ge 61, 3) := by decide +kernel
theorem dX12_figures_39 : decode cX12_figures 39 = .ok (.aload_n 0, 1) := by decide +kernel
theorem dX12_figures_40 : decode cX12_figures 40 = .ok (.getfield 83, 3) := by decide +kernel
theorem dX12_figures_43 : decode cX12_figures 43 = .ok (.ifCond .ne 54, 3) := by decide +kernel
theorem dX12_figures_46 : decode cX12_figures 46 = .ok (.aload_n 0, 1) := by decide +kernel
theorem dX12_figures_47 : decode cX12_figures 47 = .ok (.invokevirtual 87, 3) := by decide +kernel
theorem dX12_figures_50 : decode cX12_figures 50 = .ok (.bipush 48, 2) := by decide +kernel
theorem dX12_figures_52 : decode cX12_figures 52 = .ok (.bipush 57, 2) := by decide +kernel
theorem dX12_figures_54 : decode cX12_figures 54 = .ok (.invokestatic 69, 3) := by decide +kernel
theorem dX12_figures_57 : decode cX12_figures 57 = .ok (.ifCond .eq 40, 3) := by decide +kernel
theorem dX12_figures_60 : decode cX12_figures 60 = .ok (.iload_n 2, 1) := by decide +kernel
theorem dX12_figures_61 : decode cX12_figures 61 = .ok (.ifCond .eq 7, 3) := by decide +kernel
theorem dX12_figures_64 : decode cX12_figures 64 = .ok (.iload_n 1, 1) := by decide +kernel
theorem dX12_figures_65 : decode cX12_figures 65 = .ok (.ifCond .le 32, 3) := by decide +kernel
theorem dX12_figures_68 : decode cX12_figures 68 = .ok (.bipush 10, 2) := by decide +kernel
theorem dX12_figures_70 : decode cX12_figures 70 = .ok (.iload_n 1, 1) := by decide +kernel
theorem dX12_figures_71 : decode cX12_figures 71 = .ok (.imul, 1) := by decide +kernel
theorem dX12_figures_72 : decode cX12_figures 72 = .ok (.aload_n 0, 1) := by decide +kernel
theorem dX12_figures_73 : decode cX12_figures 73 = .ok (.invokevirtual 87, 3) := by decide +kernel
theorem dX12_figures_76 : decode cX12_figures 76 = .ok (.iadd, 1) := by decide +kernel
theorem dX12_figures_77 : decode cX12_figures 77 = .ok (.bipush 48, 2) := by decide +kernel
theorem dX12_figures_79 : decode cX12_figures 79 = .ok (.isub, 1) := by decide +kernel
theorem dX12_figures_80 : decode cX12_figures 80 = .ok (.istore_n 1, 1) := by decide +kernel
theorem dX12_figures_81 : decode cX12_figures 81 = .ok (.aload_n 0, 1) := by decide +kernel
theorem dX12_figures_82 : decode cX12_figures 82 = .ok (.dup, 1) := by decide +kernel
theorem dX12_figures_83 : decode cX12_figures 83 = .ok (.getfield 77, 3) := by decide +kernel
theorem dX12_figures_86 : decode cX12_figures 86 = .ok (.iconst 1, 1) := by decide +kernel
theorem dX12_figures_87 : decode cX12_figures 87 = .ok (.iadd, 1) := by decide +kernel
theorem dX12_figures_88 : decode cX12_figures 88 = .ok (.putfield 77, 3) := by decide +kernel
theorem dX12_figures_91 : decode cX12_figures 91 = .ok (.iinc 2 1, 3) := by decide +kernel
theorem dX12_figures_94 : decode cX12_figures 94 = .ok (.goto (-60), 3) := by decide +kernel
theorem dX12_figures_97 : decode cX12_figures 97 = .ok (.iload_n 1, 1) := by decide +kernel
theorem dX12_figures_98 : decode cX12_figures 98 = .ok (.ireturn, 1) := by decide +kernel
theorem dX12_workHere_0 : decode cX12_workHere 0 = .ok (.aload_n 0, 1) := by decide +kernel
theorem dX12_workHere_1 : decode cX12_workHere 1 = .ok (.aload_n 0, 1) := by decide +kernel
theorem dX12_workHere_2 : decode cX12_workHere 2 = .ok (.getfield 83, 3) := by decide +kernel
theorem dX12_workHere_5 : decode cX12_workHere 5 = .ok (.ifCond .ne 17, 3) := by decide +kernel
theorem dX12_workHere_8 : decode cX12_workHere 8 = .ok (.aload_n 0, 1) := by decide +kernel
theorem dX12_workHere_9 : decode cX12_workHere 9 = .ok (.invokevirtual 87, 3) := by decide +kernel
theorem dX12_workHere_12 : decode cX12_workHere 12 = .ok (.bipush 48, 2) := by decide +kernel
theorem dX12_workHere_14 : decode cX12_workHere 14 = .ok (.bipush 50, 2) := by decide +kernel
theorem dX12_workHere_16 : decode cX12_workHere 16 = .ok (.invokestatic 69, 3) := by decide +kernel
theorem dX12_workHere_19 : decode cX12_workHere 19 = .ok (.ifCond .ne 7, 3) := by decide +kernel
theorem dX12_workHere_22 : decode cX12_workHere 22 = .ok (.iconst 1, 1) := by decide +kernel
theorem dX12_workHere_23 : decode cX12_workHere 23 = .ok (.goto 4, 3) := by decide +kernel
theorem dX12_workHere_26 : decode cX12_workHere 26 = .ok (.iconst 0, 1) := by decide +kernel
theorem dX12_workHere_27 : decode cX12_workHere 27 = .ok (.putfield 83, 3) := by decide +kernel
theorem dX12_workHere_30 : decode cX12_workHere 30 = .ok (.aload_n 0, 1) := by decide +kernel
theorem dX12_workHere_31 : decode cX12_workHere 31 = .ok (.getfield 83, 3) := by decide +kernel
theorem dX12_workHere_34 : decode cX12_workHere 34 = .ok (.ifCond .eq 7, 3) := by decide +kernel
theorem dX12_workHere_37 : decode cX12_workHere 37 = .ok (.iconst 0, 1) := by decide +kernel
theorem dX12_workHere_38 : decode cX12_workHere 38 = .ok (.goto 10, 3) := by decide +kernel
theorem dX12_workHere_41 : decode cX12_workHere 41 = .ok (.aload_n 0, 1) := by decide +kernel
theorem dX12_workHere_42 : decode cX12_workHere 42 = .ok (.invokevirtual 87, 3) := by decide +kernel
theorem dX12_workHere_45 : decode cX12_workHere 45 = .ok (.bipush 48, 2) := by decide +kernel
theorem dX12_workHere_47 : decode cX12_workHere 47 = .ok (.isub, 1) := by decide +kernel
theorem dX12_workHere_48 : decode cX12_workHere 48 = .ok (.istore_n 1, 1) := by decide +kernel
theorem dX12_workHere_49 : decode cX12_workHere 49 = .ok (.aload_n 0, 1) := by decide +kernel
theorem dX12_workHere_50 : decode cX12_workHere 50 = .ok (.bipush 48, 2) := by decide +kernel
theorem dX12_workHere_52 : decode cX12_workHere 52 = .ok (.iload_n 1, 1) := by decide +kernel
theorem dX12_workHere_53 : decode cX12_workHere 53 = .ok (.iadd, 1) := by decide +kernel
theorem dX12_workHere_54 : decode cX12_workHere 54 = .ok (.invokevirtual 100, 3) := by decide +kernel
theorem dX12_workHere_57 : decode cX12_workHere 57 = .ok (.aload_n 0, 1) := by decide +kernel
theorem dX12_workHere_58 : decode cX12_workHere 58 = .ok (.bipush 32, 2) := by decide +kernel
theorem dX12_workHere_60 : decode cX12_workHere 60 = .ok (.invokevirtual 100, 3) := by decide +kernel
theorem dX12_workHere_63 : decode cX12_workHere 63 = .ok (.iload_n 1, 1) := by decide +kernel
theorem dX12_workHere_64 : decode cX12_workHere 64 = .ok (.ireturn, 1) := by decide +kernel
theorem dX12_among_0 : decode cX12_among 0 = .ok (.iconst 0, 1) := by decide +kernel
theorem dX12_among_1 : decode cX12_among 1 = .ok (.istore_n 2, 1) := by decide +kernel
theorem dX12_among_2 : decode cX12_among 2 = .ok (.iload_n 2, 1) := by decide +kernel
theorem dX12_among_3 : decode cX12_among 3 = .ok (.aload_n 1, 1) := by decide +kernel
theorem dX12_among_4 : decode cX12_among 4 = .ok (.invokevirtual 91, 3) := by decide +kernel
theorem dX12_among_7 : decode cX12_among 7 = .ok (.if_icmp .ge 33, 3) := by decide +kernel
theorem dX12_among_10 : decode cX12_among 10 = .ok (.aload_n 0, 1) := by decide +kernel
theorem dX12_among_11 : decode cX12_among 11 = .ok (.invokevirtual 87, 3) := by decide +kernel
theorem dX12_among_14 : decode cX12_among 14 = .ok (.aload_n 1, 1) := by decide +kernel
theorem dX12_among_15 : decode cX12_among 15 = .ok (.iload_n 2, 1) := by decide +kernel
theorem dX12_among_16 : decode cX12_among 16 = .ok (.invokevirtual 96, 3) := by decide +kernel
theorem dX12_among_19 : decode cX12_among 19 = .ok (.if_icmp .ne 15, 3) := by decide +kernel
theorem dX12_among_22 : decode cX12_among 22 = .ok (.aload_n 0, 1) := by decide +kernel
theorem dX12_among_23 : decode cX12_among 23 = .ok (.dup, 1) := by decide +kernel
theorem dX12_among_24 : decode cX12_among 24 = .ok (.getfield 77, 3) := by decide +kernel
theorem dX12_among_27 : decode cX12_among 27 = .ok (.iconst 1, 1) := by decide +kernel
theorem dX12_among_28 : decode cX12_among 28 = .ok (.iadd, 1) := by decide +kernel
theorem dX12_among_29 : decode cX12_among 29 = .ok (.putfield 77, 3) := by decide +kernel
theorem dX12_among_32 : decode cX12_among 32 = .ok (.iload_n 2, 1) := by decide +kernel
theorem dX12_among_33 : decode cX12_among 33 = .ok (.ireturn, 1) := by decide +kernel
theorem dX12_among_34 : decode cX12_among 34 = .ok (.iinc 2 1, 3) := by decide +kernel
theorem dX12_among_37 : decode cX12_among 37 = .ok (.goto (-35), 3) := by decide +kernel
theorem dX12_among_40 : decode cX12_among 40 = .ok (.iconst (-1), 1) := by decide +kernel
theorem dX12_among_41 : decode cX12_among 41 = .ok (.ireturn, 1) := by decide +kernel
theorem dX12_emits_0 : decode cX12_emits 0 = .ok (.aload_n 0, 1) := by decide +kernel
theorem dX12_emits_1 : decode cX12_emits 1 = .ok (.getfield 83, 3) := by decide +kernel
theorem dX12_emits_4 : decode cX12_emits 4 = .ok (.ifCond .ne 52, 3) := by decide +kernel
theorem dX12_emits_7 : decode cX12_emits 7 = .ok (.aload_n 0, 1) := by decide +kernel
theorem dX12_emits_8 : decode cX12_emits 8 = .ok (.getfield 9, 3) := by decide +kernel
theorem dX12_emits_11 : decode cX12_emits 11 = .ok (.sipush 192, 3) := by decide +kernel
theorem dX12_emits_14 : decode cX12_emits 14 = .ok (.sipush 140, 3) := by decide +kernel
theorem dX12_emits_17 : decode cX12_emits 17 = .ok (.aload_n 0, 1) := by decide +kernel
theorem dX12_emits_18 : decode cX12_emits 18 = .ok (.getfield 104, 3) := by decide +kernel
theorem dX12_emits_21 : decode cX12_emits 21 = .ok (.imul, 1) := by decide +kernel
theorem dX12_emits_22 : decode cX12_emits 22 = .ok (.iadd, 1) := by decide +kernel
theorem dX12_emits_23 : decode cX12_emits 23 = .ok (.aload_n 0, 1) := by decide +kernel
theorem dX12_emits_24 : decode cX12_emits 24 = .ok (.getfield 9, 3) := by decide +kernel
theorem dX12_emits_27 : decode cX12_emits 27 = .ok (.sipush 187, 3) := by decide +kernel
theorem dX12_emits_30 : decode cX12_emits 30 = .ok (.aload_n 0, 1) := by decide +kernel
theorem dX12_emits_31 : decode cX12_emits 31 = .ok (.getfield 104, 3) := by decide +kernel
theorem dX12_emits_34 : decode cX12_emits 34 = .ok (.iadd, 1) := by decide +kernel
theorem dX12_emits_35 : decode cX12_emits 35 = .ok (.iaload, 1) := by decide +kernel
theorem dX12_emits_36 : decode cX12_emits 36 = .ok (.iadd, 1) := by decide +kernel
theorem dX12_emits_37 : decode cX12_emits 37 = .ok (.iload_n 1, 1) := by decide +kernel
theorem dX12_emits_38 : decode cX12_emits 38 = .ok (.iastore, 1) := by decide +kernel
theorem dX12_emits_39 : decode cX12_emits 39 = .ok (.aload_n 0, 1) := by decide +kernel
theorem dX12_emits_40 : decode cX12_emits 40 = .ok (.getfield 9, 3) := by decide +kernel
theorem dX12_emits_43 : decode cX12_emits 43 = .ok (.sipush 187, 3) := by decide +kernel
theorem dX12_emits_46 : decode cX12_emits 46 = .ok (.aload_n 0, 1) := by decide +kernel
theorem dX12_emits_47 : decode cX12_emits 47 = .ok (.getfield 104, 3) := by decide +kernel
theorem dX12_emits_50 : decode cX12_emits 50 = .ok (.iadd, 1) := by decide +kernel
theorem dX12_emits_51 : decode cX12_emits 51 = .ok (.dup2, 1) := by decide +kernel
theorem dX12_emits_52 : decode cX12_emits 52 = .ok (.iaload, 1) := by decide +kernel
theorem dX12_emits_53 : decode cX12_emits 53 = .ok (.iconst 1, 1) := by decide +kernel
theorem dX12_emits_54 : decode cX12_emits 54 = .ok (.iadd, 1) := by decide +kernel
theorem dX12_emits_55 : decode cX12_emits 55 = .ok (.iastore, 1) := by decide +kernel
theorem dX12_emits_56 : decode cX12_emits 56 = .ok (.return_, 1) := by decide +kernel
theorem dX12_factor_0 : decode cX12_factor 0 = .ok (.aload_n 0, 1) := by decide +kernel
theorem dX12_factor_1 : decode cX12_factor 1 = .ok (.getfield 83, 3) := by decide +kernel
theorem dX12_factor_4 : decode cX12_factor 4 = .ok (.ifCond .eq 4, 3) := by decide +kernel
theorem dX12_factor_7 : decode cX12_factor 7 = .ok (.return_, 1) := by decide +kernel
theorem dX12_factor_8 : decode cX12_factor 8 = .ok (.aload_n 0, 1) := by decide +kernel
theorem dX12_factor_9 : decode cX12_factor 9 = .ok (.invokevirtual 87, 3) := by decide +kernel
theorem dX12_factor_12 : decode cX12_factor 12 = .ok (.istore_n 1, 1) := by decide +kernel
theorem dX12_factor_13 : decode cX12_factor 13 = .ok (.iload_n 1, 1) := by decide +kernel
theorem dX12_factor_14 : decode cX12_factor 14 = .ok (.bipush 33, 2) := by decide +kernel
theorem dX12_factor_16 : decode cX12_factor 16 = .ok (.if_icmp .eq 9, 3) := by decide +kernel
theorem dX12_factor_19 : decode cX12_factor 19 = .ok (.iload_n 1, 1) := by decide +kernel
theorem dX12_factor_20 : decode cX12_factor 20 = .ok (.bipush 40, 2) := by decide +kernel
theorem dX12_factor_22 : decode cX12_factor 22 = .ok (.if_icmp .ne 90, 3) := by decide +kernel
theorem dX12_factor_25 : decode cX12_factor 25 = .ok (.aload_n 0, 1) := by decide +kernel
theorem dX12_factor_26 : decode cX12_factor 26 = .ok (.aload_n 0, 1) := by decide +kernel
theorem dX12_factor_27 : decode cX12_factor 27 = .ok (.getfield 107, 3) := by decide +kernel
theorem dX12_factor_30 : decode cX12_factor 30 = .ok (.iconst 5, 1) := by decide +kernel
theorem dX12_factor_31 : decode cX12_factor 31 = .ok (.if_icmp .ne 7, 3) := by decide +kernel
theorem dX12_factor_34 : decode cX12_factor 34 = .ok (.iconst 1, 1) := by decide +kernel
theorem dX12_factor_35 : decode cX12_factor 35 = .ok (.goto 4, 3) := by decide +kernel
theorem dX12_factor_38 : decode cX12_factor 38 = .ok (.iconst 0, 1) := by decide +kernel
theorem dX12_factor_39 : decode cX12_factor 39 = .ok (.putfield 83, 3) := by decide +kernel
theorem dX12_factor_42 : decode cX12_factor 42 = .ok (.aload_n 0, 1) := by decide +kernel
theorem dX12_factor_43 : decode cX12_factor 43 = .ok (.dup, 1) := by decide +kernel
theorem dX12_factor_44 : decode cX12_factor 44 = .ok (.getfield 107, 3) := by decide +kernel
theorem dX12_factor_47 : decode cX12_factor 47 = .ok (.iconst 1, 1) := by decide +kernel
theorem dX12_factor_48 : decode cX12_factor 48 = .ok (.iadd, 1) := by decide +kernel
theorem dX12_factor_49 : decode cX12_factor 49 = .ok (.putfield 107, 3) := by decide +kernel
theorem dX12_factor_52 : decode cX12_factor 52 = .ok (.aload_n 0, 1) := by decide +kernel
theorem dX12_factor_53 : decode cX12_factor 53 = .ok (.dup, 1) := by decide +kernel
theorem dX12_factor_54 : decode cX12_factor 54 = .ok (.getfield 77, 3) := by decide +kernel
theorem dX12_factor_57 : decode cX12_factor 57 = .ok (.aload_n 0, 1) := by decide +kernel
theorem dX12_factor_58 : decode cX12_factor 58 = .ok (.getfield 83, 3) := by decide +kernel
theorem dX12_factor_61 : decode cX12_factor 61 = .ok (.ifCond .eq 7, 3) := by decide +kernel
theorem dX12_factor_64 : decode cX12_factor 64 = .ok (.iconst 0, 1) := by decide +kernel
theorem dX12_factor_65 : decode cX12_factor 65 = .ok (.goto 4, 3) := by decide +kernel
theorem dX12_factor_68 : decode cX12_factor 68 = .ok (.iconst 1, 1) := by decide +kernel
theorem dX12_factor_69 : decode cX12_factor 69 = .ok (.iadd, 1) := by decide +kernel
theorem dX12_factor_70 : decode cX12_factor 70 = .ok (.putfield 77, 3) := by decide +kernel
theorem dX12_factor_73 : decode cX12_factor 73 = .ok (.iload_n 1, 1) := by decide +kernel
theorem dX12_factor_74 : decode cX12_factor 74 = .ok (.bipush 33, 2) := by decide +kernel
theorem dX12_factor_76 : decode cX12_factor 76 = .ok (.if_icmp .ne 15, 3) := by decide +kernel
theorem dX12_factor_79 : decode cX12_factor 79 = .ok (.aload_n 0, 1) := by decide +kernel
theorem dX12_factor_80 : decode cX12_factor 80 = .ok (.invokevirtual 110, 3) := by decide +kernel
theorem dX12_factor_83 : decode cX12_factor 83 = .ok (.aload_n 0, 1) := by decide +kernel
theorem dX12_factor_84 : decode cX12_factor 84 = .ok (.iconst (-1), 1) := by decide +kernel
theorem dX12_factor_85 : decode cX12_factor 85 = .ok (.invokevirtual 113, 3) := by decide +kernel
theorem dX12_factor_88 : decode cX12_factor 88 = .ok (.goto 13, 3) := by decide +kernel
theorem dX12_factor_91 : decode cX12_factor 91 = .ok (.aload_n 0, 1) := by decide +kernel
theorem dX12_factor_92 : decode cX12_factor 92 = .ok (.invokevirtual 116, 3) := by decide +kernel
theorem dX12_factor_95 : decode cX12_factor 95 = .ok (.aload_n 0, 1) := by decide +kernel
theorem dX12_factor_96 : decode cX12_factor 96 = .ok (.bipush 41, 2) := by decide +kernel
theorem dX12_factor_98 : decode cX12_factor 98 = .ok (.invokevirtual 100, 3) := by decide +kernel
theorem dX12_factor_101 : decode cX12_factor 101 = .ok (.aload_n 0, 1) := by decide +kernel
theorem dX12_factor_102 : decode cX12_factor 102 = .ok (.dup, 1) := by decide +kernel
theorem dX12_factor_103 : decode cX12_factor 103 = .ok (.getfield 107, 3) := by decide +kernel
theorem dX12_factor_106 : decode cX12_factor 106 = .ok (.iconst 1, 1) := by decide +kernel
theorem dX12_factor_107 : decode cX12_factor 107 = .ok (.isub, 1) := by decide +kernel
theorem dX12_factor_108 : decode cX12_factor 108 = .ok (.putfield 107, 3) := by decide +kernel
theorem dX12_factor_111 : decode cX12_factor 111 = .ok (.return_, 1) := by decide +kernel
theorem dX12_factor_112 : decode cX12_factor 112 = .ok (.aload_n 0, 1) := by decide +kernel
theorem dX12_factor_113 : decode cX12_factor 113 = .ok (.ldc 119, 2) := by decide +kernel
theorem dX12_factor_115 : decode cX12_factor 115 = .ok (.invokevirtual 121, 3) := by decide +kernel
theorem dX12_factor_118 : decode cX12_factor 118 = .ok (.istore_n 2, 1) := by decide +kernel
theorem dX12_factor_119 : decode cX12_factor 119 = .ok (.aload_n 0, 1) := by decide +kernel
theorem dX12_factor_120 : decode cX12_factor 120 = .ok (.iload_n 2, 1) := by decide +kernel
theorem dX12_factor_121 : decode cX12_factor 121 = .ok (.iconst (-1), 1) := by decide +kernel
theorem dX12_factor_122 : decode cX12_factor 122 = .ok (.if_icmp .ne 7, 3) := by decide +kernel
theorem dX12_factor_125 : decode cX12_factor 125 = .ok (.iconst 1, 1) := by decide +kernel
theorem dX12_factor_126 : decode cX12_factor 126 = .ok (.goto 4, 3) := by decide +kernel
theorem dX12_factor_129 : decode cX12_factor 129 = .ok (.iconst 0, 1) := by decide +kernel
theorem dX12_factor_130 : decode cX12_factor 130 = .ok (.putfield 83, 3) := by decide +kernel
theorem dX12_factor_133 : decode cX12_factor 133 = .ok (.aload_n 0, 1) := by decide +kernel
theorem dX12_factor_134 : decode cX12_factor 134 = .ok (.getfield 83, 3) := by decide +kernel
theorem dX12_factor_137 : decode cX12_factor 137 = .ok (.ifCond .eq 7, 3) := by decide +kernel
theorem dX12_factor_140 : decode cX12_factor 140 = .ok (.iconst 0, 1) := by decide +kernel
theorem dX12_factor_141 : decode cX12_factor 141 = .ok (.goto 9, 3) := by decide +kernel
theorem dX12_factor_144 : decode cX12_factor 144 = .ok (.aload_n 0, 1) := by decide +kernel
theorem dX12_factor_145 : decode cX12_factor 145 = .ok (.ldc 125, 2) := by decide +kernel
theorem dX12_factor_147 : decode cX12_factor 147 = .ok (.invokevirtual 121, 3) := by decide +kernel
theorem dX12_factor_150 : decode cX12_factor 150 = .ok (.istore_n 3, 1) := by decide +kernel
theorem dX12_factor_151 : decode cX12_factor 151 = .ok (.aload_n 0, 1) := by decide +kernel
theorem dX12_factor_152 : decode cX12_factor 152 = .ok (.aload_n 0, 1) := by decide +kernel
theorem dX12_factor_153 : decode cX12_factor 153 = .ok (.getfield 83, 3) := by decide +kernel
theorem dX12_factor_156 : decode cX12_factor 156 = .ok (.ifCond .ne 8, 3) := by decide +kernel
theorem dX12_factor_159 : decode cX12_factor 159 = .ok (.iload_n 3, 1) := by decide +kernel
theorem dX12_factor_160 : decode cX12_factor 160 = .ok (.iconst (-1), 1) := by decide +kernel
theorem dX12_factor_161 : decode cX12_factor 161 = .ok (.if_icmp .ne 7, 3) := by decide +kernel
theorem dX12_factor_164 : decode cX12_factor 164 = .ok (.iconst 1, 1) := by decide +kernel
theorem dX12_factor_165 : decode cX12_factor 165 = .ok (.goto 4, 3) := by decide +kernel
theorem dX12_factor_168 : decode cX12_factor 168 = .ok (.iconst 0, 1) := by decide +kernel
theorem dX12_factor_169 : decode cX12_factor 169 = .ok (.putfield 83, 3) := by decide +kernel
theorem dX12_factor_172 : decode cX12_factor 172 = .ok (.aload_n 0, 1) := by decide +kernel
theorem dX12_factor_173 : decode cX12_factor 173 = .ok (.invokevirtual 127, 3) := by decide +kernel
theorem dX12_factor_176 : decode cX12_factor 176 = .ok (.istore 4, 2) := by decide +kernel
theorem dX12_factor_178 : decode cX12_factor 178 = .ok (.aload_n 0, 1) := by decide +kernel
theorem dX12_factor_179 : decode cX12_factor 179 = .ok (.iload_n 2, 1) := by decide +kernel
theorem dX12_factor_180 : decode cX12_factor 180 = .ok (.bipush 8, 2) := by decide +kernel
theorem dX12_factor_182 : decode cX12_factor 182 = .ok (.iload_n 3, 1) := by decide +kernel
theorem dX12_factor_183 : decode cX12_factor 183 = .ok (.imul, 1) := by decide +kernel
theorem dX12_factor_184 : decode cX12_factor 184 = .ok (.iadd, 1) := by decide +kernel
theorem dX12_factor_185 : decode cX12_factor 185 = .ok (.bipush 32, 2) := by decide +kernel
theorem dX12_factor_187 : decode cX12_factor 187 = .ok (.iload 4, 2) := by decide +kernel
theorem dX12_factor_189 : decode cX12_factor 189 = .ok (.imul, 1) := by decide +kernel
theorem dX12_factor_190 : decode cX12_factor 190 = .ok (.iadd, 1) := by decide +kernel
theorem dX12_factor_191 : decode cX12_factor 191 = .ok (.invokevirtual 113, 3) := by decide +kernel
theorem dX12_factor_194 : decode cX12_factor 194 = .ok (.return_, 1) := by decide +kernel
