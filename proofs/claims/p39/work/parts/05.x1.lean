theorem dX1_init_0 : decode cX1_init 0 = .ok (.aload_n 0, 1) := by decide +kernel
theorem dX1_init_1 : decode cX1_init 1 = .ok (.invokespecial 1, 3) := by decide +kernel
theorem dX1_init_4 : decode cX1_init 4 = .ok (.aload_n 0, 1) := by decide +kernel
theorem dX1_init_5 : decode cX1_init 5 = .ok (.bipush 14, 2) := by decide +kernel
theorem dX1_init_7 : decode cX1_init 7 = .ok (.putfield 7, 3) := by decide +kernel
theorem dX1_init_10 : decode cX1_init 10 = .ok (.aload_n 0, 1) := by decide +kernel
theorem dX1_init_11 : decode cX1_init 11 = .ok (.iconst 0, 1) := by decide +kernel
theorem dX1_init_12 : decode cX1_init 12 = .ok (.anewarray 13, 3) := by decide +kernel
theorem dX1_init_15 : decode cX1_init 15 = .ok (.putfield 15, 3) := by decide +kernel
theorem dX1_init_18 : decode cX1_init 18 = .ok (.aload_n 0, 1) := by decide +kernel
theorem dX1_init_19 : decode cX1_init 19 = .ok (.iconst 0, 1) := by decide +kernel
theorem dX1_init_20 : decode cX1_init 20 = .ok (.anewarray 13, 3) := by decide +kernel
theorem dX1_init_23 : decode cX1_init 23 = .ok (.putfield 19, 3) := by decide +kernel
theorem dX1_init_26 : decode cX1_init 26 = .ok (.return_, 1) := by decide +kernel
theorem dX1_with_0 : decode cX1_with 0 = .ok (.aload_n 0, 1) := by decide +kernel
theorem dX1_with_1 : decode cX1_with 1 = .ok (.arraylength, 1) := by decide +kernel
theorem dX1_with_2 : decode cX1_with 2 = .ok (.iconst 1, 1) := by decide +kernel
theorem dX1_with_3 : decode cX1_with 3 = .ok (.iadd, 1) := by decide +kernel
theorem dX1_with_4 : decode cX1_with 4 = .ok (.anewarray 13, 3) := by decide +kernel
theorem dX1_with_7 : decode cX1_with 7 = .ok (.astore_n 2, 1) := by decide +kernel
theorem dX1_with_8 : decode cX1_with 8 = .ok (.iconst 0, 1) := by decide +kernel
theorem dX1_with_9 : decode cX1_with 9 = .ok (.istore_n 3, 1) := by decide +kernel
theorem dX1_with_10 : decode cX1_with 10 = .ok (.iload_n 3, 1) := by decide +kernel
theorem dX1_with_11 : decode cX1_with 11 = .ok (.aload_n 0, 1) := by decide +kernel
theorem dX1_with_12 : decode cX1_with 12 = .ok (.arraylength, 1) := by decide +kernel
theorem dX1_with_13 : decode cX1_with 13 = .ok (.if_icmp .ge 15, 3) := by decide +kernel
theorem dX1_with_16 : decode cX1_with 16 = .ok (.aload_n 2, 1) := by decide +kernel
theorem dX1_with_17 : decode cX1_with 17 = .ok (.iload_n 3, 1) := by decide +kernel
theorem dX1_with_18 : decode cX1_with 18 = .ok (.aload_n 0, 1) := by decide +kernel
theorem dX1_with_19 : decode cX1_with 19 = .ok (.iload_n 3, 1) := by decide +kernel
theorem dX1_with_20 : decode cX1_with 20 = .ok (.aaload, 1) := by decide +kernel
theorem dX1_with_21 : decode cX1_with 21 = .ok (.aastore, 1) := by decide +kernel
theorem dX1_with_22 : decode cX1_with 22 = .ok (.iinc 3 1, 3) := by decide +kernel
theorem dX1_with_25 : decode cX1_with 25 = .ok (.goto (-15), 3) := by decide +kernel
theorem dX1_with_28 : decode cX1_with 28 = .ok (.aload_n 2, 1) := by decide +kernel
theorem dX1_with_29 : decode cX1_with 29 = .ok (.aload_n 0, 1) := by decide +kernel
theorem dX1_with_30 : decode cX1_with 30 = .ok (.arraylength, 1) := by decide +kernel
theorem dX1_with_31 : decode cX1_with 31 = .ok (.aload_n 1, 1) := by decide +kernel
theorem dX1_with_32 : decode cX1_with 32 = .ok (.aastore, 1) := by decide +kernel
theorem dX1_with_33 : decode cX1_with 33 = .ok (.aload_n 2, 1) := by decide +kernel
theorem dX1_with_34 : decode cX1_with 34 = .ok (.areturn, 1) := by decide +kernel
set_option maxRecDepth 20000 in
theorem ggX1_without_X1_with : GoodIn wsX1_without wsX1_with := goodIn_r _ [5, 1] (by decide +kernel) (by decide +kernel)
set_option maxRecDepth 20000 in
theorem gX1_without_X1_with : GoodIn wsX1_without (va_wsS RX1 22 yX1_with wsX1_with) := goodIn_app (goodIn_of _ (by decide +kernel)) ggX1_without_X1_with
theorem dX1_without_0 : decode cX1_without 0 = .ok (.iconst 0, 1) := by decide +kernel
theorem dX1_without_1 : decode cX1_without 1 = .ok (.anewarray 13, 3) := by decide +kernel
theorem dX1_without_4 : decode cX1_without 4 = .ok (.astore_n 2, 1) := by decide +kernel
theorem dX1_without_5 : decode cX1_without 5 = .ok (.iconst 0, 1) := by decide +kernel
theorem dX1_without_6 : decode cX1_without 6 = .ok (.istore_n 3, 1) := by decide +kernel
theorem dX1_without_7 : decode cX1_without 7 = .ok (.iload_n 3, 1) := by decide +kernel
theorem dX1_without_8 : decode cX1_without 8 = .ok (.aload_n 0, 1) := by decide +kernel
theorem dX1_without_9 : decode cX1_without 9 = .ok (.arraylength, 1) := by decide +kernel
theorem dX1_without_10 : decode cX1_without 10 = .ok (.if_icmp .ge 22, 3) := by decide +kernel
theorem dX1_without_13 : decode cX1_without 13 = .ok (.iload_n 3, 1) := by decide +kernel
theorem dX1_without_14 : decode cX1_without 14 = .ok (.iload_n 1, 1) := by decide +kernel
theorem dX1_without_15 : decode cX1_without 15 = .ok (.if_icmp .eq 11, 3) := by decide +kernel
theorem dX1_without_18 : decode cX1_without 18 = .ok (.aload_n 2, 1) := by decide +kernel
theorem dX1_without_19 : decode cX1_without 19 = .ok (.aload_n 0, 1) := by decide +kernel
theorem dX1_without_20 : decode cX1_without 20 = .ok (.iload_n 3, 1) := by decide +kernel
theorem dX1_without_21 : decode cX1_without 21 = .ok (.aaload, 1) := by decide +kernel
theorem dX1_without_22 : decode cX1_without 22 = .ok (.invokestatic 22, 3) := by decide +kernel
theorem dX1_without_25 : decode cX1_without 25 = .ok (.astore_n 2, 1) := by decide +kernel
theorem dX1_without_26 : decode cX1_without 26 = .ok (.iinc 3 1, 3) := by decide +kernel
theorem dX1_without_29 : decode cX1_without 29 = .ok (.goto (-22), 3) := by decide +kernel
theorem dX1_without_32 : decode cX1_without 32 = .ok (.aload_n 2, 1) := by decide +kernel
theorem dX1_without_33 : decode cX1_without 33 = .ok (.areturn, 1) := by decide +kernel
theorem dX1_added_0 : decode cX1_added 0 = .ok (.iconst 0, 1) := by decide +kernel
theorem dX1_added_1 : decode cX1_added 1 = .ok (.istore_n 3, 1) := by decide +kernel
theorem dX1_added_2 : decode cX1_added 2 = .ok (.iload_n 1, 1) := by decide +kernel
theorem dX1_added_3 : decode cX1_added 3 = .ok (.istore 4, 2) := by decide +kernel
theorem dX1_added_5 : decode cX1_added 5 = .ok (.iload 4, 2) := by decide +kernel
theorem dX1_added_7 : decode cX1_added 7 = .ok (.iload_n 2, 1) := by decide +kernel
theorem dX1_added_8 : decode cX1_added 8 = .ok (.if_icmp .gt 21, 3) := by decide +kernel
theorem dX1_added_11 : decode cX1_added 11 = .ok (.iload_n 3, 1) := by decide +kernel
theorem dX1_added_12 : decode cX1_added 12 = .ok (.aload_n 0, 1) := by decide +kernel
theorem dX1_added_13 : decode cX1_added 13 = .ok (.getfield 15, 3) := by decide +kernel
theorem dX1_added_16 : decode cX1_added 16 = .ok (.iload 4, 2) := by decide +kernel
theorem dX1_added_18 : decode cX1_added 18 = .ok (.aaload, 1) := by decide +kernel
theorem dX1_added_19 : decode cX1_added 19 = .ok (.iconst 1, 1) := by decide +kernel
theorem dX1_added_20 : decode cX1_added 20 = .ok (.iaload, 1) := by decide +kernel
theorem dX1_added_21 : decode cX1_added 21 = .ok (.iadd, 1) := by decide +kernel
theorem dX1_added_22 : decode cX1_added 22 = .ok (.istore_n 3, 1) := by decide +kernel
theorem dX1_added_23 : decode cX1_added 23 = .ok (.iinc 4 1, 3) := by decide +kernel
theorem dX1_added_26 : decode cX1_added 26 = .ok (.goto (-21), 3) := by decide +kernel
theorem dX1_added_29 : decode cX1_added 29 = .ok (.iload_n 3, 1) := by decide +kernel
theorem dX1_added_30 : decode cX1_added 30 = .ok (.ireturn, 1) := by decide +kernel
set_option maxRecDepth 20000 in
theorem ggX1_draw_X1_added : GoodIn wsX1_draw wsX1_added := goodIn_r _ [7, 8, 13, 14, 15, 16, 17, 18] (by decide +kernel) (by decide +kernel)
set_option maxRecDepth 20000 in
theorem gX1_draw_X1_added : GoodIn wsX1_draw (wsV RX1 36 RX1 yX1_added wsX1_added) := goodIn_app (goodIn_of _ (by decide +kernel)) ggX1_draw_X1_added
set_option maxRecDepth 20000 in
theorem ggX1_draw_X1_with : GoodIn wsX1_draw wsX1_with := goodIn_r _ [11, 12] (by decide +kernel) (by decide +kernel)
set_option maxRecDepth 20000 in
theorem gX1_draw_X1_with : GoodIn wsX1_draw (va_wsS RX1 22 yX1_with wsX1_with) := goodIn_app (goodIn_of _ (by decide +kernel)) ggX1_draw_X1_with
theorem dX1_draw_0 : decode cX1_draw 0 = .ok (.aload_n 0, 1) := by decide +kernel
theorem dX1_draw_1 : decode cX1_draw 1 = .ok (.aload_n 0, 1) := by decide +kernel
theorem dX1_draw_2 : decode cX1_draw 2 = .ok (.getfield 19, 3) := by decide +kernel
theorem dX1_draw_5 : decode cX1_draw 5 = .ok (.iconst 4, 1) := by decide +kernel
theorem dX1_draw_6 : decode cX1_draw 6 = .ok (.newarray .int, 2) := by decide +kernel
theorem dX1_draw_8 : decode cX1_draw 8 = .ok (.dup, 1) := by decide +kernel
theorem dX1_draw_9 : decode cX1_draw 9 = .ok (.iconst 0, 1) := by decide +kernel
theorem dX1_draw_10 : decode cX1_draw 10 = .ok (.iload_n 1, 1) := by decide +kernel
theorem dX1_draw_11 : decode cX1_draw 11 = .ok (.iastore, 1) := by decide +kernel
theorem dX1_draw_12 : decode cX1_draw 12 = .ok (.dup, 1) := by decide +kernel
theorem dX1_draw_13 : decode cX1_draw 13 = .ok (.iconst 1, 1) := by decide +kernel
theorem dX1_draw_14 : decode cX1_draw 14 = .ok (.iload_n 2, 1) := by decide +kernel
theorem dX1_draw_15 : decode cX1_draw 15 = .ok (.iastore, 1) := by decide +kernel
theorem dX1_draw_16 : decode cX1_draw 16 = .ok (.dup, 1) := by decide +kernel
theorem dX1_draw_17 : decode cX1_draw 17 = .ok (.iconst 2, 1) := by decide +kernel
theorem dX1_draw_18 : decode cX1_draw 18 = .ok (.aload_n 0, 1) := by decide +kernel
theorem dX1_draw_19 : decode cX1_draw 19 = .ok (.iload_n 1, 1) := by decide +kernel
theorem dX1_draw_20 : decode cX1_draw 20 = .ok (.iload_n 2, 1) := by decide +kernel
theorem dX1_draw_21 : decode cX1_draw 21 = .ok (.invokevirtual 36, 3) := by decide +kernel
theorem dX1_draw_24 : decode cX1_draw 24 = .ok (.iastore, 1) := by decide +kernel
theorem dX1_draw_25 : decode cX1_draw 25 = .ok (.dup, 1) := by decide +kernel
theorem dX1_draw_26 : decode cX1_draw 26 = .ok (.iconst 3, 1) := by decide +kernel
theorem dX1_draw_27 : decode cX1_draw 27 = .ok (.iconst 0, 1) := by decide +kernel
theorem dX1_draw_28 : decode cX1_draw 28 = .ok (.iastore, 1) := by decide +kernel
theorem dX1_draw_29 : decode cX1_draw 29 = .ok (.invokestatic 22, 3) := by decide +kernel
theorem dX1_draw_32 : decode cX1_draw 32 = .ok (.putfield 19, 3) := by decide +kernel
theorem dX1_draw_35 : decode cX1_draw 35 = .ok (.aload_n 0, 1) := by decide +kernel
theorem dX1_draw_36 : decode cX1_draw 36 = .ok (.getfield 19, 3) := by decide +kernel
theorem dX1_draw_39 : decode cX1_draw 39 = .ok (.aload_n 0, 1) := by decide +kernel
theorem dX1_draw_40 : decode cX1_draw 40 = .ok (.getfield 19, 3) := by decide +kernel
theorem dX1_draw_43 : decode cX1_draw 43 = .ok (.arraylength, 1) := by decide +kernel
theorem dX1_draw_44 : decode cX1_draw 44 = .ok (.iconst 1, 1) := by decide +kernel
theorem dX1_draw_45 : decode cX1_draw 45 = .ok (.isub, 1) := by decide +kernel
theorem dX1_draw_46 : decode cX1_draw 46 = .ok (.aaload, 1) := by decide +kernel
theorem dX1_draw_47 : decode cX1_draw 47 = .ok (.iconst 2, 1) := by decide +kernel
theorem dX1_draw_48 : decode cX1_draw 48 = .ok (.iaload, 1) := by decide +kernel
theorem dX1_draw_49 : decode cX1_draw 49 = .ok (.ireturn, 1) := by decide +kernel
theorem dX1_most_0 : decode cX1_most 0 = .ok (.aload_n 0, 1) := by decide +kernel
theorem dX1_most_1 : decode cX1_most 1 = .ok (.getfield 15, 3) := by decide +kernel
theorem dX1_most_4 : decode cX1_most 4 = .ok (.arraylength, 1) := by decide +kernel
theorem dX1_most_5 : decode cX1_most 5 = .ok (.istore_n 2, 1) := by decide +kernel
theorem dX1_most_6 : decode cX1_most 6 = .ok (.iload_n 2, 1) := by decide +kernel
theorem dX1_most_7 : decode cX1_most 7 = .ok (.iconst 1, 1) := by decide +kernel
theorem dX1_most_8 : decode cX1_most 8 = .ok (.iadd, 1) := by decide +kernel
theorem dX1_most_9 : decode cX1_most 9 = .ok (.newarray .int, 2) := by decide +kernel
theorem dX1_most_11 : decode cX1_most 11 = .ok (.astore_n 3, 1) := by decide +kernel
theorem dX1_most_12 : decode cX1_most 12 = .ok (.iconst 0, 1) := by decide +kernel
theorem dX1_most_13 : decode cX1_most 13 = .ok (.istore 4, 2) := by decide +kernel
theorem dX1_most_15 : decode cX1_most 15 = .ok (.iload 4, 2) := by decide +kernel
theorem dX1_most_17 : decode cX1_most 17 = .ok (.iload_n 2, 1) := by decide +kernel
theorem dX1_most_18 : decode cX1_most 18 = .ok (.if_icmp .gt 30, 3) := by decide +kernel
theorem dX1_most_21 : decode cX1_most 21 = .ok (.aload_n 3, 1) := by decide +kernel
theorem dX1_most_22 : decode cX1_most 22 = .ok (.iload 4, 2) := by decide +kernel
theorem dX1_most_24 : decode cX1_most 24 = .ok (.iload 4, 2) := by decide +kernel
theorem dX1_most_26 : decode cX1_most 26 = .ok (.iload_n 1, 1) := by decide +kernel
theorem dX1_most_27 : decode cX1_most 27 = .ok (.if_icmp .le 13, 3) := by decide +kernel
theorem dX1_most_30 : decode cX1_most 30 = .ok (.bipush 40, 2) := by decide +kernel
theorem dX1_most_32 : decode cX1_most 32 = .ok (.iload 4, 2) := by decide +kernel
theorem dX1_most_34 : decode cX1_most 34 = .ok (.iload_n 1, 1) := by decide +kernel
theorem dX1_most_35 : decode cX1_most 35 = .ok (.isub, 1) := by decide +kernel
theorem dX1_most_36 : decode cX1_most 36 = .ok (.imul, 1) := by decide +kernel
theorem dX1_most_37 : decode cX1_most 37 = .ok (.goto 4, 3) := by decide +kernel
theorem dX1_most_40 : decode cX1_most 40 = .ok (.iconst 0, 1) := by decide +kernel
theorem dX1_most_41 : decode cX1_most 41 = .ok (.iastore, 1) := by decide +kernel
theorem dX1_most_42 : decode cX1_most 42 = .ok (.iinc 4 1, 3) := by decide +kernel
theorem dX1_most_45 : decode cX1_most 45 = .ok (.goto (-30), 3) := by decide +kernel
theorem dX1_most_48 : decode cX1_most 48 = .ok (.iconst 1, 1) := by decide +kernel
theorem dX1_most_49 : decode cX1_most 49 = .ok (.istore 4, 2) := by decide +kernel
theorem dX1_most_51 : decode cX1_most 51 = .ok (.iload 4, 2) := by decide +kernel
theorem dX1_most_53 : decode cX1_most 53 = .ok (.ifCond .eq 202, 3) := by decide +kernel
theorem dX1_most_56 : decode cX1_most 56 = .ok (.iconst 0, 1) := by decide +kernel
theorem dX1_most_57 : decode cX1_most 57 = .ok (.istore 4, 2) := by decide +kernel
theorem dX1_most_59 : decode cX1_most 59 = .ok (.iconst 0, 1) := by decide +kernel
theorem dX1_most_60 : decode cX1_most 60 = .ok (.istore 5, 2) := by decide +kernel
theorem dX1_most_62 : decode cX1_most 62 = .ok (.iload 5, 2) := by decide +kernel
theorem dX1_most_64 : decode cX1_most 64 = .ok (.iload_n 2, 1) := by decide +kernel
theorem dX1_most_65 : decode cX1_most 65 = .ok (.if_icmp .ge 67, 3) := by decide +kernel
theorem dX1_most_68 : decode cX1_most 68 = .ok (.aload_n 3, 1) := by decide +kernel
theorem dX1_most_69 : decode cX1_most 69 = .ok (.iload 5, 2) := by decide +kernel
theorem dX1_most_71 : decode cX1_most 71 = .ok (.iconst 1, 1) := by decide +kernel
theorem dX1_most_72 : decode cX1_most 72 = .ok (.iadd, 1) := by decide +kernel
theorem dX1_most_73 : decode cX1_most 73 = .ok (.iaload, 1) := by decide +kernel
theorem dX1_most_74 : decode cX1_most 74 = .ok (.aload_n 3, 1) := by decide +kernel
theorem dX1_most_75 : decode cX1_most 75 = .ok (.iload 5, 2) := by decide +kernel
theorem dX1_most_77 : decode cX1_most 77 = .ok (.iaload, 1) := by decide +kernel
theorem dX1_most_78 : decode cX1_most 78 = .ok (.bipush 40, 2) := by decide +kernel
theorem dX1_most_80 : decode cX1_most 80 = .ok (.iadd, 1) := by decide +kernel
theorem dX1_most_81 : decode cX1_most 81 = .ok (.if_icmp .le 19, 3) := by decide +kernel
theorem dX1_most_84 : decode cX1_most 84 = .ok (.aload_n 3, 1) := by decide +kernel
theorem dX1_most_85 : decode cX1_most 85 = .ok (.iload 5, 2) := by decide +kernel
theorem dX1_most_87 : decode cX1_most 87 = .ok (.iconst 1, 1) := by decide +kernel
theorem dX1_most_88 : decode cX1_most 88 = .ok (.iadd, 1) := by decide +kernel
theorem dX1_most_89 : decode cX1_most 89 = .ok (.aload_n 3, 1) := by decide +kernel
theorem dX1_most_90 : decode cX1_most 90 = .ok (.iload 5, 2) := by decide +kernel
theorem dX1_most_92 : decode cX1_most 92 = .ok (.iaload, 1) := by decide +kernel
theorem dX1_most_93 : decode cX1_most 93 = .ok (.bipush 40, 2) := by decide +kernel
theorem dX1_most_95 : decode cX1_most 95 = .ok (.iadd, 1) := by decide +kernel
theorem dX1_most_96 : decode cX1_most 96 = .ok (.iastore, 1) := by decide +kernel
theorem dX1_most_97 : decode cX1_most 97 = .ok (.iconst 1, 1) := by decide +kernel
theorem dX1_most_98 : decode cX1_most 98 = .ok (.istore 4, 2) := by decide +kernel
theorem dX1_most_100 : decode cX1_most 100 = .ok (.aload_n 3, 1) := by decide +kernel
theorem dX1_most_101 : decode cX1_most 101 = .ok (.iload 5, 2) := by decide +kernel
theorem dX1_most_103 : decode cX1_most 103 = .ok (.iaload, 1) := by decide +kernel
theorem dX1_most_104 : decode cX1_most 104 = .ok (.aload_n 3, 1) := by decide +kernel
theorem dX1_most_105 : decode cX1_most 105 = .ok (.iload 5, 2) := by decide +kernel
theorem dX1_most_107 : decode cX1_most 107 = .ok (.iconst 1, 1) := by decide +kernel
theorem dX1_most_108 : decode cX1_most 108 = .ok (.iadd, 1) := by decide +kernel
theorem dX1_most_109 : decode cX1_most 109 = .ok (.iaload, 1) := by decide +kernel
theorem dX1_most_110 : decode cX1_most 110 = .ok (.if_icmp .le 16, 3) := by decide +kernel
theorem dX1_most_113 : decode cX1_most 113 = .ok (.aload_n 3, 1) := by decide +kernel
theorem dX1_most_114 : decode cX1_most 114 = .ok (.iload 5, 2) := by decide +kernel
theorem dX1_most_116 : decode cX1_most 116 = .ok (.aload_n 3, 1) := by decide +kernel
theorem dX1_most_117 : decode cX1_most 117 = .ok (.iload 5, 2) := by decide +kernel
theorem dX1_most_119 : decode cX1_most 119 = .ok (.iconst 1, 1) := by decide +kernel
theorem dX1_most_120 : decode cX1_most 120 = .ok (.iadd, 1) := by decide +kernel
theorem dX1_most_121 : decode cX1_most 121 = .ok (.iaload, 1) := by decide +kernel
theorem dX1_most_122 : decode cX1_most 122 = .ok (.iastore, 1) := by decide +kernel
theorem dX1_most_123 : decode cX1_most 123 = .ok (.iconst 1, 1) := by decide +kernel
theorem dX1_most_124 : decode cX1_most 124 = .ok (.istore 4, 2) := by decide +kernel
theorem dX1_most_126 : decode cX1_most 126 = .ok (.iinc 5 1, 3) := by decide +kernel
theorem dX1_most_129 : decode cX1_most 129 = .ok (.goto (-67), 3) := by decide +kernel
theorem dX1_most_132 : decode cX1_most 132 = .ok (.aload_n 0, 1) := by decide +kernel
theorem dX1_most_133 : decode cX1_most 133 = .ok (.getfield 19, 3) := by decide +kernel
theorem dX1_most_136 : decode cX1_most 136 = .ok (.astore 5, 2) := by decide +kernel
theorem dX1_most_138 : decode cX1_most 138 = .ok (.aload 5, 2) := by decide +kernel
theorem dX1_most_140 : decode cX1_most 140 = .ok (.arraylength, 1) := by decide +kernel
theorem dX1_most_141 : decode cX1_most 141 = .ok (.istore 6, 2) := by decide +kernel
theorem dX1_most_143 : decode cX1_most 143 = .ok (.iconst 0, 1) := by decide +kernel
theorem dX1_most_144 : decode cX1_most 144 = .ok (.istore 7, 2) := by decide +kernel
theorem dX1_most_146 : decode cX1_most 146 = .ok (.iload 7, 2) := by decide +kernel
theorem dX1_most_148 : decode cX1_most 148 = .ok (.iload 6, 2) := by decide +kernel
theorem dX1_most_150 : decode cX1_most 150 = .ok (.if_icmp .ge 102, 3) := by decide +kernel
theorem dX1_most_153 : decode cX1_most 153 = .ok (.aload 5, 2) := by decide +kernel
theorem dX1_most_155 : decode cX1_most 155 = .ok (.iload 7, 2) := by decide +kernel
theorem dX1_most_157 : decode cX1_most 157 = .ok (.aaload, 1) := by decide +kernel
theorem dX1_most_158 : decode cX1_most 158 = .ok (.astore 8, 2) := by decide +kernel
theorem dX1_most_160 : decode cX1_most 160 = .ok (.aload_n 3, 1) := by decide +kernel
theorem dX1_most_161 : decode cX1_most 161 = .ok (.aload 8, 2) := by decide +kernel
theorem dX1_most_163 : decode cX1_most 163 = .ok (.iconst 0, 1) := by decide +kernel
theorem dX1_most_164 : decode cX1_most 164 = .ok (.iaload, 1) := by decide +kernel
theorem dX1_most_165 : decode cX1_most 165 = .ok (.iaload, 1) := by decide +kernel
theorem dX1_most_166 : decode cX1_most 166 = .ok (.aload 8, 2) := by decide +kernel
theorem dX1_most_168 : decode cX1_most 168 = .ok (.iconst 2, 1) := by decide +kernel
theorem dX1_most_169 : decode cX1_most 169 = .ok (.iaload, 1) := by decide +kernel
theorem dX1_most_170 : decode cX1_most 170 = .ok (.iadd, 1) := by decide +kernel
theorem dX1_most_171 : decode cX1_most 171 = .ok (.aload 8, 2) := by decide +kernel
theorem dX1_most_173 : decode cX1_most 173 = .ok (.iconst 3, 1) := by decide +kernel
theorem dX1_most_174 : decode cX1_most 174 = .ok (.iaload, 1) := by decide +kernel
theorem dX1_most_175 : decode cX1_most 175 = .ok (.iadd, 1) := by decide +kernel
theorem dX1_most_176 : decode cX1_most 176 = .ok (.istore 9, 2) := by decide +kernel
theorem dX1_most_178 : decode cX1_most 178 = .ok (.aload_n 3, 1) := by decide +kernel
theorem dX1_most_179 : decode cX1_most 179 = .ok (.aload 8, 2) := by decide +kernel
theorem dX1_most_181 : decode cX1_most 181 = .ok (.iconst 1, 1) := by decide +kernel
theorem dX1_most_182 : decode cX1_most 182 = .ok (.iaload, 1) := by decide +kernel
theorem dX1_most_183 : decode cX1_most 183 = .ok (.iconst 1, 1) := by decide +kernel
theorem dX1_most_184 : decode cX1_most 184 = .ok (.iadd, 1) := by decide +kernel
theorem dX1_most_185 : decode cX1_most 185 = .ok (.iaload, 1) := by decide +kernel
theorem dX1_most_186 : decode cX1_most 186 = .ok (.aload 8, 2) := by decide +kernel
theorem dX1_most_188 : decode cX1_most 188 = .ok (.iconst 2, 1) := by decide +kernel
theorem dX1_most_189 : decode cX1_most 189 = .ok (.iaload, 1) := by decide +kernel
theorem dX1_most_190 : decode cX1_most 190 = .ok (.isub, 1) := by decide +kernel
theorem dX1_most_191 : decode cX1_most 191 = .ok (.aload 8, 2) := by decide +kernel
theorem dX1_most_193 : decode cX1_most 193 = .ok (.iconst 3, 1) := by decide +kernel
theorem dX1_most_194 : decode cX1_most 194 = .ok (.iaload, 1) := by decide +kernel
theorem dX1_most_195 : decode cX1_most 195 = .ok (.iadd, 1) := by decide +kernel
theorem dX1_most_196 : decode cX1_most 196 = .ok (.istore 10, 2) := by decide +kernel
theorem dX1_most_198 : decode cX1_most 198 = .ok (.iload 9, 2) := by decide +kernel
theorem dX1_most_200 : decode cX1_most 200 = .ok (.aload_n 3, 1) := by decide +kernel
theorem dX1_most_201 : decode cX1_most 201 = .ok (.aload 8, 2) := by decide +kernel
theorem dX1_most_203 : decode cX1_most 203 = .ok (.iconst 1, 1) := by decide +kernel
theorem dX1_most_204 : decode cX1_most 204 = .ok (.iaload, 1) := by decide +kernel
theorem dX1_most_205 : decode cX1_most 205 = .ok (.iconst 1, 1) := by decide +kernel
theorem dX1_most_206 : decode cX1_most 206 = .ok (.iadd, 1) := by decide +kernel
theorem dX1_most_207 : decode cX1_most 207 = .ok (.iaload, 1) := by decide +kernel
theorem dX1_most_208 : decode cX1_most 208 = .ok (.if_icmp .ge 16, 3) := by decide +kernel
theorem dX1_most_211 : decode cX1_most 211 = .ok (.aload_n 3, 1) := by decide +kernel
theorem dX1_most_212 : decode cX1_most 212 = .ok (.aload 8, 2) := by decide +kernel
theorem dX1_most_214 : decode cX1_most 214 = .ok (.iconst 1, 1) := by decide +kernel
theorem dX1_most_215 : decode cX1_most 215 = .ok (.iaload, 1) := by decide +kernel
theorem dX1_most_216 : decode cX1_most 216 = .ok (.iconst 1, 1) := by decide +kernel
theorem dX1_most_217 : decode cX1_most 217 = .ok (.iadd, 1) := by decide +kernel
theorem dX1_most_218 : decode cX1_most 218 = .ok (.iload 9, 2) := by decide +kernel
theorem dX1_most_220 : decode cX1_most 220 = .ok (.iastore, 1) := by decide +kernel
theorem dX1_most_221 : decode cX1_most 221 = .ok (.iconst 1, 1) := by decide +kernel
theorem dX1_most_222 : decode cX1_most 222 = .ok (.istore 4, 2) := by decide +kernel
theorem dX1_most_224 : decode cX1_most 224 = .ok (.iload 10, 2) := by decide +kernel
theorem dX1_most_226 : decode cX1_most 226 = .ok (.aload_n 3, 1) := by decide +kernel
theorem dX1_most_227 : decode cX1_most 227 = .ok (.aload 8, 2) := by decide +kernel
theorem dX1_most_229 : decode cX1_most 229 = .ok (.iconst 0, 1) := by decide +kernel
theorem dX1_most_230 : decode cX1_most 230 = .ok (.iaload, 1) := by decide +kernel
theorem dX1_most_231 : decode cX1_most 231 = .ok (.iaload, 1) := by decide +kernel
theorem dX1_most_232 : decode cX1_most 232 = .ok (.if_icmp .ge 14, 3) := by decide +kernel
theorem dX1_most_235 : decode cX1_most 235 = .ok (.aload_n 3, 1) := by decide +kernel
theorem dX1_most_236 : decode cX1_most 236 = .ok (.aload 8, 2) := by decide +kernel
theorem dX1_most_238 : decode cX1_most 238 = .ok (.iconst 0, 1) := by decide +kernel
theorem dX1_most_239 : decode cX1_most 239 = .ok (.iaload, 1) := by decide +kernel
theorem dX1_most_240 : decode cX1_most 240 = .ok (.iload 10, 2) := by decide +kernel
theorem dX1_most_242 : decode cX1_most 242 = .ok (.iastore, 1) := by decide +kernel
theorem dX1_most_243 : decode cX1_most 243 = .ok (.iconst 1, 1) := by decide +kernel
theorem dX1_most_244 : decode cX1_most 244 = .ok (.istore 4, 2) := by decide +kernel
theorem dX1_most_246 : decode cX1_most 246 = .ok (.iinc 7 1, 3) := by decide +kernel
theorem dX1_most_249 : decode cX1_most 249 = .ok (.goto (-103), 3) := by decide +kernel
theorem dX1_most_252 : decode cX1_most 252 = .ok (.goto (-201), 3) := by decide +kernel
theorem dX1_most_255 : decode cX1_most 255 = .ok (.aload_n 3, 1) := by decide +kernel
theorem dX1_most_256 : decode cX1_most 256 = .ok (.areturn, 1) := by decide +kernel
set_option maxRecDepth 20000 in
theorem ggX1_least_X1_most : GoodIn wsX1_least wsX1_most := goodIn_r _ [5, 6, 7, 8, 9, 10, 11, 12, 13, 14] (by decide +kernel) (by decide +kernel)
set_option maxRecDepth 20000 in
theorem gX1_least_X1_most : GoodIn wsX1_least (wsV RX1 40 RX1 yX1_most wsX1_most) := goodIn_app (goodIn_of _ (by decide +kernel)) ggX1_least_X1_most
theorem dX1_least_0 : decode cX1_least 0 = .ok (.aload_n 0, 1) := by decide +kernel
theorem dX1_least_1 : decode cX1_least 1 = .ok (.iload_n 2, 1) := by decide +kernel
theorem dX1_least_2 : decode cX1_least 2 = .ok (.iconst 1, 1) := by decide +kernel
theorem dX1_least_3 : decode cX1_least 3 = .ok (.iadd, 1) := by decide +kernel
theorem dX1_least_4 : decode cX1_least 4 = .ok (.invokevirtual 40, 3) := by decide +kernel
theorem dX1_least_7 : decode cX1_least 7 = .ok (.iload_n 1, 1) := by decide +kernel
theorem dX1_least_8 : decode cX1_least 8 = .ok (.iaload, 1) := by decide +kernel
theorem dX1_least_9 : decode cX1_least 9 = .ok (.ineg, 1) := by decide +kernel
theorem dX1_least_10 : decode cX1_least 10 = .ok (.ireturn, 1) := by decide +kernel
set_option maxRecDepth 20000 in
theorem ggX1_greatest_X1_most : GoodIn wsX1_greatest wsX1_most := goodIn_r _ [5, 6, 7, 8, 9, 10, 11, 12, 13, 14] (by decide +kernel) (by decide +kernel)
set_option maxRecDepth 20000 in
theorem gX1_greatest_X1_most : GoodIn wsX1_greatest (wsV RX1 40 RX1 yX1_most wsX1_most) := goodIn_app (goodIn_of _ (by decide +kernel)) ggX1_greatest_X1_most
theorem dX1_greatest_0 : decode cX1_greatest 0 = .ok (.aload_n 0, 1) := by decide +kernel
theorem dX1_greatest_1 : decode cX1_greatest 1 = .ok (.iload_n 1, 1) := by decide +kernel
theorem dX1_greatest_2 : decode cX1_greatest 2 = .ok (.invokevirtual 40, 3) := by decide +kernel
theorem dX1_greatest_5 : decode cX1_greatest 5 = .ok (.iload_n 2, 1) := by decide +kernel
theorem dX1_greatest_6 : decode cX1_greatest 6 = .ok (.iconst 1, 1) := by decide +kernel
theorem dX1_greatest_7 : decode cX1_greatest 7 = .ok (.iadd, 1) := by decide +kernel
theorem dX1_greatest_8 : decode cX1_greatest 8 = .ok (.iaload, 1) := by decide +kernel
theorem dX1_greatest_9 : decode cX1_greatest 9 = .ok (.ireturn, 1) := by decide +kernel
set_option maxRecDepth 20000 in
theorem ggX1_doubt_X1_greatest : GoodIn wsX1_doubt wsX1_greatest := goodIn_r _ [6, 7, 8, 9, 5, 10, 1, 11, 12, 17, 18, 19, 20, 21, 22] (by decide +kernel) (by decide +kernel)
set_option maxRecDepth 20000 in
theorem gX1_doubt_X1_greatest : GoodIn wsX1_doubt (wsV RX1 44 RX1 yX1_greatest wsX1_greatest) := goodIn_app (goodIn_of _ (by decide +kernel)) ggX1_doubt_X1_greatest
set_option maxRecDepth 20000 in
theorem ggX1_doubt_X1_least : GoodIn wsX1_doubt wsX1_least := goodIn_r _ [16, 7, 8, 9, 5, 10, 1, 11, 12, 17, 18, 19, 20, 21, 22] (by decide +kernel) (by decide +kernel)
set_option maxRecDepth 20000 in
theorem gX1_doubt_X1_least : GoodIn wsX1_doubt (wsV RX1 47 RX1 yX1_least wsX1_least) := goodIn_app (goodIn_of _ (by decide +kernel)) ggX1_doubt_X1_least
theorem dX1_doubt_0 : decode cX1_doubt 0 = .ok (.iconst 0, 1) := by decide +kernel
theorem dX1_doubt_1 : decode cX1_doubt 1 = .ok (.istore_n 1, 1) := by decide +kernel
theorem dX1_doubt_2 : decode cX1_doubt 2 = .ok (.iconst 0, 1) := by decide +kernel
theorem dX1_doubt_3 : decode cX1_doubt 3 = .ok (.istore_n 2, 1) := by decide +kernel
theorem dX1_doubt_4 : decode cX1_doubt 4 = .ok (.iload_n 2, 1) := by decide +kernel
theorem dX1_doubt_5 : decode cX1_doubt 5 = .ok (.aload_n 0, 1) := by decide +kernel
theorem dX1_doubt_6 : decode cX1_doubt 6 = .ok (.getfield 15, 3) := by decide +kernel
theorem dX1_doubt_9 : decode cX1_doubt 9 = .ok (.arraylength, 1) := by decide +kernel
theorem dX1_doubt_10 : decode cX1_doubt 10 = .ok (.if_icmp .ge 25, 3) := by decide +kernel
theorem dX1_doubt_13 : decode cX1_doubt 13 = .ok (.iload_n 1, 1) := by decide +kernel
theorem dX1_doubt_14 : decode cX1_doubt 14 = .ok (.aload_n 0, 1) := by decide +kernel
theorem dX1_doubt_15 : decode cX1_doubt 15 = .ok (.iload_n 2, 1) := by decide +kernel
theorem dX1_doubt_16 : decode cX1_doubt 16 = .ok (.iload_n 2, 1) := by decide +kernel
theorem dX1_doubt_17 : decode cX1_doubt 17 = .ok (.invokevirtual 44, 3) := by decide +kernel
theorem dX1_doubt_20 : decode cX1_doubt 20 = .ok (.aload_n 0, 1) := by decide +kernel
theorem dX1_doubt_21 : decode cX1_doubt 21 = .ok (.iload_n 2, 1) := by decide +kernel
theorem dX1_doubt_22 : decode cX1_doubt 22 = .ok (.iload_n 2, 1) := by decide +kernel
theorem dX1_doubt_23 : decode cX1_doubt 23 = .ok (.invokevirtual 47, 3) := by decide +kernel
theorem dX1_doubt_26 : decode cX1_doubt 26 = .ok (.isub, 1) := by decide +kernel
theorem dX1_doubt_27 : decode cX1_doubt 27 = .ok (.iadd, 1) := by decide +kernel
theorem dX1_doubt_28 : decode cX1_doubt 28 = .ok (.istore_n 1, 1) := by decide +kernel
theorem dX1_doubt_29 : decode cX1_doubt 29 = .ok (.iinc 2 1, 3) := by decide +kernel
theorem dX1_doubt_32 : decode cX1_doubt 32 = .ok (.goto (-28), 3) := by decide +kernel
theorem dX1_doubt_35 : decode cX1_doubt 35 = .ok (.iload_n 1, 1) := by decide +kernel
theorem dX1_doubt_36 : decode cX1_doubt 36 = .ok (.ireturn, 1) := by decide +kernel
set_option maxRecDepth 20000 in
theorem ggX1_letOut_X1_without : GoodIn wsX1_letOut wsX1_without := goodIn_r _ [11, 5, 12, 13, 10, 14] (by decide +kernel) (by decide +kernel)
set_option maxRecDepth 20000 in
theorem gX1_letOut_X1_without : GoodIn wsX1_letOut (va_wsS RX1 61 yX1_without wsX1_without) := goodIn_app (goodIn_of _ (by decide +kernel)) ggX1_letOut_X1_without
set_option maxRecDepth 20000 in
theorem ggX1_letOut_X1_with : GoodIn wsX1_letOut wsX1_with := goodIn_r _ [14, 5] (by decide +kernel) (by decide +kernel)
set_option maxRecDepth 20000 in
theorem gX1_letOut_X1_with : GoodIn wsX1_letOut (va_wsS RX1 22 yX1_with wsX1_with) := goodIn_app (goodIn_of _ (by decide +kernel)) ggX1_letOut_X1_with
theorem dX1_letOut_0 : decode cX1_letOut 0 = .ok (.aload_n 0, 1) := by decide +kernel
theorem dX1_letOut_1 : decode cX1_letOut 1 = .ok (.getfield 15, 3) := by decide +kernel
theorem dX1_letOut_4 : decode cX1_letOut 4 = .ok (.iconst 0, 1) := by decide +kernel
theorem dX1_letOut_5 : decode cX1_letOut 5 = .ok (.aaload, 1) := by decide +kernel
theorem dX1_letOut_6 : decode cX1_letOut 6 = .ok (.iconst 1, 1) := by decide +kernel
theorem dX1_letOut_7 : decode cX1_letOut 7 = .ok (.iaload, 1) := by decide +kernel
theorem dX1_letOut_8 : decode cX1_letOut 8 = .ok (.istore_n 1, 1) := by decide +kernel
theorem dX1_letOut_9 : decode cX1_letOut 9 = .ok (.iload_n 1, 1) := by decide +kernel
theorem dX1_letOut_10 : decode cX1_letOut 10 = .ok (.aload_n 0, 1) := by decide +kernel
theorem dX1_letOut_11 : decode cX1_letOut 11 = .ok (.getfield 7, 3) := by decide +kernel
theorem dX1_letOut_14 : decode cX1_letOut 14 = .ok (.if_icmp .le 16, 3) := by decide +kernel
theorem dX1_letOut_17 : decode cX1_letOut 17 = .ok (.aload_n 0, 1) := by decide +kernel
theorem dX1_letOut_18 : decode cX1_letOut 18 = .ok (.dup, 1) := by decide +kernel
theorem dX1_letOut_19 : decode cX1_letOut 19 = .ok (.getfield 33, 3) := by decide +kernel
theorem dX1_letOut_22 : decode cX1_letOut 22 = .ok (.iconst 1, 1) := by decide +kernel
theorem dX1_letOut_23 : decode cX1_letOut 23 = .ok (.iadd, 1) := by decide +kernel
theorem dX1_letOut_24 : decode cX1_letOut 24 = .ok (.putfield 33, 3) := by decide +kernel
theorem dX1_letOut_27 : decode cX1_letOut 27 = .ok (.goto 13, 3) := by decide +kernel
theorem dX1_letOut_30 : decode cX1_letOut 30 = .ok (.aload_n 0, 1) := by decide +kernel
theorem dX1_letOut_31 : decode cX1_letOut 31 = .ok (.dup, 1) := by decide +kernel
theorem dX1_letOut_32 : decode cX1_letOut 32 = .ok (.getfield 30, 3) := by decide +kernel
theorem dX1_letOut_35 : decode cX1_letOut 35 = .ok (.iconst 1, 1) := by decide +kernel
theorem dX1_letOut_36 : decode cX1_letOut 36 = .ok (.iadd, 1) := by decide +kernel
theorem dX1_letOut_37 : decode cX1_letOut 37 = .ok (.putfield 30, 3) := by decide +kernel
theorem dX1_letOut_40 : decode cX1_letOut 40 = .ok (.aload_n 0, 1) := by decide +kernel
theorem dX1_letOut_41 : decode cX1_letOut 41 = .ok (.aload_n 0, 1) := by decide +kernel
theorem dX1_letOut_42 : decode cX1_letOut 42 = .ok (.getfield 15, 3) := by decide +kernel
theorem dX1_letOut_45 : decode cX1_letOut 45 = .ok (.iconst 0, 1) := by decide +kernel
theorem dX1_letOut_46 : decode cX1_letOut 46 = .ok (.invokestatic 61, 3) := by decide +kernel
theorem dX1_letOut_49 : decode cX1_letOut 49 = .ok (.putfield 15, 3) := by decide +kernel
theorem dX1_letOut_52 : decode cX1_letOut 52 = .ok (.iconst 0, 1) := by decide +kernel
theorem dX1_letOut_53 : decode cX1_letOut 53 = .ok (.anewarray 13, 3) := by decide +kernel
theorem dX1_letOut_56 : decode cX1_letOut 56 = .ok (.astore_n 2, 1) := by decide +kernel
theorem dX1_letOut_57 : decode cX1_letOut 57 = .ok (.aload_n 0, 1) := by decide +kernel
theorem dX1_letOut_58 : decode cX1_letOut 58 = .ok (.getfield 19, 3) := by decide +kernel
theorem dX1_letOut_61 : decode cX1_letOut 61 = .ok (.astore_n 3, 1) := by decide +kernel
theorem dX1_letOut_62 : decode cX1_letOut 62 = .ok (.aload_n 3, 1) := by decide +kernel
theorem dX1_letOut_63 : decode cX1_letOut 63 = .ok (.arraylength, 1) := by decide +kernel
theorem dX1_letOut_64 : decode cX1_letOut 64 = .ok (.istore 4, 2) := by decide +kernel
theorem dX1_letOut_66 : decode cX1_letOut 66 = .ok (.iconst 0, 1) := by decide +kernel
theorem dX1_letOut_67 : decode cX1_letOut 67 = .ok (.istore 5, 2) := by decide +kernel
theorem dX1_letOut_69 : decode cX1_letOut 69 = .ok (.iload 5, 2) := by decide +kernel
theorem dX1_letOut_71 : decode cX1_letOut 71 = .ok (.iload 4, 2) := by decide +kernel
theorem dX1_letOut_73 : decode cX1_letOut 73 = .ok (.if_icmp .ge 102, 3) := by decide +kernel
theorem dX1_letOut_76 : decode cX1_letOut 76 = .ok (.aload_n 3, 1) := by decide +kernel
theorem dX1_letOut_77 : decode cX1_letOut 77 = .ok (.iload 5, 2) := by decide +kernel
theorem dX1_letOut_79 : decode cX1_letOut 79 = .ok (.aaload, 1) := by decide +kernel
theorem dX1_letOut_80 : decode cX1_letOut 80 = .ok (.astore 6, 2) := by decide +kernel
theorem dX1_letOut_82 : decode cX1_letOut 82 = .ok (.aload 6, 2) := by decide +kernel
theorem dX1_letOut_84 : decode cX1_letOut 84 = .ok (.iconst 1, 1) := by decide +kernel
theorem dX1_letOut_85 : decode cX1_letOut 85 = .ok (.iaload, 1) := by decide +kernel
theorem dX1_letOut_86 : decode cX1_letOut 86 = .ok (.ifCond .ne 6, 3) := by decide +kernel
theorem dX1_letOut_89 : decode cX1_letOut 89 = .ok (.goto 80, 3) := by decide +kernel
theorem dX1_letOut_92 : decode cX1_letOut 92 = .ok (.aload 6, 2) := by decide +kernel
theorem dX1_letOut_94 : decode cX1_letOut 94 = .ok (.iconst 0, 1) := by decide +kernel
theorem dX1_letOut_95 : decode cX1_letOut 95 = .ok (.iaload, 1) := by decide +kernel
theorem dX1_letOut_96 : decode cX1_letOut 96 = .ok (.ifCond .ne 7, 3) := by decide +kernel
theorem dX1_letOut_99 : decode cX1_letOut 99 = .ok (.iconst 1, 1) := by decide +kernel
theorem dX1_letOut_100 : decode cX1_letOut 100 = .ok (.goto 4, 3) := by decide +kernel
theorem dX1_letOut_103 : decode cX1_letOut 103 = .ok (.iconst 0, 1) := by decide +kernel
theorem dX1_letOut_104 : decode cX1_letOut 104 = .ok (.istore 7, 2) := by decide +kernel
theorem dX1_letOut_106 : decode cX1_letOut 106 = .ok (.aload_n 2, 1) := by decide +kernel
theorem dX1_letOut_107 : decode cX1_letOut 107 = .ok (.iconst 4, 1) := by decide +kernel
theorem dX1_letOut_108 : decode cX1_letOut 108 = .ok (.newarray .int, 2) := by decide +kernel
theorem dX1_letOut_110 : decode cX1_letOut 110 = .ok (.dup, 1) := by decide +kernel
theorem dX1_letOut_111 : decode cX1_letOut 111 = .ok (.iconst 0, 1) := by decide +kernel
theorem dX1_letOut_112 : decode cX1_letOut 112 = .ok (.iload 7, 2) := by decide +kernel
theorem dX1_letOut_114 : decode cX1_letOut 114 = .ok (.ifCond .eq 7, 3) := by decide +kernel
theorem dX1_letOut_117 : decode cX1_letOut 117 = .ok (.iconst 0, 1) := by decide +kernel
theorem dX1_letOut_118 : decode cX1_letOut 118 = .ok (.goto 9, 3) := by decide +kernel
theorem dX1_letOut_121 : decode cX1_letOut 121 = .ok (.aload 6, 2) := by decide +kernel
theorem dX1_letOut_123 : decode cX1_letOut 123 = .ok (.iconst 0, 1) := by decide +kernel
theorem dX1_letOut_124 : decode cX1_letOut 124 = .ok (.iaload, 1) := by decide +kernel
theorem dX1_letOut_125 : decode cX1_letOut 125 = .ok (.iconst 1, 1) := by decide +kernel
theorem dX1_letOut_126 : decode cX1_letOut 126 = .ok (.isub, 1) := by decide +kernel
theorem dX1_letOut_127 : decode cX1_letOut 127 = .ok (.iastore, 1) := by decide +kernel
theorem dX1_letOut_128 : decode cX1_letOut 128 = .ok (.dup, 1) := by decide +kernel
theorem dX1_letOut_129 : decode cX1_letOut 129 = .ok (.iconst 1, 1) := by decide +kernel
theorem dX1_letOut_130 : decode cX1_letOut 130 = .ok (.aload 6, 2) := by decide +kernel
theorem dX1_letOut_132 : decode cX1_letOut 132 = .ok (.iconst 1, 1) := by decide +kernel
theorem dX1_letOut_133 : decode cX1_letOut 133 = .ok (.iaload, 1) := by decide +kernel
theorem dX1_letOut_134 : decode cX1_letOut 134 = .ok (.iconst 1, 1) := by decide +kernel
theorem dX1_letOut_135 : decode cX1_letOut 135 = .ok (.isub, 1) := by decide +kernel
theorem dX1_letOut_136 : decode cX1_letOut 136 = .ok (.iastore, 1) := by decide +kernel
theorem dX1_letOut_137 : decode cX1_letOut 137 = .ok (.dup, 1) := by decide +kernel
theorem dX1_letOut_138 : decode cX1_letOut 138 = .ok (.iconst 2, 1) := by decide +kernel
theorem dX1_letOut_139 : decode cX1_letOut 139 = .ok (.iload 7, 2) := by decide +kernel
theorem dX1_letOut_141 : decode cX1_letOut 141 = .ok (.ifCond .eq 12, 3) := by decide +kernel
theorem dX1_letOut_144 : decode cX1_letOut 144 = .ok (.aload 6, 2) := by decide +kernel
theorem dX1_letOut_146 : decode cX1_letOut 146 = .ok (.iconst 2, 1) := by decide +kernel
theorem dX1_letOut_147 : decode cX1_letOut 147 = .ok (.iaload, 1) := by decide +kernel
theorem dX1_letOut_148 : decode cX1_letOut 148 = .ok (.iload_n 1, 1) := by decide +kernel
theorem dX1_letOut_149 : decode cX1_letOut 149 = .ok (.isub, 1) := by decide +kernel
theorem dX1_letOut_150 : decode cX1_letOut 150 = .ok (.goto 7, 3) := by decide +kernel
theorem dX1_letOut_153 : decode cX1_letOut 153 = .ok (.aload 6, 2) := by decide +kernel
theorem dX1_letOut_155 : decode cX1_letOut 155 = .ok (.iconst 2, 1) := by decide +kernel
theorem dX1_letOut_156 : decode cX1_letOut 156 = .ok (.iaload, 1) := by decide +kernel
theorem dX1_letOut_157 : decode cX1_letOut 157 = .ok (.iastore, 1) := by decide +kernel
theorem dX1_letOut_158 : decode cX1_letOut 158 = .ok (.dup, 1) := by decide +kernel
theorem dX1_letOut_159 : decode cX1_letOut 159 = .ok (.iconst 3, 1) := by decide +kernel
theorem dX1_letOut_160 : decode cX1_letOut 160 = .ok (.aload 6, 2) := by decide +kernel
theorem dX1_letOut_162 : decode cX1_letOut 162 = .ok (.iconst 3, 1) := by decide +kernel
theorem dX1_letOut_163 : decode cX1_letOut 163 = .ok (.iaload, 1) := by decide +kernel
theorem dX1_letOut_164 : decode cX1_letOut 164 = .ok (.iastore, 1) := by decide +kernel
theorem dX1_letOut_165 : decode cX1_letOut 165 = .ok (.invokestatic 22, 3) := by decide +kernel
theorem dX1_letOut_168 : decode cX1_letOut 168 = .ok (.astore_n 2, 1) := by decide +kernel
theorem dX1_letOut_169 : decode cX1_letOut 169 = .ok (.iinc 5 1, 3) := by decide +kernel
theorem dX1_letOut_172 : decode cX1_letOut 172 = .ok (.goto (-103), 3) := by decide +kernel
theorem dX1_letOut_175 : decode cX1_letOut 175 = .ok (.aload_n 0, 1) := by decide +kernel
theorem dX1_letOut_176 : decode cX1_letOut 176 = .ok (.aload_n 2, 1) := by decide +kernel
theorem dX1_letOut_177 : decode cX1_letOut 177 = .ok (.putfield 19, 3) := by decide +kernel
theorem dX1_letOut_180 : decode cX1_letOut 180 = .ok (.iload_n 1, 1) := by decide +kernel
theorem dX1_letOut_181 : decode cX1_letOut 181 = .ok (.ireturn, 1) := by decide +kernel
set_option maxRecDepth 20000 in
theorem ggX1_turnOver_X1_without : GoodIn wsX1_turnOver wsX1_without := goodIn_r _ [8, 2, 9, 10, 7, 11] (by decide +kernel) (by decide +kernel)
set_option maxRecDepth 20000 in
theorem gX1_turnOver_X1_without : GoodIn wsX1_turnOver (va_wsS RX1 61 yX1_without wsX1_without) := goodIn_app (goodIn_of _ (by decide +kernel)) ggX1_turnOver_X1_without
set_option maxRecDepth 20000 in
theorem ggX1_turnOver_X1_with : GoodIn wsX1_turnOver wsX1_with := goodIn_r _ [11, 2] (by decide +kernel) (by decide +kernel)
set_option maxRecDepth 20000 in
theorem gX1_turnOver_X1_with : GoodIn wsX1_turnOver (va_wsS RX1 22 yX1_with wsX1_with) := goodIn_app (goodIn_of _ (by decide +kernel)) ggX1_turnOver_X1_with
theorem dX1_turnOver_0 : decode cX1_turnOver 0 = .ok (.aload_n 0, 1) := by decide +kernel
theorem dX1_turnOver_1 : decode cX1_turnOver 1 = .ok (.getfield 15, 3) := by decide +kernel
theorem dX1_turnOver_4 : decode cX1_turnOver 4 = .ok (.iconst 0, 1) := by decide +kernel
theorem dX1_turnOver_5 : decode cX1_turnOver 5 = .ok (.aaload, 1) := by decide +kernel
theorem dX1_turnOver_6 : decode cX1_turnOver 6 = .ok (.astore_n 1, 1) := by decide +kernel
theorem dX1_turnOver_7 : decode cX1_turnOver 7 = .ok (.aload_n 0, 1) := by decide +kernel
theorem dX1_turnOver_8 : decode cX1_turnOver 8 = .ok (.aload_n 0, 1) := by decide +kernel
theorem dX1_turnOver_9 : decode cX1_turnOver 9 = .ok (.getfield 15, 3) := by decide +kernel
theorem dX1_turnOver_12 : decode cX1_turnOver 12 = .ok (.iconst 0, 1) := by decide +kernel
theorem dX1_turnOver_13 : decode cX1_turnOver 13 = .ok (.invokestatic 61, 3) := by decide +kernel
theorem dX1_turnOver_16 : decode cX1_turnOver 16 = .ok (.aload_n 1, 1) := by decide +kernel
theorem dX1_turnOver_17 : decode cX1_turnOver 17 = .ok (.invokestatic 22, 3) := by decide +kernel
theorem dX1_turnOver_20 : decode cX1_turnOver 20 = .ok (.putfield 15, 3) := by decide +kernel
theorem dX1_turnOver_23 : decode cX1_turnOver 23 = .ok (.iconst 0, 1) := by decide +kernel
theorem dX1_turnOver_24 : decode cX1_turnOver 24 = .ok (.anewarray 13, 3) := by decide +kernel
theorem dX1_turnOver_27 : decode cX1_turnOver 27 = .ok (.astore_n 2, 1) := by decide +kernel
theorem dX1_turnOver_28 : decode cX1_turnOver 28 = .ok (.aload_n 0, 1) := by decide +kernel
theorem dX1_turnOver_29 : decode cX1_turnOver 29 = .ok (.getfield 19, 3) := by decide +kernel
theorem dX1_turnOver_32 : decode cX1_turnOver 32 = .ok (.astore_n 3, 1) := by decide +kernel
theorem dX1_turnOver_33 : decode cX1_turnOver 33 = .ok (.aload_n 3, 1) := by decide +kernel
theorem dX1_turnOver_34 : decode cX1_turnOver 34 = .ok (.arraylength, 1) := by decide +kernel
theorem dX1_turnOver_35 : decode cX1_turnOver 35 = .ok (.istore 4, 2) := by decide +kernel
theorem dX1_turnOver_37 : decode cX1_turnOver 37 = .ok (.iconst 0, 1) := by decide +kernel
theorem dX1_turnOver_38 : decode cX1_turnOver 38 = .ok (.istore 5, 2) := by decide +kernel
theorem dX1_turnOver_40 : decode cX1_turnOver 40 = .ok (.iload 5, 2) := by decide +kernel
theorem dX1_turnOver_42 : decode cX1_turnOver 42 = .ok (.iload 4, 2) := by decide +kernel
theorem dX1_turnOver_44 : decode cX1_turnOver 44 = .ok (.if_icmp .ge 62, 3) := by decide +kernel
theorem dX1_turnOver_47 : decode cX1_turnOver 47 = .ok (.aload_n 3, 1) := by decide +kernel
theorem dX1_turnOver_48 : decode cX1_turnOver 48 = .ok (.iload 5, 2) := by decide +kernel
theorem dX1_turnOver_50 : decode cX1_turnOver 50 = .ok (.aaload, 1) := by decide +kernel
theorem dX1_turnOver_51 : decode cX1_turnOver 51 = .ok (.astore 6, 2) := by decide +kernel
theorem dX1_turnOver_53 : decode cX1_turnOver 53 = .ok (.aload 6, 2) := by decide +kernel
theorem dX1_turnOver_55 : decode cX1_turnOver 55 = .ok (.iconst 0, 1) := by decide +kernel
theorem dX1_turnOver_56 : decode cX1_turnOver 56 = .ok (.iaload, 1) := by decide +kernel
theorem dX1_turnOver_57 : decode cX1_turnOver 57 = .ok (.ifCond .le 43, 3) := by decide +kernel
theorem dX1_turnOver_60 : decode cX1_turnOver 60 = .ok (.aload_n 2, 1) := by decide +kernel
theorem dX1_turnOver_61 : decode cX1_turnOver 61 = .ok (.iconst 4, 1) := by decide +kernel
theorem dX1_turnOver_62 : decode cX1_turnOver 62 = .ok (.newarray .int, 2) := by decide +kernel
theorem dX1_turnOver_64 : decode cX1_turnOver 64 = .ok (.dup, 1) := by decide +kernel
theorem dX1_turnOver_65 : decode cX1_turnOver 65 = .ok (.iconst 0, 1) := by decide +kernel
theorem dX1_turnOver_66 : decode cX1_turnOver 66 = .ok (.aload 6, 2) := by decide +kernel
theorem dX1_turnOver_68 : decode cX1_turnOver 68 = .ok (.iconst 0, 1) := by decide +kernel
theorem dX1_turnOver_69 : decode cX1_turnOver 69 = .ok (.iaload, 1) := by decide +kernel
theorem dX1_turnOver_70 : decode cX1_turnOver 70 = .ok (.iconst 1, 1) := by decide +kernel
theorem dX1_turnOver_71 : decode cX1_turnOver 71 = .ok (.isub, 1) := by decide +kernel
theorem dX1_turnOver_72 : decode cX1_turnOver 72 = .ok (.iastore, 1) := by decide +kernel
theorem dX1_turnOver_73 : decode cX1_turnOver 73 = .ok (.dup, 1) := by decide +kernel
theorem dX1_turnOver_74 : decode cX1_turnOver 74 = .ok (.iconst 1, 1) := by decide +kernel
theorem dX1_turnOver_75 : decode cX1_turnOver 75 = .ok (.aload 6, 2) := by decide +kernel
theorem dX1_turnOver_77 : decode cX1_turnOver 77 = .ok (.iconst 1, 1) := by decide +kernel
theorem dX1_turnOver_78 : decode cX1_turnOver 78 = .ok (.iaload, 1) := by decide +kernel
theorem dX1_turnOver_79 : decode cX1_turnOver 79 = .ok (.iconst 1, 1) := by decide +kernel
theorem dX1_turnOver_80 : decode cX1_turnOver 80 = .ok (.isub, 1) := by decide +kernel
theorem dX1_turnOver_81 : decode cX1_turnOver 81 = .ok (.iastore, 1) := by decide +kernel
theorem dX1_turnOver_82 : decode cX1_turnOver 82 = .ok (.dup, 1) := by decide +kernel
theorem dX1_turnOver_83 : decode cX1_turnOver 83 = .ok (.iconst 2, 1) := by decide +kernel
theorem dX1_turnOver_84 : decode cX1_turnOver 84 = .ok (.aload 6, 2) := by decide +kernel
theorem dX1_turnOver_86 : decode cX1_turnOver 86 = .ok (.iconst 2, 1) := by decide +kernel
theorem dX1_turnOver_87 : decode cX1_turnOver 87 = .ok (.iaload, 1) := by decide +kernel
theorem dX1_turnOver_88 : decode cX1_turnOver 88 = .ok (.iastore, 1) := by decide +kernel
theorem dX1_turnOver_89 : decode cX1_turnOver 89 = .ok (.dup, 1) := by decide +kernel
theorem dX1_turnOver_90 : decode cX1_turnOver 90 = .ok (.iconst 3, 1) := by decide +kernel
theorem dX1_turnOver_91 : decode cX1_turnOver 91 = .ok (.aload 6, 2) := by decide +kernel
theorem dX1_turnOver_93 : decode cX1_turnOver 93 = .ok (.iconst 3, 1) := by decide +kernel
theorem dX1_turnOver_94 : decode cX1_turnOver 94 = .ok (.iaload, 1) := by decide +kernel
theorem dX1_turnOver_95 : decode cX1_turnOver 95 = .ok (.iastore, 1) := by decide +kernel
theorem dX1_turnOver_96 : decode cX1_turnOver 96 = .ok (.invokestatic 22, 3) := by decide +kernel
theorem dX1_turnOver_99 : decode cX1_turnOver 99 = .ok (.astore_n 2, 1) := by decide +kernel
theorem dX1_turnOver_100 : decode cX1_turnOver 100 = .ok (.iinc 5 1, 3) := by decide +kernel
theorem dX1_turnOver_103 : decode cX1_turnOver 103 = .ok (.goto (-63), 3) := by decide +kernel
theorem dX1_turnOver_106 : decode cX1_turnOver 106 = .ok (.aload_n 0, 1) := by decide +kernel
theorem dX1_turnOver_107 : decode cX1_turnOver 107 = .ok (.getfield 19, 3) := by decide +kernel
theorem dX1_turnOver_110 : decode cX1_turnOver 110 = .ok (.arraylength, 1) := by decide +kernel
theorem dX1_turnOver_111 : decode cX1_turnOver 111 = .ok (.aload_n 2, 1) := by decide +kernel
theorem dX1_turnOver_112 : decode cX1_turnOver 112 = .ok (.arraylength, 1) := by decide +kernel
theorem dX1_turnOver_113 : decode cX1_turnOver 113 = .ok (.isub, 1) := by decide +kernel
theorem dX1_turnOver_114 : decode cX1_turnOver 114 = .ok (.istore_n 3, 1) := by decide +kernel
theorem dX1_turnOver_115 : decode cX1_turnOver 115 = .ok (.aload_n 0, 1) := by decide +kernel
theorem dX1_turnOver_116 : decode cX1_turnOver 116 = .ok (.aload_n 2, 1) := by decide +kernel
theorem dX1_turnOver_117 : decode cX1_turnOver 117 = .ok (.putfield 19, 3) := by decide +kernel
theorem dX1_turnOver_120 : decode cX1_turnOver 120 = .ok (.iload_n 3, 1) := by decide +kernel
theorem dX1_turnOver_121 : decode cX1_turnOver 121 = .ok (.ireturn, 1) := by decide +kernel
theorem dX1_pass_0 : decode cX1_pass 0 = .ok (.aload_n 0, 1) := by decide +kernel
theorem dX1_pass_1 : decode cX1_pass 1 = .ok (.getfield 15, 3) := by decide +kernel
theorem dX1_pass_4 : decode cX1_pass 4 = .ok (.arraylength, 1) := by decide +kernel
theorem dX1_pass_5 : decode cX1_pass 5 = .ok (.istore_n 1, 1) := by decide +kernel
theorem dX1_pass_6 : decode cX1_pass 6 = .ok (.iload_n 1, 1) := by decide +kernel
theorem dX1_pass_7 : decode cX1_pass 7 = .ok (.newarray .int, 2) := by decide +kernel
theorem dX1_pass_9 : decode cX1_pass 9 = .ok (.astore_n 2, 1) := by decide +kernel
theorem dX1_pass_10 : decode cX1_pass 10 = .ok (.iconst 0, 1) := by decide +kernel
theorem dX1_pass_11 : decode cX1_pass 11 = .ok (.istore_n 3, 1) := by decide +kernel
theorem dX1_pass_12 : decode cX1_pass 12 = .ok (.iconst 0, 1) := by decide +kernel
theorem dX1_pass_13 : decode cX1_pass 13 = .ok (.istore 4, 2) := by decide +kernel
theorem dX1_pass_15 : decode cX1_pass 15 = .ok (.iload 4, 2) := by decide +kernel
theorem dX1_pass_17 : decode cX1_pass 17 = .ok (.iload_n 1, 1) := by decide +kernel
theorem dX1_pass_18 : decode cX1_pass 18 = .ok (.if_icmp .ge 189, 3) := by decide +kernel
theorem dX1_pass_21 : decode cX1_pass 21 = .ok (.aload_n 0, 1) := by decide +kernel
theorem dX1_pass_22 : decode cX1_pass 22 = .ok (.getfield 15, 3) := by decide +kernel
theorem dX1_pass_25 : decode cX1_pass 25 = .ok (.iload 4, 2) := by decide +kernel
theorem dX1_pass_27 : decode cX1_pass 27 = .ok (.aaload, 1) := by decide +kernel
theorem dX1_pass_28 : decode cX1_pass 28 = .ok (.iconst 1, 1) := by decide +kernel
theorem dX1_pass_29 : decode cX1_pass 29 = .ok (.iaload, 1) := by decide +kernel
theorem dX1_pass_30 : decode cX1_pass 30 = .ok (.istore 5, 2) := by decide +kernel
theorem dX1_pass_32 : decode cX1_pass 32 = .ok (.iload 4, 2) := by decide +kernel
theorem dX1_pass_34 : decode cX1_pass 34 = .ok (.ifCond .le 25, 3) := by decide +kernel
theorem dX1_pass_37 : decode cX1_pass 37 = .ok (.aload_n 0, 1) := by decide +kernel
theorem dX1_pass_38 : decode cX1_pass 38 = .ok (.getfield 15, 3) := by decide +kernel
theorem dX1_pass_41 : decode cX1_pass 41 = .ok (.iload 4, 2) := by decide +kernel
theorem dX1_pass_43 : decode cX1_pass 43 = .ok (.iconst 1, 1) := by decide +kernel
theorem dX1_pass_44 : decode cX1_pass 44 = .ok (.isub, 1) := by decide +kernel
theorem dX1_pass_45 : decode cX1_pass 45 = .ok (.aaload, 1) := by decide +kernel
theorem dX1_pass_46 : decode cX1_pass 46 = .ok (.iconst 1, 1) := by decide +kernel
theorem dX1_pass_47 : decode cX1_pass 47 = .ok (.iaload, 1) := by decide +kernel
theorem dX1_pass_48 : decode cX1_pass 48 = .ok (.iload 5, 2) := by decide +kernel
theorem dX1_pass_50 : decode cX1_pass 50 = .ok (.iconst 1, 1) := by decide +kernel
theorem dX1_pass_51 : decode cX1_pass 51 = .ok (.iadd, 1) := by decide +kernel
theorem dX1_pass_52 : decode cX1_pass 52 = .ok (.if_icmp .le 7, 3) := by decide +kernel
theorem dX1_pass_55 : decode cX1_pass 55 = .ok (.iconst 1, 1) := by decide +kernel
theorem dX1_pass_56 : decode cX1_pass 56 = .ok (.goto 4, 3) := by decide +kernel
theorem dX1_pass_59 : decode cX1_pass 59 = .ok (.iconst 0, 1) := by decide +kernel
theorem dX1_pass_60 : decode cX1_pass 60 = .ok (.iload 4, 2) := by decide +kernel
theorem dX1_pass_62 : decode cX1_pass 62 = .ok (.iconst 1, 1) := by decide +kernel
theorem dX1_pass_63 : decode cX1_pass 63 = .ok (.iadd, 1) := by decide +kernel
theorem dX1_pass_64 : decode cX1_pass 64 = .ok (.iload_n 1, 1) := by decide +kernel
theorem dX1_pass_65 : decode cX1_pass 65 = .ok (.if_icmp .ge 25, 3) := by decide +kernel
theorem dX1_pass_68 : decode cX1_pass 68 = .ok (.aload_n 0, 1) := by decide +kernel
theorem dX1_pass_69 : decode cX1_pass 69 = .ok (.getfield 15, 3) := by decide +kernel
theorem dX1_pass_72 : decode cX1_pass 72 = .ok (.iload 4, 2) := by decide +kernel
theorem dX1_pass_74 : decode cX1_pass 74 = .ok (.iconst 1, 1) := by decide +kernel
theorem dX1_pass_75 : decode cX1_pass 75 = .ok (.iadd, 1) := by decide +kernel
theorem dX1_pass_76 : decode cX1_pass 76 = .ok (.aaload, 1) := by decide +kernel
theorem dX1_pass_77 : decode cX1_pass 77 = .ok (.iconst 1, 1) := by decide +kernel
theorem dX1_pass_78 : decode cX1_pass 78 = .ok (.iaload, 1) := by decide +kernel
theorem dX1_pass_79 : decode cX1_pass 79 = .ok (.iload 5, 2) := by decide +kernel
theorem dX1_pass_81 : decode cX1_pass 81 = .ok (.iconst 1, 1) := by decide +kernel
theorem dX1_pass_82 : decode cX1_pass 82 = .ok (.iadd, 1) := by decide +kernel
theorem dX1_pass_83 : decode cX1_pass 83 = .ok (.if_icmp .le 7, 3) := by decide +kernel
theorem dX1_pass_86 : decode cX1_pass 86 = .ok (.iconst 1, 1) := by decide +kernel
theorem dX1_pass_87 : decode cX1_pass 87 = .ok (.goto 4, 3) := by decide +kernel
theorem dX1_pass_90 : decode cX1_pass 90 = .ok (.iconst 0, 1) := by decide +kernel
theorem dX1_pass_91 : decode cX1_pass 91 = .ok (.iadd, 1) := by decide +kernel
theorem dX1_pass_92 : decode cX1_pass 92 = .ok (.istore 6, 2) := by decide +kernel
theorem dX1_pass_94 : decode cX1_pass 94 = .ok (.iload 4, 2) := by decide +kernel
theorem dX1_pass_96 : decode cX1_pass 96 = .ok (.ifCond .le 25, 3) := by decide +kernel
theorem dX1_pass_99 : decode cX1_pass 99 = .ok (.aload_n 0, 1) := by decide +kernel
theorem dX1_pass_100 : decode cX1_pass 100 = .ok (.getfield 15, 3) := by decide +kernel
theorem dX1_pass_103 : decode cX1_pass 103 = .ok (.iload 4, 2) := by decide +kernel
theorem dX1_pass_105 : decode cX1_pass 105 = .ok (.iconst 1, 1) := by decide +kernel
theorem dX1_pass_106 : decode cX1_pass 106 = .ok (.isub, 1) := by decide +kernel
theorem dX1_pass_107 : decode cX1_pass 107 = .ok (.aaload, 1) := by decide +kernel
theorem dX1_pass_108 : decode cX1_pass 108 = .ok (.iconst 1, 1) := by decide +kernel
theorem dX1_pass_109 : decode cX1_pass 109 = .ok (.iaload, 1) := by decide +kernel
theorem dX1_pass_110 : decode cX1_pass 110 = .ok (.iload 5, 2) := by decide +kernel
theorem dX1_pass_112 : decode cX1_pass 112 = .ok (.iconst 1, 1) := by decide +kernel
theorem dX1_pass_113 : decode cX1_pass 113 = .ok (.isub, 1) := by decide +kernel
theorem dX1_pass_114 : decode cX1_pass 114 = .ok (.if_icmp .ge 7, 3) := by decide +kernel
theorem dX1_pass_117 : decode cX1_pass 117 = .ok (.iconst 1, 1) := by decide +kernel
theorem dX1_pass_118 : decode cX1_pass 118 = .ok (.goto 4, 3) := by decide +kernel
theorem dX1_pass_121 : decode cX1_pass 121 = .ok (.iconst 0, 1) := by decide +kernel
theorem dX1_pass_122 : decode cX1_pass 122 = .ok (.iload 4, 2) := by decide +kernel
theorem dX1_pass_124 : decode cX1_pass 124 = .ok (.iconst 1, 1) := by decide +kernel
theorem dX1_pass_125 : decode cX1_pass 125 = .ok (.iadd, 1) := by decide +kernel
theorem dX1_pass_126 : decode cX1_pass 126 = .ok (.iload_n 1, 1) := by decide +kernel
theorem dX1_pass_127 : decode cX1_pass 127 = .ok (.if_icmp .ge 25, 3) := by decide +kernel
theorem dX1_pass_130 : decode cX1_pass 130 = .ok (.aload_n 0, 1) := by decide +kernel
theorem dX1_pass_131 : decode cX1_pass 131 = .ok (.getfield 15, 3) := by decide +kernel
theorem dX1_pass_134 : decode cX1_pass 134 = .ok (.iload 4, 2) := by decide +kernel
theorem dX1_pass_136 : decode cX1_pass 136 = .ok (.iconst 1, 1) := by decide +kernel
theorem dX1_pass_137 : decode cX1_pass 137 = .ok (.iadd, 1) := by decide +kernel
theorem dX1_pass_138 : decode cX1_pass 138 = .ok (.aaload, 1) := by decide +kernel
theorem dX1_pass_139 : decode cX1_pass 139 = .ok (.iconst 1, 1) := by decide +kernel
theorem dX1_pass_140 : decode cX1_pass 140 = .ok (.iaload, 1) := by decide +kernel
theorem dX1_pass_141 : decode cX1_pass 141 = .ok (.iload 5, 2) := by decide +kernel
theorem dX1_pass_143 : decode cX1_pass 143 = .ok (.iconst 1, 1) := by decide +kernel
theorem dX1_pass_144 : decode cX1_pass 144 = .ok (.isub, 1) := by decide +kernel
theorem dX1_pass_145 : decode cX1_pass 145 = .ok (.if_icmp .ge 7, 3) := by decide +kernel
theorem dX1_pass_148 : decode cX1_pass 148 = .ok (.iconst 1, 1) := by decide +kernel
theorem dX1_pass_149 : decode cX1_pass 149 = .ok (.goto 4, 3) := by decide +kernel
theorem dX1_pass_152 : decode cX1_pass 152 = .ok (.iconst 0, 1) := by decide +kernel
theorem dX1_pass_153 : decode cX1_pass 153 = .ok (.iadd, 1) := by decide +kernel
theorem dX1_pass_154 : decode cX1_pass 154 = .ok (.istore 7, 2) := by decide +kernel
theorem dX1_pass_156 : decode cX1_pass 156 = .ok (.aload_n 2, 1) := by decide +kernel
theorem dX1_pass_157 : decode cX1_pass 157 = .ok (.iload 4, 2) := by decide +kernel
theorem dX1_pass_159 : decode cX1_pass 159 = .ok (.iload 5, 2) := by decide +kernel
theorem dX1_pass_161 : decode cX1_pass 161 = .ok (.iload 6, 2) := by decide +kernel
theorem dX1_pass_163 : decode cX1_pass 163 = .ok (.iload 7, 2) := by decide +kernel
theorem dX1_pass_165 : decode cX1_pass 165 = .ok (.if_icmp .le 7, 3) := by decide +kernel
theorem dX1_pass_168 : decode cX1_pass 168 = .ok (.iconst 1, 1) := by decide +kernel
theorem dX1_pass_169 : decode cX1_pass 169 = .ok (.goto 15, 3) := by decide +kernel
theorem dX1_pass_172 : decode cX1_pass 172 = .ok (.iload 6, 2) := by decide +kernel
theorem dX1_pass_174 : decode cX1_pass 174 = .ok (.iload 7, 2) := by decide +kernel
theorem dX1_pass_176 : decode cX1_pass 176 = .ok (.if_icmp .ge 7, 3) := by decide +kernel
theorem dX1_pass_179 : decode cX1_pass 179 = .ok (.iconst (-1), 1) := by decide +kernel
theorem dX1_pass_180 : decode cX1_pass 180 = .ok (.goto 4, 3) := by decide +kernel
theorem dX1_pass_183 : decode cX1_pass 183 = .ok (.iconst 0, 1) := by decide +kernel
theorem dX1_pass_184 : decode cX1_pass 184 = .ok (.iadd, 1) := by decide +kernel
theorem dX1_pass_185 : decode cX1_pass 185 = .ok (.iastore, 1) := by decide +kernel
theorem dX1_pass_186 : decode cX1_pass 186 = .ok (.iload_n 3, 1) := by decide +kernel
theorem dX1_pass_187 : decode cX1_pass 187 = .ok (.iload 6, 2) := by decide +kernel
theorem dX1_pass_189 : decode cX1_pass 189 = .ok (.iload 7, 2) := by decide +kernel
theorem dX1_pass_191 : decode cX1_pass 191 = .ok (.if_icmp .ne 7, 3) := by decide +kernel
theorem dX1_pass_194 : decode cX1_pass 194 = .ok (.iconst 0, 1) := by decide +kernel
theorem dX1_pass_195 : decode cX1_pass 195 = .ok (.goto 4, 3) := by decide +kernel
theorem dX1_pass_198 : decode cX1_pass 198 = .ok (.iconst 1, 1) := by decide +kernel
theorem dX1_pass_199 : decode cX1_pass 199 = .ok (.iadd, 1) := by decide +kernel
theorem dX1_pass_200 : decode cX1_pass 200 = .ok (.istore_n 3, 1) := by decide +kernel
theorem dX1_pass_201 : decode cX1_pass 201 = .ok (.iinc 4 1, 3) := by decide +kernel
theorem dX1_pass_204 : decode cX1_pass 204 = .ok (.goto (-189), 3) := by decide +kernel
theorem dX1_pass_207 : decode cX1_pass 207 = .ok (.iconst 0, 1) := by decide +kernel
theorem dX1_pass_208 : decode cX1_pass 208 = .ok (.istore 4, 2) := by decide +kernel
theorem dX1_pass_210 : decode cX1_pass 210 = .ok (.iload 4, 2) := by decide +kernel
theorem dX1_pass_212 : decode cX1_pass 212 = .ok (.iload_n 1, 1) := by decide +kernel
theorem dX1_pass_213 : decode cX1_pass 213 = .ok (.if_icmp .ge 22, 3) := by decide +kernel
theorem dX1_pass_216 : decode cX1_pass 216 = .ok (.aload_n 0, 1) := by decide +kernel
theorem dX1_pass_217 : decode cX1_pass 217 = .ok (.getfield 15, 3) := by decide +kernel
theorem dX1_pass_220 : decode cX1_pass 220 = .ok (.iload 4, 2) := by decide +kernel
theorem dX1_pass_222 : decode cX1_pass 222 = .ok (.aaload, 1) := by decide +kernel
theorem dX1_pass_223 : decode cX1_pass 223 = .ok (.iconst 1, 1) := by decide +kernel
theorem dX1_pass_224 : decode cX1_pass 224 = .ok (.aload_n 2, 1) := by decide +kernel
theorem dX1_pass_225 : decode cX1_pass 225 = .ok (.iload 4, 2) := by decide +kernel
theorem dX1_pass_227 : decode cX1_pass 227 = .ok (.iaload, 1) := by decide +kernel
theorem dX1_pass_228 : decode cX1_pass 228 = .ok (.iastore, 1) := by decide +kernel
theorem dX1_pass_229 : decode cX1_pass 229 = .ok (.iinc 4 1, 3) := by decide +kernel
theorem dX1_pass_232 : decode cX1_pass 232 = .ok (.goto (-22), 3) := by decide +kernel
theorem dX1_pass_235 : decode cX1_pass 235 = .ok (.aload_n 0, 1) := by decide +kernel
theorem dX1_pass_236 : decode cX1_pass 236 = .ok (.getfield 19, 3) := by decide +kernel
theorem dX1_pass_239 : decode cX1_pass 239 = .ok (.astore 4, 2) := by decide +kernel
theorem dX1_pass_241 : decode cX1_pass 241 = .ok (.aload 4, 2) := by decide +kernel
theorem dX1_pass_243 : decode cX1_pass 243 = .ok (.arraylength, 1) := by decide +kernel
theorem dX1_pass_244 : decode cX1_pass 244 = .ok (.istore 5, 2) := by decide +kernel
theorem dX1_pass_246 : decode cX1_pass 246 = .ok (.iconst 0, 1) := by decide +kernel
theorem dX1_pass_247 : decode cX1_pass 247 = .ok (.istore 6, 2) := by decide +kernel
theorem dX1_pass_249 : decode cX1_pass 249 = .ok (.iload 6, 2) := by decide +kernel
theorem dX1_pass_251 : decode cX1_pass 251 = .ok (.iload 5, 2) := by decide +kernel
theorem dX1_pass_253 : decode cX1_pass 253 = .ok (.if_icmp .ge 34, 3) := by decide +kernel
theorem dX1_pass_256 : decode cX1_pass 256 = .ok (.aload 4, 2) := by decide +kernel
theorem dX1_pass_258 : decode cX1_pass 258 = .ok (.iload 6, 2) := by decide +kernel
theorem dX1_pass_260 : decode cX1_pass 260 = .ok (.aaload, 1) := by decide +kernel
theorem dX1_pass_261 : decode cX1_pass 261 = .ok (.astore 7, 2) := by decide +kernel
theorem dX1_pass_263 : decode cX1_pass 263 = .ok (.aload 7, 2) := by decide +kernel
theorem dX1_pass_265 : decode cX1_pass 265 = .ok (.iconst 3, 1) := by decide +kernel
theorem dX1_pass_266 : decode cX1_pass 266 = .ok (.dup2, 1) := by decide +kernel
theorem dX1_pass_267 : decode cX1_pass 267 = .ok (.iaload, 1) := by decide +kernel
theorem dX1_pass_268 : decode cX1_pass 268 = .ok (.aload 7, 2) := by decide +kernel
theorem dX1_pass_270 : decode cX1_pass 270 = .ok (.iconst 1, 1) := by decide +kernel
theorem dX1_pass_271 : decode cX1_pass 271 = .ok (.iaload, 1) := by decide +kernel
theorem dX1_pass_272 : decode cX1_pass 272 = .ok (.aload 7, 2) := by decide +kernel
theorem dX1_pass_274 : decode cX1_pass 274 = .ok (.iconst 0, 1) := by decide +kernel
theorem dX1_pass_275 : decode cX1_pass 275 = .ok (.iaload, 1) := by decide +kernel
theorem dX1_pass_276 : decode cX1_pass 276 = .ok (.isub, 1) := by decide +kernel
theorem dX1_pass_277 : decode cX1_pass 277 = .ok (.iconst 1, 1) := by decide +kernel
theorem dX1_pass_278 : decode cX1_pass 278 = .ok (.iadd, 1) := by decide +kernel
theorem dX1_pass_279 : decode cX1_pass 279 = .ok (.iadd, 1) := by decide +kernel
theorem dX1_pass_280 : decode cX1_pass 280 = .ok (.iastore, 1) := by decide +kernel
theorem dX1_pass_281 : decode cX1_pass 281 = .ok (.iinc 6 1, 3) := by decide +kernel
theorem dX1_pass_284 : decode cX1_pass 284 = .ok (.goto (-35), 3) := by decide +kernel
theorem dX1_pass_287 : decode cX1_pass 287 = .ok (.aload_n 0, 1) := by decide +kernel
theorem dX1_pass_288 : decode cX1_pass 288 = .ok (.dup, 1) := by decide +kernel
theorem dX1_pass_289 : decode cX1_pass 289 = .ok (.getfield 27, 3) := by decide +kernel
theorem dX1_pass_292 : decode cX1_pass 292 = .ok (.iconst 1, 1) := by decide +kernel
theorem dX1_pass_293 : decode cX1_pass 293 = .ok (.iadd, 1) := by decide +kernel
theorem dX1_pass_294 : decode cX1_pass 294 = .ok (.putfield 27, 3) := by decide +kernel
theorem dX1_pass_297 : decode cX1_pass 297 = .ok (.iload_n 3, 1) := by decide +kernel
theorem dX1_pass_298 : decode cX1_pass 298 = .ok (.ireturn, 1) := by decide +kernel
set_option maxRecDepth 20000 in
theorem ggX1_isSame_X0_layers : GoodIn wsX1_isSame wsX0_layers := goodIn_r _ [12, 13, 200, 201, 202, 203, 204, 205, 206, 207, 208, 209, 210, 211, 212, 213, 214] (by decide +kernel) (by decide +kernel)
set_option maxRecDepth 20000 in
theorem gX1_isSame_X0_layers : GoodIn wsX1_isSame (wsV RX1 65 RX0 yX0_layers wsX0_layers) := goodIn_app (goodIn_of _ (by decide +kernel)) ggX1_isSame_X0_layers
set_option maxRecDepth 20000 in
theorem ggX1_isSame_X0_samples : GoodIn wsX1_isSame wsX0_samples := goodIn_r _ [17, 18, 200, 201, 202, 203, 204, 205, 206, 207, 208, 209, 210, 211, 212, 213, 214] (by decide +kernel) (by decide +kernel)
set_option maxRecDepth 20000 in
theorem gX1_isSame_X0_samples : GoodIn wsX1_isSame (wsV RX1 69 RX0 yX0_samples wsX0_samples) := goodIn_app (goodIn_of _ (by decide +kernel)) ggX1_isSame_X0_samples
set_option maxRecDepth 20000 in
theorem ggX1_isSame_X0_day : GoodIn wsX1_isSame wsX0_day := goodIn_r _ [22, 23, 200, 201, 202, 203, 204, 205, 206, 207, 208, 209, 210, 211, 212, 213, 214] (by decide +kernel) (by decide +kernel)
set_option maxRecDepth 20000 in
theorem gX1_isSame_X0_day : GoodIn wsX1_isSame (wsV RX1 71 RX0 yX0_day wsX0_day) := goodIn_app (goodIn_of _ (by decide +kernel)) ggX1_isSame_X0_day
set_option maxRecDepth 20000 in
theorem ggX1_isSame_X0_limit : GoodIn wsX1_isSame wsX0_limit := goodIn_r _ [27, 28, 200, 201, 202, 203, 204, 205, 206, 207, 208, 209, 210, 211, 212, 213, 214] (by decide +kernel) (by decide +kernel)
set_option maxRecDepth 20000 in
theorem gX1_isSame_X0_limit : GoodIn wsX1_isSame (wsV RX1 73 RX0 yX0_limit wsX0_limit) := goodIn_app (goodIn_of _ (by decide +kernel)) ggX1_isSame_X0_limit
set_option maxRecDepth 20000 in
theorem ggX1_isSame_X0_sold : GoodIn wsX1_isSame wsX0_sold := goodIn_r _ [32, 33, 200, 201, 202, 203, 204, 205, 206, 207, 208, 209, 210, 211, 212, 213, 214] (by decide +kernel) (by decide +kernel)
set_option maxRecDepth 20000 in
theorem gX1_isSame_X0_sold : GoodIn wsX1_isSame (wsV RX1 75 RX0 yX0_sold wsX0_sold) := goodIn_app (goodIn_of _ (by decide +kernel)) ggX1_isSame_X0_sold
set_option maxRecDepth 20000 in
theorem ggX1_isSame_X0_spoilt : GoodIn wsX1_isSame wsX0_spoilt := goodIn_r _ [37, 38, 200, 201, 202, 203, 204, 205, 206, 207, 208, 209, 210, 211, 212, 213, 214] (by decide +kernel) (by decide +kernel)
set_option maxRecDepth 20000 in
theorem gX1_isSame_X0_spoilt : GoodIn wsX1_isSame (wsV RX1 77 RX0 yX0_spoilt wsX0_spoilt) := goodIn_app (goodIn_of _ (by decide +kernel)) ggX1_isSame_X0_spoilt
set_option maxRecDepth 20000 in
theorem ggX1_isSame_X0_meanDampness : GoodIn wsX1_isSame wsX0_meanDampness := goodIn_r _ [42, 13, 43, 44, 45, 11, 46, 47, 200, 201, 202, 203, 204, 205, 206, 207, 208, 209, 210, 211, 212, 213, 214] (by decide +kernel) (by decide +kernel)
set_option maxRecDepth 20000 in
theorem gX1_isSame_X0_meanDampness : GoodIn wsX1_isSame (wsV RX1 79 RX0 yX0_meanDampness wsX0_meanDampness) := goodIn_app (goodIn_of _ (by decide +kernel)) ggX1_isSame_X0_meanDampness
set_option maxRecDepth 20000 in
theorem ggX1_isSame_X1_added : GoodIn wsX1_isSame wsX1_added := goodIn_r _ [52, 1, 194, 195, 196, 197, 198, 199] (by decide +kernel) (by decide +kernel)
set_option maxRecDepth 20000 in
theorem gX1_isSame_X1_added : GoodIn wsX1_isSame (wsV RX1 36 RX1 yX1_added wsX1_added) := goodIn_app (goodIn_of _ (by decide +kernel)) ggX1_isSame_X1_added
set_option maxRecDepth 20000 in
theorem ggX1_isSame_X1_least : GoodIn wsX1_isSame wsX1_least := goodIn_r _ [56, 57, 58, 59, 51, 60, 1, 7, 2, 194, 195, 196, 197, 198, 199] (by decide +kernel) (by decide +kernel)
set_option maxRecDepth 20000 in
theorem gX1_isSame_X1_least : GoodIn wsX1_isSame (wsV RX1 47 RX1 yX1_least wsX1_least) := goodIn_app (goodIn_of _ (by decide +kernel)) ggX1_isSame_X1_least
set_option maxRecDepth 20000 in
theorem ggX1_isSame_X1_greatest : GoodIn wsX1_isSame wsX1_greatest := goodIn_r _ [64, 57, 58, 59, 51, 60, 1, 7, 2, 194, 195, 196, 197, 198, 199] (by decide +kernel) (by decide +kernel)
set_option maxRecDepth 20000 in
theorem gX1_isSame_X1_greatest : GoodIn wsX1_isSame (wsV RX1 44 RX1 yX1_greatest wsX1_greatest) := goodIn_app (goodIn_of _ (by decide +kernel)) ggX1_isSame_X1_greatest
set_option maxRecDepth 20000 in
theorem ggX1_isSame_X0_kindOf : GoodIn wsX1_isSame wsX0_kindOf := goodIn_ca (goodIn_r _ [68, 69, 70, 71, 72, 11, 73, 74, 75, 13, 200, 201, 202, 203, 204, 205, 206, 207, 208, 209, 210, 211, 212, 213, 214] (by decide +kernel) (by decide +kernel)) (goodIn_sub (fun _ h => List.mem_cons_of_mem _ (List.mem_append_left _ (List.mem_append_right _ h))) (by decide +kernel))
set_option maxRecDepth 20000 in
theorem gX1_isSame_X0_kindOf : GoodIn wsX1_isSame (wsV RX1 83 RX0 yX0_kindOf wsX0_kindOf) := goodIn_app (goodIn_of _ (by decide +kernel)) ggX1_isSame_X0_kindOf
set_option maxRecDepth 20000 in
theorem ggX1_isSame_X0_dampnessOf : GoodIn wsX1_isSame wsX0_dampnessOf := goodIn_ca (goodIn_r _ [79, 47, 70, 71, 72, 11, 73, 74, 75, 13, 200, 201, 202, 203, 204, 205, 206, 207, 208, 209, 210, 211, 212, 213, 214] (by decide +kernel) (by decide +kernel)) (goodIn_sub (fun _ h => List.mem_cons_of_mem _ (List.mem_append_left _ (List.mem_append_right _ h))) (by decide +kernel))
set_option maxRecDepth 20000 in
theorem gX1_isSame_X0_dampnessOf : GoodIn wsX1_isSame (wsV RX1 87 RX0 yX0_dampnessOf wsX0_dampnessOf) := goodIn_app (goodIn_of _ (by decide +kernel)) ggX1_isSame_X0_dampnessOf
set_option maxRecDepth 20000 in
theorem ggX1_isSame_X0_leastOf : GoodIn wsX1_isSame wsX0_leastOf := goodIn_ca (goodIn_r _ [83, 70, 71, 72, 11, 73, 74, 75, 13, 84, 85, 86, 87, 18, 88, 89, 90, 91, 92, 93, 94, 95, 96, 97, 98, 99, 100, 101, 102, 103, 104, 105, 106, 107, 108, 200, 201, 202, 203, 204, 205, 206, 207, 208, 209, 210, 211, 212, 213, 214] (by decide +kernel) (by decide +kernel)) (goodIn_sub (fun _ h => List.mem_cons_of_mem _ (List.mem_append_left _ (List.mem_append_right _ h))) (by decide +kernel))
set_option maxRecDepth 20000 in
theorem gX1_isSame_X0_leastOf : GoodIn wsX1_isSame (wsV RX1 90 RX0 yX0_leastOf wsX0_leastOf) := goodIn_app (goodIn_of _ (by decide +kernel)) ggX1_isSame_X0_leastOf
set_option maxRecDepth 20000 in
theorem ggX1_isSame_X0_greatestOf : GoodIn wsX1_isSame wsX0_greatestOf := goodIn_ca (goodIn_r _ [112, 70, 71, 72, 11, 73, 74, 75, 13, 84, 85, 86, 87, 18, 88, 89, 90, 91, 92, 93, 94, 95, 96, 97, 98, 99, 100, 101, 102, 103, 104, 113, 114, 115, 116, 200, 201, 202, 203, 204, 205, 206, 207, 208, 209, 210, 211, 212, 213, 214] (by decide +kernel) (by decide +kernel)) (goodIn_sub (fun _ h => List.mem_cons_of_mem _ (List.mem_append_left _ (List.mem_append_right _ h))) (by decide +kernel))
set_option maxRecDepth 20000 in
theorem gX1_isSame_X0_greatestOf : GoodIn wsX1_isSame (wsV RX1 93 RX0 yX0_greatestOf wsX0_greatestOf) := goodIn_app (goodIn_of _ (by decide +kernel)) ggX1_isSame_X0_greatestOf
set_option maxRecDepth 20000 in
theorem ggX1_isSame_X0_isKnown : GoodIn wsX1_isSame wsX0_isKnown := goodIn_ca (goodIn_r _ [120, 70, 71, 72, 11, 73, 74, 75, 13, 84, 85, 86, 87, 18, 88, 89, 90, 91, 92, 93, 94, 95, 96, 97, 98, 99, 100, 101, 102, 103, 104, 105, 106, 107, 108, 113, 114, 115, 116, 200, 201, 202, 203, 204, 205, 206, 207, 208, 209, 210, 211, 212, 213, 214] (by decide +kernel) (by decide +kernel)) (goodIn_sub (fun _ h => List.mem_cons_of_mem _ (List.mem_append_left _ (List.mem_append_right _ h))) (by decide +kernel))
set_option maxRecDepth 20000 in
theorem gX1_isSame_X0_isKnown : GoodIn wsX1_isSame (wsV RX1 96 RX0 yX0_isKnown wsX0_isKnown) := goodIn_app (goodIn_of _ (by decide +kernel)) ggX1_isSame_X0_isKnown
set_option maxRecDepth 20000 in
theorem ggX1_isSame_X0_layersAheadOf : GoodIn wsX1_isSame wsX0_layersAheadOf := goodIn_ca (goodIn_r _ [124, 74, 75, 13, 69, 125, 126, 11, 127, 200, 201, 202, 203, 204, 205, 206, 207, 208, 209, 210, 211, 212, 213, 214] (by decide +kernel) (by decide +kernel)) (goodIn_sub (fun _ h => List.mem_cons_of_mem _ (List.mem_append_left _ (List.mem_append_right _ h))) (by decide +kernel))
set_option maxRecDepth 20000 in
theorem gX1_isSame_X0_layersAheadOf : GoodIn wsX1_isSame (wsV RX1 100 RX0 yX0_layersAheadOf wsX0_layersAheadOf) := goodIn_app (goodIn_of _ (by decide +kernel)) ggX1_isSame_X0_layersAheadOf
set_option maxRecDepth 20000 in
theorem ggX1_isSame_X0_lowestOf : GoodIn wsX1_isSame wsX0_lowestOf := goodIn_ca (goodIn_r _ [131, 88, 132, 133, 134, 11, 135, 74, 75, 18, 200, 201, 202, 203, 204, 205, 206, 207, 208, 209, 210, 211, 212, 213, 214] (by decide +kernel) (by decide +kernel)) (goodIn_sub (fun _ h => List.mem_cons_of_mem _ (List.mem_append_left _ (List.mem_append_right _ h))) (by decide +kernel))
set_option maxRecDepth 20000 in
theorem gX1_isSame_X0_lowestOf : GoodIn wsX1_isSame (wsV RX1 103 RX0 yX0_lowestOf wsX0_lowestOf) := goodIn_app (goodIn_of _ (by decide +kernel)) ggX1_isSame_X0_lowestOf
set_option maxRecDepth 20000 in
theorem ggX1_isSame_X0_highestOf : GoodIn wsX1_isSame wsX0_highestOf := goodIn_ca (goodIn_r _ [139, 89, 132, 133, 134, 11, 135, 74, 75, 18, 200, 201, 202, 203, 204, 205, 206, 207, 208, 209, 210, 211, 212, 213, 214] (by decide +kernel) (by decide +kernel)) (goodIn_sub (fun _ h => List.mem_cons_of_mem _ (List.mem_append_left _ (List.mem_append_right _ h))) (by decide +kernel))
set_option maxRecDepth 20000 in
theorem gX1_isSame_X0_highestOf : GoodIn wsX1_isSame (wsV RX1 106 RX0 yX0_highestOf wsX0_highestOf) := goodIn_app (goodIn_of _ (by decide +kernel)) ggX1_isSame_X0_highestOf
set_option maxRecDepth 20000 in
theorem ggX1_isSame_X0_sumOf : GoodIn wsX1_isSame wsX0_sumOf := goodIn_ca (goodIn_r _ [143, 90, 132, 133, 134, 11, 135, 74, 75, 18, 200, 201, 202, 203, 204, 205, 206, 207, 208, 209, 210, 211, 212, 213, 214] (by decide +kernel) (by decide +kernel)) (goodIn_sub (fun _ h => List.mem_cons_of_mem _ (List.mem_append_left _ (List.mem_append_right _ h))) (by decide +kernel))
set_option maxRecDepth 20000 in
theorem gX1_isSame_X0_sumOf : GoodIn wsX1_isSame (wsV RX1 109 RX0 yX0_sumOf wsX0_sumOf) := goodIn_app (goodIn_of _ (by decide +kernel)) ggX1_isSame_X0_sumOf
set_option maxRecDepth 20000 in
theorem ggX1_isSame_X0_doubtOf : GoodIn wsX1_isSame wsX0_doubtOf := goodIn_ca (goodIn_r _ [147, 91, 132, 133, 134, 11, 135, 74, 75, 18, 200, 201, 202, 203, 204, 205, 206, 207, 208, 209, 210, 211, 212, 213, 214] (by decide +kernel) (by decide +kernel)) (goodIn_sub (fun _ h => List.mem_cons_of_mem _ (List.mem_append_left _ (List.mem_append_right _ h))) (by decide +kernel))
set_option maxRecDepth 20000 in
theorem gX1_isSame_X0_doubtOf : GoodIn wsX1_isSame (wsV RX1 112 RX0 yX0_doubtOf wsX0_doubtOf) := goodIn_app (goodIn_of _ (by decide +kernel)) ggX1_isSame_X0_doubtOf
set_option maxRecDepth 20000 in
theorem ggX1_isSame_X0_dampLayers : GoodIn wsX1_isSame wsX0_dampLayers := goodIn_r _ [151, 13, 47, 152, 153, 154, 11, 155, 28, 200, 201, 202, 203, 204, 205, 206, 207, 208, 209, 210, 211, 212, 213, 214] (by decide +kernel) (by decide +kernel)
set_option maxRecDepth 20000 in
theorem gX1_isSame_X0_dampLayers : GoodIn wsX1_isSame (wsV RX1 115 RX0 yX0_dampLayers wsX0_dampLayers) := goodIn_app (goodIn_of _ (by decide +kernel)) ggX1_isSame_X0_dampLayers
set_option maxRecDepth 20000 in
theorem ggX1_isSame_X0_surelyDry : GoodIn wsX1_isSame wsX0_surelyDry := goodIn_r _ [159, 84, 85, 86, 11, 87, 18, 88, 89, 90, 91, 92, 93, 94, 95, 13, 96, 97, 98, 99, 100, 101, 102, 103, 104, 160, 161, 162, 163, 113, 114, 115, 116, 152, 153, 154, 155, 28, 200, 201, 202, 203, 204, 205, 206, 207, 208, 209, 210, 211, 212, 213, 214] (by decide +kernel) (by decide +kernel)
set_option maxRecDepth 20000 in
theorem gX1_isSame_X0_surelyDry : GoodIn wsX1_isSame (wsV RX1 118 RX0 yX0_surelyDry wsX0_surelyDry) := goodIn_app (goodIn_of _ (by decide +kernel)) ggX1_isSame_X0_surelyDry
set_option maxRecDepth 20000 in
theorem ggX1_isSame_X0_surelyDamp : GoodIn wsX1_isSame wsX0_surelyDamp := goodIn_r _ [167, 84, 85, 86, 11, 87, 18, 88, 89, 90, 91, 92, 93, 94, 95, 13, 96, 97, 98, 99, 100, 101, 102, 103, 104, 168, 169, 170, 171, 105, 106, 107, 108, 152, 153, 154, 155, 28, 200, 201, 202, 203, 204, 205, 206, 207, 208, 209, 210, 211, 212, 213, 214] (by decide +kernel) (by decide +kernel)
set_option maxRecDepth 20000 in
theorem gX1_isSame_X0_surelyDamp : GoodIn wsX1_isSame (wsV RX1 121 RX0 yX0_surelyDamp wsX0_surelyDamp) := goodIn_app (goodIn_of _ (by decide +kernel)) ggX1_isSame_X0_surelyDamp
set_option maxRecDepth 20000 in
theorem ggX1_isSame_X0_doubt : GoodIn wsX1_isSame wsX0_doubt := goodIn_r _ [175, 84, 85, 86, 11, 87, 18, 88, 89, 90, 91, 92, 93, 94, 95, 13, 96, 97, 98, 99, 100, 101, 102, 103, 104, 176, 177, 178, 179, 113, 114, 115, 116, 105, 106, 107, 108, 200, 201, 202, 203, 204, 205, 206, 207, 208, 209, 210, 211, 212, 213, 214] (by decide +kernel) (by decide +kernel)
set_option maxRecDepth 20000 in
theorem gX1_isSame_X0_doubt : GoodIn wsX1_isSame (wsV RX1 124 RX0 yX0_doubt wsX0_doubt) := goodIn_app (goodIn_of _ (by decide +kernel)) ggX1_isSame_X0_doubt
set_option maxRecDepth 20000 in
theorem ggX1_isSame_X1_doubt : GoodIn wsX1_isSame wsX1_doubt := goodIn_r _ [183, 1, 61, 62, 63, 51, 64, 57, 58, 59, 60, 7, 2, 53, 54, 55, 56, 194, 195, 196, 197, 198, 199] (by decide +kernel) (by decide +kernel)
set_option maxRecDepth 20000 in
theorem gX1_isSame_X1_doubt : GoodIn wsX1_isSame (wsV RX1 57 RX1 yX1_doubt wsX1_doubt) := goodIn_app (goodIn_of _ (by decide +kernel)) ggX1_isSame_X1_doubt
set_option maxRecDepth 20000 in
theorem ggX1_isSame_X0_worstLayer : GoodIn wsX1_isSame wsX0_worstLayer := goodIn_ca (goodIn_r _ [187, 13, 188, 189, 190, 11, 191, 192, 193, 84, 85, 86, 87, 18, 88, 89, 90, 91, 92, 93, 94, 95, 96, 97, 98, 99, 100, 101, 102, 103, 104, 113, 114, 115, 116, 200, 201, 202, 203, 204, 205, 206, 207, 208, 209, 210, 211, 212, 213, 214] (by decide +kernel) (by decide +kernel)) (goodIn_sub (fun _ h => List.mem_cons_of_mem _ (List.mem_append_right _ h)) (by decide +kernel))
set_option maxRecDepth 20000 in
theorem gX1_isSame_X0_worstLayer : GoodIn wsX1_isSame (wsV RX1 125 RX0 yX0_worstLayer wsX0_worstLayer) := goodIn_app (goodIn_of _ (by decide +kernel)) ggX1_isSame_X0_worstLayer
theorem dX1_isSame_0 : decode cX1_isSame 0 = .ok (.aload_n 0, 1) := by decide +kernel
theorem dX1_isSame_1 : decode cX1_isSame 1 = .ok (.getfield 15, 3) := by decide +kernel
theorem dX1_isSame_4 : decode cX1_isSame 4 = .ok (.arraylength, 1) := by decide +kernel
theorem dX1_isSame_5 : decode cX1_isSame 5 = .ok (.istore_n 2, 1) := by decide +kernel
theorem dX1_isSame_6 : decode cX1_isSame 6 = .ok (.aload_n 1, 1) := by decide +kernel
theorem dX1_isSame_7 : decode cX1_isSame 7 = .ok (.invokevirtual 65, 3) := by decide +kernel
theorem dX1_isSame_10 : decode cX1_isSame 10 = .ok (.iload_n 2, 1) := by decide +kernel
theorem dX1_isSame_11 : decode cX1_isSame 11 = .ok (.if_icmp .ne 87, 3) := by decide +kernel
theorem dX1_isSame_14 : decode cX1_isSame 14 = .ok (.aload_n 1, 1) := by decide +kernel
theorem dX1_isSame_15 : decode cX1_isSame 15 = .ok (.invokevirtual 69, 3) := by decide +kernel
theorem dX1_isSame_18 : decode cX1_isSame 18 = .ok (.aload_n 0, 1) := by decide +kernel
theorem dX1_isSame_19 : decode cX1_isSame 19 = .ok (.getfield 19, 3) := by decide +kernel
theorem dX1_isSame_22 : decode cX1_isSame 22 = .ok (.arraylength, 1) := by decide +kernel
theorem dX1_isSame_23 : decode cX1_isSame 23 = .ok (.if_icmp .ne 75, 3) := by decide +kernel
theorem dX1_isSame_26 : decode cX1_isSame 26 = .ok (.aload_n 1, 1) := by decide +kernel
theorem dX1_isSame_27 : decode cX1_isSame 27 = .ok (.invokevirtual 71, 3) := by decide +kernel
theorem dX1_isSame_30 : decode cX1_isSame 30 = .ok (.aload_n 0, 1) := by decide +kernel
theorem dX1_isSame_31 : decode cX1_isSame 31 = .ok (.getfield 27, 3) := by decide +kernel
theorem dX1_isSame_34 : decode cX1_isSame 34 = .ok (.if_icmp .ne 64, 3) := by decide +kernel
theorem dX1_isSame_37 : decode cX1_isSame 37 = .ok (.aload_n 1, 1) := by decide +kernel
theorem dX1_isSame_38 : decode cX1_isSame 38 = .ok (.invokevirtual 73, 3) := by decide +kernel
theorem dX1_isSame_41 : decode cX1_isSame 41 = .ok (.aload_n 0, 1) := by decide +kernel
theorem dX1_isSame_42 : decode cX1_isSame 42 = .ok (.getfield 7, 3) := by decide +kernel
theorem dX1_isSame_45 : decode cX1_isSame 45 = .ok (.if_icmp .ne 53, 3) := by decide +kernel
theorem dX1_isSame_48 : decode cX1_isSame 48 = .ok (.aload_n 1, 1) := by decide +kernel
theorem dX1_isSame_49 : decode cX1_isSame 49 = .ok (.invokevirtual 75, 3) := by decide +kernel
theorem dX1_isSame_52 : decode cX1_isSame 52 = .ok (.aload_n 0, 1) := by decide +kernel
theorem dX1_isSame_53 : decode cX1_isSame 53 = .ok (.getfield 30, 3) := by decide +kernel
theorem dX1_isSame_56 : decode cX1_isSame 56 = .ok (.if_icmp .ne 42, 3) := by decide +kernel
theorem dX1_isSame_59 : decode cX1_isSame 59 = .ok (.aload_n 1, 1) := by decide +kernel
theorem dX1_isSame_60 : decode cX1_isSame 60 = .ok (.invokevirtual 77, 3) := by decide +kernel
theorem dX1_isSame_63 : decode cX1_isSame 63 = .ok (.aload_n 0, 1) := by decide +kernel
theorem dX1_isSame_64 : decode cX1_isSame 64 = .ok (.getfield 33, 3) := by decide +kernel
theorem dX1_isSame_67 : decode cX1_isSame 67 = .ok (.if_icmp .ne 31, 3) := by decide +kernel
theorem dX1_isSame_70 : decode cX1_isSame 70 = .ok (.aload_n 1, 1) := by decide +kernel
theorem dX1_isSame_71 : decode cX1_isSame 71 = .ok (.invokevirtual 79, 3) := by decide +kernel
theorem dX1_isSame_74 : decode cX1_isSame 74 = .ok (.iload_n 2, 1) := by decide +kernel
theorem dX1_isSame_75 : decode cX1_isSame 75 = .ok (.ifCond .ne 7, 3) := by decide +kernel
theorem dX1_isSame_78 : decode cX1_isSame 78 = .ok (.dconst 0, 1) := by decide +kernel
theorem dX1_isSame_79 : decode cX1_isSame 79 = .ok (.goto 15, 3) := by decide +kernel
theorem dX1_isSame_82 : decode cX1_isSame 82 = .ok (.aload_n 0, 1) := by decide +kernel
theorem dX1_isSame_83 : decode cX1_isSame 83 = .ok (.iconst 0, 1) := by decide +kernel
theorem dX1_isSame_84 : decode cX1_isSame 84 = .ok (.iload_n 2, 1) := by decide +kernel
theorem dX1_isSame_85 : decode cX1_isSame 85 = .ok (.iconst 1, 1) := by decide +kernel
theorem dX1_isSame_86 : decode cX1_isSame 86 = .ok (.isub, 1) := by decide +kernel
theorem dX1_isSame_87 : decode cX1_isSame 87 = .ok (.invokevirtual 36, 3) := by decide +kernel
theorem dX1_isSame_90 : decode cX1_isSame 90 = .ok (.i2d, 1) := by decide +kernel
theorem dX1_isSame_91 : decode cX1_isSame 91 = .ok (.iload_n 2, 1) := by decide +kernel
theorem dX1_isSame_92 : decode cX1_isSame 92 = .ok (.i2d, 1) := by decide +kernel
theorem dX1_isSame_93 : decode cX1_isSame 93 = .ok (.ddiv, 1) := by decide +kernel
theorem dX1_isSame_94 : decode cX1_isSame 94 = .ok (.dcmp .l, 1) := by decide +kernel
theorem dX1_isSame_95 : decode cX1_isSame 95 = .ok (.ifCond .eq 5, 3) := by decide +kernel
theorem dX1_isSame_98 : decode cX1_isSame 98 = .ok (.iconst 0, 1) := by decide +kernel
theorem dX1_isSame_99 : decode cX1_isSame 99 = .ok (.ireturn, 1) := by decide +kernel
theorem dX1_isSame_100 : decode cX1_isSame 100 = .ok (.iconst 0, 1) := by decide +kernel
theorem dX1_isSame_101 : decode cX1_isSame 101 = .ok (.istore_n 3, 1) := by decide +kernel
theorem dX1_isSame_102 : decode cX1_isSame 102 = .ok (.iconst 0, 1) := by decide +kernel
theorem dX1_isSame_103 : decode cX1_isSame 103 = .ok (.istore 4, 2) := by decide +kernel
theorem dX1_isSame_105 : decode cX1_isSame 105 = .ok (.iconst 0, 1) := by decide +kernel
theorem dX1_isSame_106 : decode cX1_isSame 106 = .ok (.istore 5, 2) := by decide +kernel
theorem dX1_isSame_108 : decode cX1_isSame 108 = .ok (.iconst (-1), 1) := by decide +kernel
theorem dX1_isSame_109 : decode cX1_isSame 109 = .ok (.istore 6, 2) := by decide +kernel
theorem dX1_isSame_111 : decode cX1_isSame 111 = .ok (.iconst (-1), 1) := by decide +kernel
theorem dX1_isSame_112 : decode cX1_isSame 112 = .ok (.istore 7, 2) := by decide +kernel
theorem dX1_isSame_114 : decode cX1_isSame 114 = .ok (.iconst 5, 1) := by decide +kernel
theorem dX1_isSame_115 : decode cX1_isSame 115 = .ok (.newarray .int, 2) := by decide +kernel
theorem dX1_isSame_117 : decode cX1_isSame 117 = .ok (.dup, 1) := by decide +kernel
theorem dX1_isSame_118 : decode cX1_isSame 118 = .ok (.iconst 0, 1) := by decide +kernel
theorem dX1_isSame_119 : decode cX1_isSame 119 = .ok (.iconst (-1), 1) := by decide +kernel
theorem dX1_isSame_120 : decode cX1_isSame 120 = .ok (.iastore, 1) := by decide +kernel
theorem dX1_isSame_121 : decode cX1_isSame 121 = .ok (.dup, 1) := by decide +kernel
theorem dX1_isSame_122 : decode cX1_isSame 122 = .ok (.iconst 1, 1) := by decide +kernel
theorem dX1_isSame_123 : decode cX1_isSame 123 = .ok (.iconst (-1), 1) := by decide +kernel
theorem dX1_isSame_124 : decode cX1_isSame 124 = .ok (.iastore, 1) := by decide +kernel
theorem dX1_isSame_125 : decode cX1_isSame 125 = .ok (.dup, 1) := by decide +kernel
theorem dX1_isSame_126 : decode cX1_isSame 126 = .ok (.iconst 2, 1) := by decide +kernel
theorem dX1_isSame_127 : decode cX1_isSame 127 = .ok (.iconst (-1), 1) := by decide +kernel
theorem dX1_isSame_128 : decode cX1_isSame 128 = .ok (.iastore, 1) := by decide +kernel
theorem dX1_isSame_129 : decode cX1_isSame 129 = .ok (.dup, 1) := by decide +kernel
theorem dX1_isSame_130 : decode cX1_isSame 130 = .ok (.iconst 3, 1) := by decide +kernel
theorem dX1_isSame_131 : decode cX1_isSame 131 = .ok (.iconst (-1), 1) := by decide +kernel
theorem dX1_isSame_132 : decode cX1_isSame 132 = .ok (.iastore, 1) := by decide +kernel
theorem dX1_isSame_133 : decode cX1_isSame 133 = .ok (.dup, 1) := by decide +kernel
theorem dX1_isSame_134 : decode cX1_isSame 134 = .ok (.iconst 4, 1) := by decide +kernel
theorem dX1_isSame_135 : decode cX1_isSame 135 = .ok (.iconst (-1), 1) := by decide +kernel
theorem dX1_isSame_136 : decode cX1_isSame 136 = .ok (.iastore, 1) := by decide +kernel
theorem dX1_isSame_137 : decode cX1_isSame 137 = .ok (.astore 8, 2) := by decide +kernel
theorem dX1_isSame_139 : decode cX1_isSame 139 = .ok (.iload_n 2, 1) := by decide +kernel
theorem dX1_isSame_140 : decode cX1_isSame 140 = .ok (.iconst 1, 1) := by decide +kernel
theorem dX1_isSame_141 : decode cX1_isSame 141 = .ok (.isub, 1) := by decide +kernel
theorem dX1_isSame_142 : decode cX1_isSame 142 = .ok (.istore 9, 2) := by decide +kernel
theorem dX1_isSame_144 : decode cX1_isSame 144 = .ok (.iload 9, 2) := by decide +kernel
theorem dX1_isSame_146 : decode cX1_isSame 146 = .ok (.ifCond .lt 204, 3) := by decide +kernel
theorem dX1_isSame_149 : decode cX1_isSame 149 = .ok (.aload_n 0, 1) := by decide +kernel
theorem dX1_isSame_150 : decode cX1_isSame 150 = .ok (.iload 9, 2) := by decide +kernel
theorem dX1_isSame_152 : decode cX1_isSame 152 = .ok (.iload 9, 2) := by decide +kernel
theorem dX1_isSame_154 : decode cX1_isSame 154 = .ok (.invokevirtual 47, 3) := by decide +kernel
theorem dX1_isSame_157 : decode cX1_isSame 157 = .ok (.istore 10, 2) := by decide +kernel
theorem dX1_isSame_159 : decode cX1_isSame 159 = .ok (.aload_n 0, 1) := by decide +kernel
theorem dX1_isSame_160 : decode cX1_isSame 160 = .ok (.iload 9, 2) := by decide +kernel
theorem dX1_isSame_162 : decode cX1_isSame 162 = .ok (.iload 9, 2) := by decide +kernel
theorem dX1_isSame_164 : decode cX1_isSame 164 = .ok (.invokevirtual 44, 3) := by decide +kernel
theorem dX1_isSame_167 : decode cX1_isSame 167 = .ok (.istore 11, 2) := by decide +kernel
theorem dX1_isSame_169 : decode cX1_isSame 169 = .ok (.aload_n 1, 1) := by decide +kernel
theorem dX1_isSame_170 : decode cX1_isSame 170 = .ok (.iload 9, 2) := by decide +kernel
theorem dX1_isSame_172 : decode cX1_isSame 172 = .ok (.invokevirtual 83, 3) := by decide +kernel
theorem dX1_isSame_175 : decode cX1_isSame 175 = .ok (.aload_n 0, 1) := by decide +kernel
theorem dX1_isSame_176 : decode cX1_isSame 176 = .ok (.getfield 15, 3) := by decide +kernel
theorem dX1_isSame_179 : decode cX1_isSame 179 = .ok (.iload 9, 2) := by decide +kernel
theorem dX1_isSame_181 : decode cX1_isSame 181 = .ok (.aaload, 1) := by decide +kernel
theorem dX1_isSame_182 : decode cX1_isSame 182 = .ok (.iconst 0, 1) := by decide +kernel
theorem dX1_isSame_183 : decode cX1_isSame 183 = .ok (.iaload, 1) := by decide +kernel
theorem dX1_isSame_184 : decode cX1_isSame 184 = .ok (.if_icmp .ne 64, 3) := by decide +kernel
theorem dX1_isSame_187 : decode cX1_isSame 187 = .ok (.aload_n 1, 1) := by decide +kernel
theorem dX1_isSame_188 : decode cX1_isSame 188 = .ok (.iload 9, 2) := by decide +kernel
theorem dX1_isSame_190 : decode cX1_isSame 190 = .ok (.invokevirtual 87, 3) := by decide +kernel
theorem dX1_isSame_193 : decode cX1_isSame 193 = .ok (.aload_n 0, 1) := by decide +kernel
theorem dX1_isSame_194 : decode cX1_isSame 194 = .ok (.getfield 15, 3) := by decide +kernel
theorem dX1_isSame_197 : decode cX1_isSame 197 = .ok (.iload 9, 2) := by decide +kernel
theorem dX1_isSame_199 : decode cX1_isSame 199 = .ok (.aaload, 1) := by decide +kernel
theorem dX1_isSame_200 : decode cX1_isSame 200 = .ok (.iconst 1, 1) := by decide +kernel
theorem dX1_isSame_201 : decode cX1_isSame 201 = .ok (.iaload, 1) := by decide +kernel
theorem dX1_isSame_202 : decode cX1_isSame 202 = .ok (.if_icmp .ne 46, 3) := by decide +kernel
theorem dX1_isSame_205 : decode cX1_isSame 205 = .ok (.aload_n 1, 1) := by decide +kernel
theorem dX1_isSame_206 : decode cX1_isSame 206 = .ok (.iload 9, 2) := by decide +kernel
theorem dX1_isSame_208 : decode cX1_isSame 208 = .ok (.invokevirtual 90, 3) := by decide +kernel
theorem dX1_isSame_211 : decode cX1_isSame 211 = .ok (.iload 10, 2) := by decide +kernel
theorem dX1_isSame_213 : decode cX1_isSame 213 = .ok (.if_icmp .ne 35, 3) := by decide +kernel
theorem dX1_isSame_216 : decode cX1_isSame 216 = .ok (.aload_n 1, 1) := by decide +kernel
theorem dX1_isSame_217 : decode cX1_isSame 217 = .ok (.iload 9, 2) := by decide +kernel
theorem dX1_isSame_219 : decode cX1_isSame 219 = .ok (.invokevirtual 93, 3) := by decide +kernel
theorem dX1_isSame_222 : decode cX1_isSame 222 = .ok (.iload 11, 2) := by decide +kernel
theorem dX1_isSame_224 : decode cX1_isSame 224 = .ok (.if_icmp .ne 24, 3) := by decide +kernel
theorem dX1_isSame_227 : decode cX1_isSame 227 = .ok (.aload_n 1, 1) := by decide +kernel
theorem dX1_isSame_228 : decode cX1_isSame 228 = .ok (.iload 9, 2) := by decide +kernel
theorem dX1_isSame_230 : decode cX1_isSame 230 = .ok (.invokevirtual 96, 3) := by decide +kernel
theorem dX1_isSame_233 : decode cX1_isSame 233 = .ok (.iload 10, 2) := by decide +kernel
theorem dX1_isSame_235 : decode cX1_isSame 235 = .ok (.iload 11, 2) := by decide +kernel
theorem dX1_isSame_237 : decode cX1_isSame 237 = .ok (.if_icmp .ne 7, 3) := by decide +kernel
theorem dX1_isSame_240 : decode cX1_isSame 240 = .ok (.iconst 1, 1) := by decide +kernel
theorem dX1_isSame_241 : decode cX1_isSame 241 = .ok (.goto 4, 3) := by decide +kernel
theorem dX1_isSame_244 : decode cX1_isSame 244 = .ok (.iconst 0, 1) := by decide +kernel
theorem dX1_isSame_245 : decode cX1_isSame 245 = .ok (.if_icmp .eq 5, 3) := by decide +kernel
theorem dX1_isSame_248 : decode cX1_isSame 248 = .ok (.iconst 0, 1) := by decide +kernel
theorem dX1_isSame_249 : decode cX1_isSame 249 = .ok (.ireturn, 1) := by decide +kernel
theorem dX1_isSame_250 : decode cX1_isSame 250 = .ok (.iload_n 3, 1) := by decide +kernel
theorem dX1_isSame_251 : decode cX1_isSame 251 = .ok (.aload_n 0, 1) := by decide +kernel
theorem dX1_isSame_252 : decode cX1_isSame 252 = .ok (.getfield 15, 3) := by decide +kernel
theorem dX1_isSame_255 : decode cX1_isSame 255 = .ok (.iload 9, 2) := by decide +kernel
theorem dX1_isSame_257 : decode cX1_isSame 257 = .ok (.aaload, 1) := by decide +kernel
theorem dX1_isSame_258 : decode cX1_isSame 258 = .ok (.iconst 1, 1) := by decide +kernel
theorem dX1_isSame_259 : decode cX1_isSame 259 = .ok (.iaload, 1) := by decide +kernel
theorem dX1_isSame_260 : decode cX1_isSame 260 = .ok (.aload_n 0, 1) := by decide +kernel
theorem dX1_isSame_261 : decode cX1_isSame 261 = .ok (.getfield 7, 3) := by decide +kernel
theorem dX1_isSame_264 : decode cX1_isSame 264 = .ok (.if_icmp .le 7, 3) := by decide +kernel
theorem dX1_isSame_267 : decode cX1_isSame 267 = .ok (.iconst 1, 1) := by decide +kernel
theorem dX1_isSame_268 : decode cX1_isSame 268 = .ok (.goto 4, 3) := by decide +kernel
theorem dX1_isSame_271 : decode cX1_isSame 271 = .ok (.iconst 0, 1) := by decide +kernel
theorem dX1_isSame_272 : decode cX1_isSame 272 = .ok (.iadd, 1) := by decide +kernel
theorem dX1_isSame_273 : decode cX1_isSame 273 = .ok (.istore_n 3, 1) := by decide +kernel
theorem dX1_isSame_274 : decode cX1_isSame 274 = .ok (.iload 4, 2) := by decide +kernel
theorem dX1_isSame_276 : decode cX1_isSame 276 = .ok (.iload 11, 2) := by decide +kernel
theorem dX1_isSame_278 : decode cX1_isSame 278 = .ok (.aload_n 0, 1) := by decide +kernel
theorem dX1_isSame_279 : decode cX1_isSame 279 = .ok (.getfield 7, 3) := by decide +kernel
theorem dX1_isSame_282 : decode cX1_isSame 282 = .ok (.if_icmp .gt 7, 3) := by decide +kernel
theorem dX1_isSame_285 : decode cX1_isSame 285 = .ok (.iconst 1, 1) := by decide +kernel
theorem dX1_isSame_286 : decode cX1_isSame 286 = .ok (.goto 4, 3) := by decide +kernel
theorem dX1_isSame_289 : decode cX1_isSame 289 = .ok (.iconst 0, 1) := by decide +kernel
theorem dX1_isSame_290 : decode cX1_isSame 290 = .ok (.iadd, 1) := by decide +kernel
theorem dX1_isSame_291 : decode cX1_isSame 291 = .ok (.istore 4, 2) := by decide +kernel
theorem dX1_isSame_293 : decode cX1_isSame 293 = .ok (.iload 5, 2) := by decide +kernel
theorem dX1_isSame_295 : decode cX1_isSame 295 = .ok (.iload 10, 2) := by decide +kernel
theorem dX1_isSame_297 : decode cX1_isSame 297 = .ok (.aload_n 0, 1) := by decide +kernel
theorem dX1_isSame_298 : decode cX1_isSame 298 = .ok (.getfield 7, 3) := by decide +kernel
theorem dX1_isSame_301 : decode cX1_isSame 301 = .ok (.if_icmp .le 7, 3) := by decide +kernel
theorem dX1_isSame_304 : decode cX1_isSame 304 = .ok (.iconst 1, 1) := by decide +kernel
theorem dX1_isSame_305 : decode cX1_isSame 305 = .ok (.goto 4, 3) := by decide +kernel
theorem dX1_isSame_308 : decode cX1_isSame 308 = .ok (.iconst 0, 1) := by decide +kernel
theorem dX1_isSame_309 : decode cX1_isSame 309 = .ok (.iadd, 1) := by decide +kernel
theorem dX1_isSame_310 : decode cX1_isSame 310 = .ok (.istore 5, 2) := by decide +kernel
theorem dX1_isSame_312 : decode cX1_isSame 312 = .ok (.aload 8, 2) := by decide +kernel
theorem dX1_isSame_314 : decode cX1_isSame 314 = .ok (.aload_n 0, 1) := by decide +kernel
theorem dX1_isSame_315 : decode cX1_isSame 315 = .ok (.getfield 15, 3) := by decide +kernel
theorem dX1_isSame_318 : decode cX1_isSame 318 = .ok (.iload 9, 2) := by decide +kernel
theorem dX1_isSame_320 : decode cX1_isSame 320 = .ok (.aaload, 1) := by decide +kernel
theorem dX1_isSame_321 : decode cX1_isSame 321 = .ok (.iconst 0, 1) := by decide +kernel
theorem dX1_isSame_322 : decode cX1_isSame 322 = .ok (.iaload, 1) := by decide +kernel
theorem dX1_isSame_323 : decode cX1_isSame 323 = .ok (.iload 9, 2) := by decide +kernel
theorem dX1_isSame_325 : decode cX1_isSame 325 = .ok (.iastore, 1) := by decide +kernel
theorem dX1_isSame_326 : decode cX1_isSame 326 = .ok (.iload 11, 2) := by decide +kernel
theorem dX1_isSame_328 : decode cX1_isSame 328 = .ok (.iload 7, 2) := by decide +kernel
theorem dX1_isSame_330 : decode cX1_isSame 330 = .ok (.if_icmp .ge 6, 3) := by decide +kernel
theorem dX1_isSame_333 : decode cX1_isSame 333 = .ok (.goto 11, 3) := by decide +kernel
theorem dX1_isSame_336 : decode cX1_isSame 336 = .ok (.iload 9, 2) := by decide +kernel
theorem dX1_isSame_338 : decode cX1_isSame 338 = .ok (.istore 6, 2) := by decide +kernel
theorem dX1_isSame_340 : decode cX1_isSame 340 = .ok (.iload 11, 2) := by decide +kernel
theorem dX1_isSame_342 : decode cX1_isSame 342 = .ok (.istore 7, 2) := by decide +kernel
theorem dX1_isSame_344 : decode cX1_isSame 344 = .ok (.iinc 9 (-1), 3) := by decide +kernel
theorem dX1_isSame_347 : decode cX1_isSame 347 = .ok (.goto (-203), 3) := by decide +kernel
theorem dX1_isSame_350 : decode cX1_isSame 350 = .ok (.iconst 0, 1) := by decide +kernel
theorem dX1_isSame_351 : decode cX1_isSame 351 = .ok (.istore 9, 2) := by decide +kernel
theorem dX1_isSame_353 : decode cX1_isSame 353 = .ok (.iload 9, 2) := by decide +kernel
theorem dX1_isSame_355 : decode cX1_isSame 355 = .ok (.iconst 5, 1) := by decide +kernel
theorem dX1_isSame_356 : decode cX1_isSame 356 = .ok (.if_icmp .ge 25, 3) := by decide +kernel
theorem dX1_isSame_359 : decode cX1_isSame 359 = .ok (.aload_n 1, 1) := by decide +kernel
theorem dX1_isSame_360 : decode cX1_isSame 360 = .ok (.iload 9, 2) := by decide +kernel
theorem dX1_isSame_362 : decode cX1_isSame 362 = .ok (.invokevirtual 100, 3) := by decide +kernel
theorem dX1_isSame_365 : decode cX1_isSame 365 = .ok (.aload 8, 2) := by decide +kernel
theorem dX1_isSame_367 : decode cX1_isSame 367 = .ok (.iload 9, 2) := by decide +kernel
theorem dX1_isSame_369 : decode cX1_isSame 369 = .ok (.iaload, 1) := by decide +kernel
theorem dX1_isSame_370 : decode cX1_isSame 370 = .ok (.if_icmp .eq 5, 3) := by decide +kernel
theorem dX1_isSame_373 : decode cX1_isSame 373 = .ok (.iconst 0, 1) := by decide +kernel
theorem dX1_isSame_374 : decode cX1_isSame 374 = .ok (.ireturn, 1) := by decide +kernel
theorem dX1_isSame_375 : decode cX1_isSame 375 = .ok (.iinc 9 1, 3) := by decide +kernel
theorem dX1_isSame_378 : decode cX1_isSame 378 = .ok (.goto (-25), 3) := by decide +kernel
theorem dX1_isSame_381 : decode cX1_isSame 381 = .ok (.iconst 0, 1) := by decide +kernel
theorem dX1_isSame_382 : decode cX1_isSame 382 = .ok (.istore 9, 2) := by decide +kernel
theorem dX1_isSame_384 : decode cX1_isSame 384 = .ok (.iload 9, 2) := by decide +kernel
theorem dX1_isSame_386 : decode cX1_isSame 386 = .ok (.aload_n 0, 1) := by decide +kernel
theorem dX1_isSame_387 : decode cX1_isSame 387 = .ok (.getfield 19, 3) := by decide +kernel
theorem dX1_isSame_390 : decode cX1_isSame 390 = .ok (.arraylength, 1) := by decide +kernel
theorem dX1_isSame_391 : decode cX1_isSame 391 = .ok (.if_icmp .ge 83, 3) := by decide +kernel
theorem dX1_isSame_394 : decode cX1_isSame 394 = .ok (.aload_n 1, 1) := by decide +kernel
theorem dX1_isSame_395 : decode cX1_isSame 395 = .ok (.iload 9, 2) := by decide +kernel
theorem dX1_isSame_397 : decode cX1_isSame 397 = .ok (.invokevirtual 103, 3) := by decide +kernel
theorem dX1_isSame_400 : decode cX1_isSame 400 = .ok (.aload_n 0, 1) := by decide +kernel
theorem dX1_isSame_401 : decode cX1_isSame 401 = .ok (.getfield 19, 3) := by decide +kernel
theorem dX1_isSame_404 : decode cX1_isSame 404 = .ok (.iload 9, 2) := by decide +kernel
theorem dX1_isSame_406 : decode cX1_isSame 406 = .ok (.aaload, 1) := by decide +kernel
theorem dX1_isSame_407 : decode cX1_isSame 407 = .ok (.iconst 0, 1) := by decide +kernel
theorem dX1_isSame_408 : decode cX1_isSame 408 = .ok (.iaload, 1) := by decide +kernel
theorem dX1_isSame_409 : decode cX1_isSame 409 = .ok (.if_icmp .ne 57, 3) := by decide +kernel
theorem dX1_isSame_412 : decode cX1_isSame 412 = .ok (.aload_n 1, 1) := by decide +kernel
theorem dX1_isSame_413 : decode cX1_isSame 413 = .ok (.iload 9, 2) := by decide +kernel
theorem dX1_isSame_415 : decode cX1_isSame 415 = .ok (.invokevirtual 106, 3) := by decide +kernel
theorem dX1_isSame_418 : decode cX1_isSame 418 = .ok (.aload_n 0, 1) := by decide +kernel
theorem dX1_isSame_419 : decode cX1_isSame 419 = .ok (.getfield 19, 3) := by decide +kernel
theorem dX1_isSame_422 : decode cX1_isSame 422 = .ok (.iload 9, 2) := by decide +kernel
theorem dX1_isSame_424 : decode cX1_isSame 424 = .ok (.aaload, 1) := by decide +kernel
theorem dX1_isSame_425 : decode cX1_isSame 425 = .ok (.iconst 1, 1) := by decide +kernel
theorem dX1_isSame_426 : decode cX1_isSame 426 = .ok (.iaload, 1) := by decide +kernel
theorem dX1_isSame_427 : decode cX1_isSame 427 = .ok (.if_icmp .ne 39, 3) := by decide +kernel
theorem dX1_isSame_430 : decode cX1_isSame 430 = .ok (.aload_n 1, 1) := by decide +kernel
theorem dX1_isSame_431 : decode cX1_isSame 431 = .ok (.iload 9, 2) := by decide +kernel
theorem dX1_isSame_433 : decode cX1_isSame 433 = .ok (.invokevirtual 109, 3) := by decide +kernel
theorem dX1_isSame_436 : decode cX1_isSame 436 = .ok (.aload_n 0, 1) := by decide +kernel
theorem dX1_isSame_437 : decode cX1_isSame 437 = .ok (.getfield 19, 3) := by decide +kernel
theorem dX1_isSame_440 : decode cX1_isSame 440 = .ok (.iload 9, 2) := by decide +kernel
theorem dX1_isSame_442 : decode cX1_isSame 442 = .ok (.aaload, 1) := by decide +kernel
theorem dX1_isSame_443 : decode cX1_isSame 443 = .ok (.iconst 2, 1) := by decide +kernel
theorem dX1_isSame_444 : decode cX1_isSame 444 = .ok (.iaload, 1) := by decide +kernel
theorem dX1_isSame_445 : decode cX1_isSame 445 = .ok (.if_icmp .ne 21, 3) := by decide +kernel
theorem dX1_isSame_448 : decode cX1_isSame 448 = .ok (.aload_n 1, 1) := by decide +kernel
theorem dX1_isSame_449 : decode cX1_isSame 449 = .ok (.iload 9, 2) := by decide +kernel
theorem dX1_isSame_451 : decode cX1_isSame 451 = .ok (.invokevirtual 112, 3) := by decide +kernel
theorem dX1_isSame_454 : decode cX1_isSame 454 = .ok (.aload_n 0, 1) := by decide +kernel
theorem dX1_isSame_455 : decode cX1_isSame 455 = .ok (.getfield 19, 3) := by decide +kernel
theorem dX1_isSame_458 : decode cX1_isSame 458 = .ok (.iload 9, 2) := by decide +kernel
theorem dX1_isSame_460 : decode cX1_isSame 460 = .ok (.aaload, 1) := by decide +kernel
theorem dX1_isSame_461 : decode cX1_isSame 461 = .ok (.iconst 3, 1) := by decide +kernel
theorem dX1_isSame_462 : decode cX1_isSame 462 = .ok (.iaload, 1) := by decide +kernel
theorem dX1_isSame_463 : decode cX1_isSame 463 = .ok (.if_icmp .eq 5, 3) := by decide +kernel
theorem dX1_isSame_466 : decode cX1_isSame 466 = .ok (.iconst 0, 1) := by decide +kernel
theorem dX1_isSame_467 : decode cX1_isSame 467 = .ok (.ireturn, 1) := by decide +kernel
theorem dX1_isSame_468 : decode cX1_isSame 468 = .ok (.iinc 9 1, 3) := by decide +kernel
theorem dX1_isSame_471 : decode cX1_isSame 471 = .ok (.goto (-87), 3) := by decide +kernel
theorem dX1_isSame_474 : decode cX1_isSame 474 = .ok (.aload_n 1, 1) := by decide +kernel
theorem dX1_isSame_475 : decode cX1_isSame 475 = .ok (.invokevirtual 115, 3) := by decide +kernel
theorem dX1_isSame_478 : decode cX1_isSame 478 = .ok (.iload_n 3, 1) := by decide +kernel
theorem dX1_isSame_479 : decode cX1_isSame 479 = .ok (.if_icmp .ne 49, 3) := by decide +kernel
theorem dX1_isSame_482 : decode cX1_isSame 482 = .ok (.aload_n 1, 1) := by decide +kernel
theorem dX1_isSame_483 : decode cX1_isSame 483 = .ok (.invokevirtual 118, 3) := by decide +kernel
theorem dX1_isSame_486 : decode cX1_isSame 486 = .ok (.iload 4, 2) := by decide +kernel
theorem dX1_isSame_488 : decode cX1_isSame 488 = .ok (.if_icmp .ne 40, 3) := by decide +kernel
theorem dX1_isSame_491 : decode cX1_isSame 491 = .ok (.aload_n 1, 1) := by decide +kernel
theorem dX1_isSame_492 : decode cX1_isSame 492 = .ok (.invokevirtual 121, 3) := by decide +kernel
theorem dX1_isSame_495 : decode cX1_isSame 495 = .ok (.iload 5, 2) := by decide +kernel
theorem dX1_isSame_497 : decode cX1_isSame 497 = .ok (.if_icmp .ne 31, 3) := by decide +kernel
theorem dX1_isSame_500 : decode cX1_isSame 500 = .ok (.aload_n 1, 1) := by decide +kernel
theorem dX1_isSame_501 : decode cX1_isSame 501 = .ok (.invokevirtual 124, 3) := by decide +kernel
theorem dX1_isSame_504 : decode cX1_isSame 504 = .ok (.aload_n 0, 1) := by decide +kernel
theorem dX1_isSame_505 : decode cX1_isSame 505 = .ok (.invokevirtual 57, 3) := by decide +kernel
theorem dX1_isSame_508 : decode cX1_isSame 508 = .ok (.if_icmp .ne 20, 3) := by decide +kernel
theorem dX1_isSame_511 : decode cX1_isSame 511 = .ok (.iload_n 2, 1) := by decide +kernel
theorem dX1_isSame_512 : decode cX1_isSame 512 = .ok (.ifCond .eq 12, 3) := by decide +kernel
theorem dX1_isSame_515 : decode cX1_isSame 515 = .ok (.aload_n 1, 1) := by decide +kernel
theorem dX1_isSame_516 : decode cX1_isSame 516 = .ok (.invokevirtual 125, 3) := by decide +kernel
theorem dX1_isSame_519 : decode cX1_isSame 519 = .ok (.iload 6, 2) := by decide +kernel
theorem dX1_isSame_521 : decode cX1_isSame 521 = .ok (.if_icmp .ne 7, 3) := by decide +kernel
theorem dX1_isSame_524 : decode cX1_isSame 524 = .ok (.iconst 1, 1) := by decide +kernel
theorem dX1_isSame_525 : decode cX1_isSame 525 = .ok (.goto 4, 3) := by decide +kernel
theorem dX1_isSame_528 : decode cX1_isSame 528 = .ok (.iconst 0, 1) := by decide +kernel
theorem dX1_isSame_529 : decode cX1_isSame 529 = .ok (.ireturn, 1) := by decide +kernel
theorem dJ9_abs_0f7a4_0 : decode cJ9_abs_0f7a4 0 = .ok (.iload_n 0, 1) := by decide +kernel
theorem dJ9_abs_0f7a4_1 : decode cJ9_abs_0f7a4 1 = .ok (.ifCond .ge 8, 3) := by decide +kernel
theorem dJ9_abs_0f7a4_4 : decode cJ9_abs_0f7a4 4 = .ok (.iload_n 0, 1) := by decide +kernel
theorem dJ9_abs_0f7a4_5 : decode cJ9_abs_0f7a4 5 = .ok (.ineg, 1) := by decide +kernel
theorem dJ9_abs_0f7a4_6 : decode cJ9_abs_0f7a4 6 = .ok (.goto 4, 3) := by decide +kernel
theorem dJ9_abs_0f7a4_9 : decode cJ9_abs_0f7a4 9 = .ok (.iload_n 0, 1) := by decide +kernel
theorem dJ9_abs_0f7a4_10 : decode cJ9_abs_0f7a4 10 = .ok (.ireturn, 1) := by decide +kernel
theorem dJ9_max_7cf53_0 : decode cJ9_max_7cf53 0 = .ok (.iload_n 0, 1) := by decide +kernel
theorem dJ9_max_7cf53_1 : decode cJ9_max_7cf53 1 = .ok (.iload_n 1, 1) := by decide +kernel
theorem dJ9_max_7cf53_2 : decode cJ9_max_7cf53 2 = .ok (.if_icmp .lt 7, 3) := by decide +kernel
theorem dJ9_max_7cf53_5 : decode cJ9_max_7cf53 5 = .ok (.iload_n 0, 1) := by decide +kernel
theorem dJ9_max_7cf53_6 : decode cJ9_max_7cf53 6 = .ok (.goto 4, 3) := by decide +kernel
theorem dJ9_max_7cf53_9 : decode cJ9_max_7cf53 9 = .ok (.iload_n 1, 1) := by decide +kernel
theorem dJ9_max_7cf53_10 : decode cJ9_max_7cf53 10 = .ok (.ireturn, 1) := by decide +kernel
theorem dJ9_min_7cf53_0 : decode cJ9_min_7cf53 0 = .ok (.iload_n 0, 1) := by decide +kernel
theorem dJ9_min_7cf53_1 : decode cJ9_min_7cf53 1 = .ok (.iload_n 1, 1) := by decide +kernel
theorem dJ9_min_7cf53_2 : decode cJ9_min_7cf53 2 = .ok (.if_icmp .gt 7, 3) := by decide +kernel
theorem dJ9_min_7cf53_5 : decode cJ9_min_7cf53 5 = .ok (.iload_n 0, 1) := by decide +kernel
theorem dJ9_min_7cf53_6 : decode cJ9_min_7cf53 6 = .ok (.goto 4, 3) := by decide +kernel
theorem dJ9_min_7cf53_9 : decode cJ9_min_7cf53 9 = .ok (.iload_n 1, 1) := by decide +kernel
theorem dJ9_min_7cf53_10 : decode cJ9_min_7cf53 10 = .ok (.ireturn, 1) := by decide +kernel
