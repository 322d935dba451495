theorem dX1_init_0 : decode cX1_init 0 = .ok (.aload_n 0, 1) := by decide +kernel
theorem dX1_init_1 : decode cX1_init 1 = .ok (.invokespecial 3, 3) := by decide +kernel
theorem dX1_init_4 : decode cX1_init 4 = .ok (.aload_n 0, 1) := by decide +kernel
theorem dX1_init_5 : decode cX1_init 5 = .ok (.bipush 12, 2) := by decide +kernel
theorem dX1_init_7 : decode cX1_init 7 = .ok (.newarray .int, 2) := by decide +kernel
theorem dX1_init_9 : decode cX1_init 9 = .ok (.putfield 9, 3) := by decide +kernel
theorem dX1_init_12 : decode cX1_init 12 = .ok (.aload_n 0, 1) := by decide +kernel
theorem dX1_init_13 : decode cX1_init 13 = .ok (.bipush 12, 2) := by decide +kernel
theorem dX1_init_15 : decode cX1_init 15 = .ok (.newarray .int, 2) := by decide +kernel
theorem dX1_init_17 : decode cX1_init 17 = .ok (.putfield 13, 3) := by decide +kernel
theorem dX1_init_20 : decode cX1_init 20 = .ok (.aload_n 0, 1) := by decide +kernel
theorem dX1_init_21 : decode cX1_init 21 = .ok (.bipush 16, 2) := by decide +kernel
theorem dX1_init_23 : decode cX1_init 23 = .ok (.newarray .int, 2) := by decide +kernel
theorem dX1_init_25 : decode cX1_init 25 = .ok (.putfield 16, 3) := by decide +kernel
theorem dX1_init_28 : decode cX1_init 28 = .ok (.aload_n 0, 1) := by decide +kernel
theorem dX1_init_29 : decode cX1_init 29 = .ok (.bipush 16, 2) := by decide +kernel
theorem dX1_init_31 : decode cX1_init 31 = .ok (.newarray .int, 2) := by decide +kernel
theorem dX1_init_33 : decode cX1_init 33 = .ok (.putfield 19, 3) := by decide +kernel
theorem dX1_init_36 : decode cX1_init 36 = .ok (.aload_n 0, 1) := by decide +kernel
theorem dX1_init_37 : decode cX1_init 37 = .ok (.bipush 16, 2) := by decide +kernel
theorem dX1_init_39 : decode cX1_init 39 = .ok (.newarray .int, 2) := by decide +kernel
theorem dX1_init_41 : decode cX1_init 41 = .ok (.putfield 22, 3) := by decide +kernel
theorem dX1_init_44 : decode cX1_init 44 = .ok (.aload_n 0, 1) := by decide +kernel
theorem dX1_init_45 : decode cX1_init 45 = .ok (.bipush 16, 2) := by decide +kernel
theorem dX1_init_47 : decode cX1_init 47 = .ok (.newarray .int, 2) := by decide +kernel
theorem dX1_init_49 : decode cX1_init 49 = .ok (.putfield 25, 3) := by decide +kernel
theorem dX1_init_52 : decode cX1_init 52 = .ok (.aload_n 0, 1) := by decide +kernel
theorem dX1_init_53 : decode cX1_init 53 = .ok (.bipush 14, 2) := by decide +kernel
theorem dX1_init_55 : decode cX1_init 55 = .ok (.putfield 28, 3) := by decide +kernel
theorem dX1_init_58 : decode cX1_init 58 = .ok (.aload_n 0, 1) := by decide +kernel
theorem dX1_init_59 : decode cX1_init 59 = .ok (.sipush 169, 3) := by decide +kernel
theorem dX1_init_62 : decode cX1_init 62 = .ok (.newarray .int, 2) := by decide +kernel
theorem dX1_init_64 : decode cX1_init 64 = .ok (.putfield 32, 3) := by decide +kernel
theorem dX1_init_67 : decode cX1_init 67 = .ok (.aload_n 0, 1) := by decide +kernel
theorem dX1_init_68 : decode cX1_init 68 = .ok (.bipush 12, 2) := by decide +kernel
theorem dX1_init_70 : decode cX1_init 70 = .ok (.newarray .int, 2) := by decide +kernel
theorem dX1_init_72 : decode cX1_init 72 = .ok (.putfield 35, 3) := by decide +kernel
theorem dX1_init_75 : decode cX1_init 75 = .ok (.aload_n 0, 1) := by decide +kernel
theorem dX1_init_76 : decode cX1_init 76 = .ok (.bipush 12, 2) := by decide +kernel
theorem dX1_init_78 : decode cX1_init 78 = .ok (.newarray .int, 2) := by decide +kernel
theorem dX1_init_80 : decode cX1_init 80 = .ok (.putfield 38, 3) := by decide +kernel
theorem dX1_init_83 : decode cX1_init 83 = .ok (.return_, 1) := by decide +kernel
theorem dX1_thrown_0 : decode cX1_thrown 0 = .ok (.aload_n 0, 1) := by decide +kernel
theorem dX1_thrown_1 : decode cX1_thrown 1 = .ok (.getfield 41, 3) := by decide +kernel
theorem dX1_thrown_4 : decode cX1_thrown 4 = .ok (.ireturn, 1) := by decide +kernel
theorem dX1_no_0 : decode cX1_no 0 = .ok (.aload_n 0, 1) := by decide +kernel
theorem dX1_no_1 : decode cX1_no 1 = .ok (.iload_n 1, 1) := by decide +kernel
theorem dX1_no_2 : decode cX1_no 2 = .ok (.putfield 41, 3) := by decide +kernel
theorem dX1_no_5 : decode cX1_no 5 = .ok (.iconst 0, 1) := by decide +kernel
theorem dX1_no_6 : decode cX1_no 6 = .ok (.ireturn, 1) := by decide +kernel
theorem dX1_isNot_0 : decode cX1_isNot 0 = .ok (.aload_n 0, 1) := by decide +kernel
theorem dX1_isNot_1 : decode cX1_isNot 1 = .ok (.iload_n 1, 1) := by decide +kernel
theorem dX1_isNot_2 : decode cX1_isNot 2 = .ok (.putfield 41, 3) := by decide +kernel
theorem dX1_isNot_5 : decode cX1_isNot 5 = .ok (.iconst 0, 1) := by decide +kernel
theorem dX1_isNot_6 : decode cX1_isNot 6 = .ok (.ireturn, 1) := by decide +kernel
theorem dX1_ok_0 : decode cX1_ok 0 = .ok (.aload_n 0, 1) := by decide +kernel
theorem dX1_ok_1 : decode cX1_ok 1 = .ok (.iconst 0, 1) := by decide +kernel
theorem dX1_ok_2 : decode cX1_ok 2 = .ok (.putfield 41, 3) := by decide +kernel
theorem dX1_ok_5 : decode cX1_ok 5 = .ok (.iload_n 1, 1) := by decide +kernel
theorem dX1_ok_6 : decode cX1_ok 6 = .ok (.ireturn, 1) := by decide +kernel
theorem dX1_isIn_0 : decode cX1_isIn 0 = .ok (.iload_n 0, 1) := by decide +kernel
theorem dX1_isIn_1 : decode cX1_isIn 1 = .ok (.iload_n 1, 1) := by decide +kernel
theorem dX1_isIn_2 : decode cX1_isIn 2 = .ok (.if_icmp .lt 12, 3) := by decide +kernel
theorem dX1_isIn_5 : decode cX1_isIn 5 = .ok (.iload_n 0, 1) := by decide +kernel
theorem dX1_isIn_6 : decode cX1_isIn 6 = .ok (.iload_n 2, 1) := by decide +kernel
theorem dX1_isIn_7 : decode cX1_isIn 7 = .ok (.if_icmp .gt 7, 3) := by decide +kernel
theorem dX1_isIn_10 : decode cX1_isIn 10 = .ok (.iconst 1, 1) := by decide +kernel
theorem dX1_isIn_11 : decode cX1_isIn 11 = .ok (.goto 4, 3) := by decide +kernel
theorem dX1_isIn_14 : decode cX1_isIn 14 = .ok (.iconst 0, 1) := by decide +kernel
theorem dX1_isIn_15 : decode cX1_isIn 15 = .ok (.ireturn, 1) := by decide +kernel
set_option maxRecDepth 20000 in
theorem ggX1_isLayer_X1_isIn : GoodIn wsX1_isLayer wsX1_isIn := goodIn_r _ [5] (by decide +kernel) (by decide +kernel)
set_option maxRecDepth 20000 in
theorem gX1_isLayer_X1_isIn : GoodIn wsX1_isLayer (va_wsS RX1 47 yX1_isIn wsX1_isIn) := goodIn_app (goodIn_of _ (by decide +kernel)) ggX1_isLayer_X1_isIn
theorem dX1_isLayer_0 : decode cX1_isLayer 0 = .ok (.iload_n 1, 1) := by decide +kernel
theorem dX1_isLayer_1 : decode cX1_isLayer 1 = .ok (.iconst 0, 1) := by decide +kernel
theorem dX1_isLayer_2 : decode cX1_isLayer 2 = .ok (.aload_n 0, 1) := by decide +kernel
theorem dX1_isLayer_3 : decode cX1_isLayer 3 = .ok (.getfield 44, 3) := by decide +kernel
theorem dX1_isLayer_6 : decode cX1_isLayer 6 = .ok (.iconst 1, 1) := by decide +kernel
theorem dX1_isLayer_7 : decode cX1_isLayer 7 = .ok (.isub, 1) := by decide +kernel
theorem dX1_isLayer_8 : decode cX1_isLayer 8 = .ok (.invokestatic 47, 3) := by decide +kernel
theorem dX1_isLayer_11 : decode cX1_isLayer 11 = .ok (.ireturn, 1) := by decide +kernel
set_option maxRecDepth 20000 in
theorem ggX1_areLayers_X1_isLayer : GoodIn wsX1_areLayers wsX1_isLayer := goodIn_r _ [5, 6, 7, 8, 4, 9, 10, 11, 12, 13, 14, 15, 16, 17, 18, 19, 20, 21, 22, 23, 24, 25] (by decide +kernel) (by decide +kernel)
set_option maxRecDepth 20000 in
theorem gX1_areLayers_X1_isLayer : GoodIn wsX1_areLayers (wsV RX1 51 RX1 yX1_isLayer wsX1_isLayer) := goodIn_app (goodIn_of _ (by decide +kernel)) ggX1_areLayers_X1_isLayer
theorem dX1_areLayers_0 : decode cX1_areLayers 0 = .ok (.aload_n 0, 1) := by decide +kernel
theorem dX1_areLayers_1 : decode cX1_areLayers 1 = .ok (.iload_n 1, 1) := by decide +kernel
theorem dX1_areLayers_2 : decode cX1_areLayers 2 = .ok (.invokevirtual 51, 3) := by decide +kernel
theorem dX1_areLayers_5 : decode cX1_areLayers 5 = .ok (.ifCond .eq 20, 3) := by decide +kernel
theorem dX1_areLayers_8 : decode cX1_areLayers 8 = .ok (.aload_n 0, 1) := by decide +kernel
theorem dX1_areLayers_9 : decode cX1_areLayers 9 = .ok (.iload_n 2, 1) := by decide +kernel
theorem dX1_areLayers_10 : decode cX1_areLayers 10 = .ok (.invokevirtual 51, 3) := by decide +kernel
theorem dX1_areLayers_13 : decode cX1_areLayers 13 = .ok (.ifCond .eq 12, 3) := by decide +kernel
theorem dX1_areLayers_16 : decode cX1_areLayers 16 = .ok (.iload_n 1, 1) := by decide +kernel
theorem dX1_areLayers_17 : decode cX1_areLayers 17 = .ok (.iload_n 2, 1) := by decide +kernel
theorem dX1_areLayers_18 : decode cX1_areLayers 18 = .ok (.if_icmp .gt 7, 3) := by decide +kernel
theorem dX1_areLayers_21 : decode cX1_areLayers 21 = .ok (.iconst 1, 1) := by decide +kernel
theorem dX1_areLayers_22 : decode cX1_areLayers 22 = .ok (.goto 4, 3) := by decide +kernel
theorem dX1_areLayers_25 : decode cX1_areLayers 25 = .ok (.iconst 0, 1) := by decide +kernel
theorem dX1_areLayers_26 : decode cX1_areLayers 26 = .ok (.ireturn, 1) := by decide +kernel
set_option maxRecDepth 20000 in
theorem ggX1_isSample_X1_isIn : GoodIn wsX1_isSample wsX1_isIn := goodIn_r _ [5] (by decide +kernel) (by decide +kernel)
set_option maxRecDepth 20000 in
theorem gX1_isSample_X1_isIn : GoodIn wsX1_isSample (va_wsS RX1 47 yX1_isIn wsX1_isIn) := goodIn_app (goodIn_of _ (by decide +kernel)) ggX1_isSample_X1_isIn
theorem dX1_isSample_0 : decode cX1_isSample 0 = .ok (.iload_n 1, 1) := by decide +kernel
theorem dX1_isSample_1 : decode cX1_isSample 1 = .ok (.iconst 0, 1) := by decide +kernel
theorem dX1_isSample_2 : decode cX1_isSample 2 = .ok (.aload_n 0, 1) := by decide +kernel
theorem dX1_isSample_3 : decode cX1_isSample 3 = .ok (.getfield 55, 3) := by decide +kernel
theorem dX1_isSample_6 : decode cX1_isSample 6 = .ok (.iconst 1, 1) := by decide +kernel
theorem dX1_isSample_7 : decode cX1_isSample 7 = .ok (.isub, 1) := by decide +kernel
theorem dX1_isSample_8 : decode cX1_isSample 8 = .ok (.invokestatic 47, 3) := by decide +kernel
theorem dX1_isSample_11 : decode cX1_isSample 11 = .ok (.ireturn, 1) := by decide +kernel
theorem dX1_bound_0 : decode cX1_bound 0 = .ok (.aload_n 0, 1) := by decide +kernel
theorem dX1_bound_1 : decode cX1_bound 1 = .ok (.getfield 32, 3) := by decide +kernel
theorem dX1_bound_4 : decode cX1_bound 4 = .ok (.bipush 13, 2) := by decide +kernel
theorem dX1_bound_6 : decode cX1_bound 6 = .ok (.iload_n 1, 1) := by decide +kernel
theorem dX1_bound_7 : decode cX1_bound 7 = .ok (.imul, 1) := by decide +kernel
theorem dX1_bound_8 : decode cX1_bound 8 = .ok (.iload_n 2, 1) := by decide +kernel
theorem dX1_bound_9 : decode cX1_bound 9 = .ok (.iadd, 1) := by decide +kernel
theorem dX1_bound_10 : decode cX1_bound 10 = .ok (.aload_n 0, 1) := by decide +kernel
theorem dX1_bound_11 : decode cX1_bound 11 = .ok (.getfield 32, 3) := by decide +kernel
theorem dX1_bound_14 : decode cX1_bound 14 = .ok (.bipush 13, 2) := by decide +kernel
theorem dX1_bound_16 : decode cX1_bound 16 = .ok (.iload_n 1, 1) := by decide +kernel
theorem dX1_bound_17 : decode cX1_bound 17 = .ok (.imul, 1) := by decide +kernel
theorem dX1_bound_18 : decode cX1_bound 18 = .ok (.iload_n 2, 1) := by decide +kernel
theorem dX1_bound_19 : decode cX1_bound 19 = .ok (.iadd, 1) := by decide +kernel
theorem dX1_bound_20 : decode cX1_bound 20 = .ok (.iaload, 1) := by decide +kernel
theorem dX1_bound_21 : decode cX1_bound 21 = .ok (.iload_n 3, 1) := by decide +kernel
theorem dX1_bound_22 : decode cX1_bound 22 = .ok (.invokestatic 58, 3) := by decide +kernel
theorem dX1_bound_25 : decode cX1_bound 25 = .ok (.iastore, 1) := by decide +kernel
theorem dX1_bound_26 : decode cX1_bound 26 = .ok (.return_, 1) := by decide +kernel
set_option maxRecDepth 20000 in
theorem ggX1_tell_X1_bound : GoodIn wsX1_tell wsX1_bound := goodIn_r _ [5, 6, 7, 8, 9, 10, 11, 12, 13, 14, 15, 16, 17, 18, 19, 20, 21, 22, 23, 24, 25, 26] (by decide +kernel) (by decide +kernel)
set_option maxRecDepth 20000 in
theorem gX1_tell_X1_bound : GoodIn wsX1_tell (wsV RX1 64 RX1 yX1_bound wsX1_bound) := goodIn_app (goodIn_of _ (by decide +kernel)) ggX1_tell_X1_bound
theorem dX1_tell_0 : decode cX1_tell 0 = .ok (.aload_n 0, 1) := by decide +kernel
theorem dX1_tell_1 : decode cX1_tell 1 = .ok (.iload_n 1, 1) := by decide +kernel
theorem dX1_tell_2 : decode cX1_tell 2 = .ok (.iload_n 2, 1) := by decide +kernel
theorem dX1_tell_3 : decode cX1_tell 3 = .ok (.iconst 1, 1) := by decide +kernel
theorem dX1_tell_4 : decode cX1_tell 4 = .ok (.iadd, 1) := by decide +kernel
theorem dX1_tell_5 : decode cX1_tell 5 = .ok (.iload_n 3, 1) := by decide +kernel
theorem dX1_tell_6 : decode cX1_tell 6 = .ok (.iload 4, 2) := by decide +kernel
theorem dX1_tell_8 : decode cX1_tell 8 = .ok (.iadd, 1) := by decide +kernel
theorem dX1_tell_9 : decode cX1_tell 9 = .ok (.invokevirtual 64, 3) := by decide +kernel
theorem dX1_tell_12 : decode cX1_tell 12 = .ok (.aload_n 0, 1) := by decide +kernel
theorem dX1_tell_13 : decode cX1_tell 13 = .ok (.iload_n 2, 1) := by decide +kernel
theorem dX1_tell_14 : decode cX1_tell 14 = .ok (.iconst 1, 1) := by decide +kernel
theorem dX1_tell_15 : decode cX1_tell 15 = .ok (.iadd, 1) := by decide +kernel
theorem dX1_tell_16 : decode cX1_tell 16 = .ok (.iload_n 1, 1) := by decide +kernel
theorem dX1_tell_17 : decode cX1_tell 17 = .ok (.iload 4, 2) := by decide +kernel
theorem dX1_tell_19 : decode cX1_tell 19 = .ok (.iload_n 3, 1) := by decide +kernel
theorem dX1_tell_20 : decode cX1_tell 20 = .ok (.isub, 1) := by decide +kernel
theorem dX1_tell_21 : decode cX1_tell 21 = .ok (.invokevirtual 64, 3) := by decide +kernel
theorem dX1_tell_24 : decode cX1_tell 24 = .ok (.return_, 1) := by decide +kernel
set_option maxRecDepth 20000 in
theorem ggX1_begin_X1_bound : GoodIn wsX1_begin wsX1_bound := goodIn_r _ [13, 2, 14, 15, 16, 17, 22, 23, 24, 25, 26, 27, 28, 29, 30, 31, 32, 33, 34, 35, 36, 37] (by decide +kernel) (by decide +kernel)
set_option maxRecDepth 20000 in
theorem gX1_begin_X1_bound : GoodIn wsX1_begin (wsV RX1 64 RX1 yX1_bound wsX1_bound) := goodIn_app (goodIn_of _ (by decide +kernel)) ggX1_begin_X1_bound
set_option maxRecDepth 20000 in
theorem ggX1_begin_X1_tell : GoodIn wsX1_begin wsX1_tell := goodIn_r _ [21, 9, 10, 11, 12, 13, 2, 14, 15, 16, 17, 22, 23, 24, 25, 26, 27, 28, 29, 30, 31, 32, 33, 34, 35, 36, 37] (by decide +kernel) (by decide +kernel)
set_option maxRecDepth 20000 in
theorem gX1_begin_X1_tell : GoodIn wsX1_begin (wsV RX1 69 RX1 yX1_tell wsX1_tell) := goodIn_app (goodIn_of _ (by decide +kernel)) ggX1_begin_X1_tell
theorem dX1_begin_0 : decode cX1_begin 0 = .ok (.iconst 0, 1) := by decide +kernel
theorem dX1_begin_1 : decode cX1_begin 1 = .ok (.istore_n 1, 1) := by decide +kernel
theorem dX1_begin_2 : decode cX1_begin 2 = .ok (.iload_n 1, 1) := by decide +kernel
theorem dX1_begin_3 : decode cX1_begin 3 = .ok (.aload_n 0, 1) := by decide +kernel
theorem dX1_begin_4 : decode cX1_begin 4 = .ok (.getfield 44, 3) := by decide +kernel
theorem dX1_begin_7 : decode cX1_begin 7 = .ok (.if_icmp .gt 47, 3) := by decide +kernel
theorem dX1_begin_10 : decode cX1_begin 10 = .ok (.iconst 0, 1) := by decide +kernel
theorem dX1_begin_11 : decode cX1_begin 11 = .ok (.istore_n 2, 1) := by decide +kernel
theorem dX1_begin_12 : decode cX1_begin 12 = .ok (.iload_n 2, 1) := by decide +kernel
theorem dX1_begin_13 : decode cX1_begin 13 = .ok (.aload_n 0, 1) := by decide +kernel
theorem dX1_begin_14 : decode cX1_begin 14 = .ok (.getfield 44, 3) := by decide +kernel
theorem dX1_begin_17 : decode cX1_begin 17 = .ok (.if_icmp .gt 31, 3) := by decide +kernel
theorem dX1_begin_20 : decode cX1_begin 20 = .ok (.aload_n 0, 1) := by decide +kernel
theorem dX1_begin_21 : decode cX1_begin 21 = .ok (.getfield 32, 3) := by decide +kernel
theorem dX1_begin_24 : decode cX1_begin 24 = .ok (.bipush 13, 2) := by decide +kernel
theorem dX1_begin_26 : decode cX1_begin 26 = .ok (.iload_n 1, 1) := by decide +kernel
theorem dX1_begin_27 : decode cX1_begin 27 = .ok (.imul, 1) := by decide +kernel
theorem dX1_begin_28 : decode cX1_begin 28 = .ok (.iload_n 2, 1) := by decide +kernel
theorem dX1_begin_29 : decode cX1_begin 29 = .ok (.iadd, 1) := by decide +kernel
theorem dX1_begin_30 : decode cX1_begin 30 = .ok (.iload_n 1, 1) := by decide +kernel
theorem dX1_begin_31 : decode cX1_begin 31 = .ok (.iload_n 2, 1) := by decide +kernel
theorem dX1_begin_32 : decode cX1_begin 32 = .ok (.if_icmp .ne 7, 3) := by decide +kernel
theorem dX1_begin_35 : decode cX1_begin 35 = .ok (.iconst 0, 1) := by decide +kernel
theorem dX1_begin_36 : decode cX1_begin 36 = .ok (.goto 5, 3) := by decide +kernel
theorem dX1_begin_39 : decode cX1_begin 39 = .ok (.ldc 68, 2) := by decide +kernel
theorem dX1_begin_41 : decode cX1_begin 41 = .ok (.iastore, 1) := by decide +kernel
theorem dX1_begin_42 : decode cX1_begin 42 = .ok (.iinc 2 1, 3) := by decide +kernel
theorem dX1_begin_45 : decode cX1_begin 45 = .ok (.goto (-33), 3) := by decide +kernel
theorem dX1_begin_48 : decode cX1_begin 48 = .ok (.iinc 1 1, 3) := by decide +kernel
theorem dX1_begin_51 : decode cX1_begin 51 = .ok (.goto (-49), 3) := by decide +kernel
theorem dX1_begin_54 : decode cX1_begin 54 = .ok (.iconst 0, 1) := by decide +kernel
theorem dX1_begin_55 : decode cX1_begin 55 = .ok (.istore_n 1, 1) := by decide +kernel
theorem dX1_begin_56 : decode cX1_begin 56 = .ok (.iload_n 1, 1) := by decide +kernel
theorem dX1_begin_57 : decode cX1_begin 57 = .ok (.aload_n 0, 1) := by decide +kernel
theorem dX1_begin_58 : decode cX1_begin 58 = .ok (.getfield 44, 3) := by decide +kernel
theorem dX1_begin_61 : decode cX1_begin 61 = .ok (.if_icmp .ge 28, 3) := by decide +kernel
theorem dX1_begin_64 : decode cX1_begin 64 = .ok (.aload_n 0, 1) := by decide +kernel
theorem dX1_begin_65 : decode cX1_begin 65 = .ok (.iload_n 1, 1) := by decide +kernel
theorem dX1_begin_66 : decode cX1_begin 66 = .ok (.iload_n 1, 1) := by decide +kernel
theorem dX1_begin_67 : decode cX1_begin 67 = .ok (.iconst 1, 1) := by decide +kernel
theorem dX1_begin_68 : decode cX1_begin 68 = .ok (.iadd, 1) := by decide +kernel
theorem dX1_begin_69 : decode cX1_begin 69 = .ok (.bipush 40, 2) := by decide +kernel
theorem dX1_begin_71 : decode cX1_begin 71 = .ok (.invokevirtual 64, 3) := by decide +kernel
theorem dX1_begin_74 : decode cX1_begin 74 = .ok (.aload_n 0, 1) := by decide +kernel
theorem dX1_begin_75 : decode cX1_begin 75 = .ok (.iload_n 1, 1) := by decide +kernel
theorem dX1_begin_76 : decode cX1_begin 76 = .ok (.iconst 1, 1) := by decide +kernel
theorem dX1_begin_77 : decode cX1_begin 77 = .ok (.iadd, 1) := by decide +kernel
theorem dX1_begin_78 : decode cX1_begin 78 = .ok (.iload_n 1, 1) := by decide +kernel
theorem dX1_begin_79 : decode cX1_begin 79 = .ok (.iconst 0, 1) := by decide +kernel
theorem dX1_begin_80 : decode cX1_begin 80 = .ok (.invokevirtual 64, 3) := by decide +kernel
theorem dX1_begin_83 : decode cX1_begin 83 = .ok (.iinc 1 1, 3) := by decide +kernel
theorem dX1_begin_86 : decode cX1_begin 86 = .ok (.goto (-30), 3) := by decide +kernel
theorem dX1_begin_89 : decode cX1_begin 89 = .ok (.iconst 0, 1) := by decide +kernel
theorem dX1_begin_90 : decode cX1_begin 90 = .ok (.istore_n 1, 1) := by decide +kernel
theorem dX1_begin_91 : decode cX1_begin 91 = .ok (.iload_n 1, 1) := by decide +kernel
theorem dX1_begin_92 : decode cX1_begin 92 = .ok (.aload_n 0, 1) := by decide +kernel
theorem dX1_begin_93 : decode cX1_begin 93 = .ok (.getfield 55, 3) := by decide +kernel
theorem dX1_begin_96 : decode cX1_begin 96 = .ok (.if_icmp .ge 37, 3) := by decide +kernel
theorem dX1_begin_99 : decode cX1_begin 99 = .ok (.aload_n 0, 1) := by decide +kernel
theorem dX1_begin_100 : decode cX1_begin 100 = .ok (.aload_n 0, 1) := by decide +kernel
theorem dX1_begin_101 : decode cX1_begin 101 = .ok (.getfield 16, 3) := by decide +kernel
theorem dX1_begin_104 : decode cX1_begin 104 = .ok (.iload_n 1, 1) := by decide +kernel
theorem dX1_begin_105 : decode cX1_begin 105 = .ok (.iaload, 1) := by decide +kernel
theorem dX1_begin_106 : decode cX1_begin 106 = .ok (.aload_n 0, 1) := by decide +kernel
theorem dX1_begin_107 : decode cX1_begin 107 = .ok (.getfield 19, 3) := by decide +kernel
theorem dX1_begin_110 : decode cX1_begin 110 = .ok (.iload_n 1, 1) := by decide +kernel
theorem dX1_begin_111 : decode cX1_begin 111 = .ok (.iaload, 1) := by decide +kernel
theorem dX1_begin_112 : decode cX1_begin 112 = .ok (.aload_n 0, 1) := by decide +kernel
theorem dX1_begin_113 : decode cX1_begin 113 = .ok (.getfield 22, 3) := by decide +kernel
theorem dX1_begin_116 : decode cX1_begin 116 = .ok (.iload_n 1, 1) := by decide +kernel
theorem dX1_begin_117 : decode cX1_begin 117 = .ok (.iaload, 1) := by decide +kernel
theorem dX1_begin_118 : decode cX1_begin 118 = .ok (.aload_n 0, 1) := by decide +kernel
theorem dX1_begin_119 : decode cX1_begin 119 = .ok (.getfield 25, 3) := by decide +kernel
theorem dX1_begin_122 : decode cX1_begin 122 = .ok (.iload_n 1, 1) := by decide +kernel
theorem dX1_begin_123 : decode cX1_begin 123 = .ok (.iaload, 1) := by decide +kernel
theorem dX1_begin_124 : decode cX1_begin 124 = .ok (.invokevirtual 69, 3) := by decide +kernel
theorem dX1_begin_127 : decode cX1_begin 127 = .ok (.iinc 1 1, 3) := by decide +kernel
theorem dX1_begin_130 : decode cX1_begin 130 = .ok (.goto (-39), 3) := by decide +kernel
theorem dX1_begin_133 : decode cX1_begin 133 = .ok (.return_, 1) := by decide +kernel
set_option maxRecDepth 20000 in
theorem ggX1_goOn_X1_bound : GoodIn wsX1_goOn wsX1_bound := goodIn_r _ [7, 2, 8, 9, 10, 11, 12, 13, 14, 15, 16, 17, 18, 19, 20, 21, 22, 23, 24, 25, 26, 27] (by decide +kernel) (by decide +kernel)
set_option maxRecDepth 20000 in
theorem gX1_goOn_X1_bound : GoodIn wsX1_goOn (wsV RX1 64 RX1 yX1_bound wsX1_bound) := goodIn_app (goodIn_of _ (by decide +kernel)) ggX1_goOn_X1_bound
theorem dX1_goOn_0 : decode cX1_goOn 0 = .ok (.iconst 0, 1) := by decide +kernel
theorem dX1_goOn_1 : decode cX1_goOn 1 = .ok (.istore_n 1, 1) := by decide +kernel
theorem dX1_goOn_2 : decode cX1_goOn 2 = .ok (.iload_n 1, 1) := by decide +kernel
theorem dX1_goOn_3 : decode cX1_goOn 3 = .ok (.aload_n 0, 1) := by decide +kernel
theorem dX1_goOn_4 : decode cX1_goOn 4 = .ok (.getfield 44, 3) := by decide +kernel
theorem dX1_goOn_7 : decode cX1_goOn 7 = .ok (.if_icmp .gt 70, 3) := by decide +kernel
theorem dX1_goOn_10 : decode cX1_goOn 10 = .ok (.iconst 0, 1) := by decide +kernel
theorem dX1_goOn_11 : decode cX1_goOn 11 = .ok (.istore_n 2, 1) := by decide +kernel
theorem dX1_goOn_12 : decode cX1_goOn 12 = .ok (.iload_n 2, 1) := by decide +kernel
theorem dX1_goOn_13 : decode cX1_goOn 13 = .ok (.aload_n 0, 1) := by decide +kernel
theorem dX1_goOn_14 : decode cX1_goOn 14 = .ok (.getfield 44, 3) := by decide +kernel
theorem dX1_goOn_17 : decode cX1_goOn 17 = .ok (.if_icmp .gt 54, 3) := by decide +kernel
theorem dX1_goOn_20 : decode cX1_goOn 20 = .ok (.iconst 0, 1) := by decide +kernel
theorem dX1_goOn_21 : decode cX1_goOn 21 = .ok (.istore_n 3, 1) := by decide +kernel
theorem dX1_goOn_22 : decode cX1_goOn 22 = .ok (.iload_n 3, 1) := by decide +kernel
theorem dX1_goOn_23 : decode cX1_goOn 23 = .ok (.aload_n 0, 1) := by decide +kernel
theorem dX1_goOn_24 : decode cX1_goOn 24 = .ok (.getfield 44, 3) := by decide +kernel
theorem dX1_goOn_27 : decode cX1_goOn 27 = .ok (.if_icmp .gt 38, 3) := by decide +kernel
theorem dX1_goOn_30 : decode cX1_goOn 30 = .ok (.aload_n 0, 1) := by decide +kernel
theorem dX1_goOn_31 : decode cX1_goOn 31 = .ok (.iload_n 2, 1) := by decide +kernel
theorem dX1_goOn_32 : decode cX1_goOn 32 = .ok (.iload_n 3, 1) := by decide +kernel
theorem dX1_goOn_33 : decode cX1_goOn 33 = .ok (.aload_n 0, 1) := by decide +kernel
theorem dX1_goOn_34 : decode cX1_goOn 34 = .ok (.getfield 32, 3) := by decide +kernel
theorem dX1_goOn_37 : decode cX1_goOn 37 = .ok (.bipush 13, 2) := by decide +kernel
theorem dX1_goOn_39 : decode cX1_goOn 39 = .ok (.iload_n 2, 1) := by decide +kernel
theorem dX1_goOn_40 : decode cX1_goOn 40 = .ok (.imul, 1) := by decide +kernel
theorem dX1_goOn_41 : decode cX1_goOn 41 = .ok (.iload_n 1, 1) := by decide +kernel
theorem dX1_goOn_42 : decode cX1_goOn 42 = .ok (.iadd, 1) := by decide +kernel
theorem dX1_goOn_43 : decode cX1_goOn 43 = .ok (.iaload, 1) := by decide +kernel
theorem dX1_goOn_44 : decode cX1_goOn 44 = .ok (.aload_n 0, 1) := by decide +kernel
theorem dX1_goOn_45 : decode cX1_goOn 45 = .ok (.getfield 32, 3) := by decide +kernel
theorem dX1_goOn_48 : decode cX1_goOn 48 = .ok (.bipush 13, 2) := by decide +kernel
theorem dX1_goOn_50 : decode cX1_goOn 50 = .ok (.iload_n 1, 1) := by decide +kernel
theorem dX1_goOn_51 : decode cX1_goOn 51 = .ok (.imul, 1) := by decide +kernel
theorem dX1_goOn_52 : decode cX1_goOn 52 = .ok (.iload_n 3, 1) := by decide +kernel
theorem dX1_goOn_53 : decode cX1_goOn 53 = .ok (.iadd, 1) := by decide +kernel
theorem dX1_goOn_54 : decode cX1_goOn 54 = .ok (.iaload, 1) := by decide +kernel
theorem dX1_goOn_55 : decode cX1_goOn 55 = .ok (.iadd, 1) := by decide +kernel
theorem dX1_goOn_56 : decode cX1_goOn 56 = .ok (.invokevirtual 64, 3) := by decide +kernel
theorem dX1_goOn_59 : decode cX1_goOn 59 = .ok (.iinc 3 1, 3) := by decide +kernel
theorem dX1_goOn_62 : decode cX1_goOn 62 = .ok (.goto (-40), 3) := by decide +kernel
theorem dX1_goOn_65 : decode cX1_goOn 65 = .ok (.iinc 2 1, 3) := by decide +kernel
theorem dX1_goOn_68 : decode cX1_goOn 68 = .ok (.goto (-56), 3) := by decide +kernel
theorem dX1_goOn_71 : decode cX1_goOn 71 = .ok (.iinc 1 1, 3) := by decide +kernel
theorem dX1_goOn_74 : decode cX1_goOn 74 = .ok (.goto (-72), 3) := by decide +kernel
theorem dX1_goOn_77 : decode cX1_goOn 77 = .ok (.return_, 1) := by decide +kernel
set_option maxRecDepth 20000 in
theorem ggX1_reckon_X1_begin : GoodIn wsX1_reckon wsX1_begin := goodIn_r _ [5, 6, 7, 8, 9, 10, 11, 12, 13, 14, 15, 16, 4, 17, 18, 19, 20, 21, 22, 23, 24, 25, 30, 31, 32, 33, 34, 35, 36, 37, 38, 39, 40, 41, 42, 43, 44, 45] (by decide +kernel) (by decide +kernel)
set_option maxRecDepth 20000 in
theorem gX1_reckon_X1_begin : GoodIn wsX1_reckon (wsV RX1 73 RX1 yX1_begin wsX1_begin) := goodIn_app (goodIn_of _ (by decide +kernel)) ggX1_reckon_X1_begin
set_option maxRecDepth 20000 in
theorem ggX1_reckon_X1_goOn : GoodIn wsX1_reckon wsX1_goOn := goodIn_r _ [29, 6, 7, 14, 15, 16, 4, 17, 18, 19, 20, 21, 30, 31, 32, 33, 34, 35, 36, 37, 38, 39, 40, 41, 42, 43, 44, 45] (by decide +kernel) (by decide +kernel)
set_option maxRecDepth 20000 in
theorem gX1_reckon_X1_goOn : GoodIn wsX1_reckon (wsV RX1 76 RX1 yX1_goOn wsX1_goOn) := goodIn_app (goodIn_of _ (by decide +kernel)) ggX1_reckon_X1_goOn
theorem dX1_reckon_0 : decode cX1_reckon 0 = .ok (.aload_n 0, 1) := by decide +kernel
theorem dX1_reckon_1 : decode cX1_reckon 1 = .ok (.invokevirtual 73, 3) := by decide +kernel
theorem dX1_reckon_4 : decode cX1_reckon 4 = .ok (.aload_n 0, 1) := by decide +kernel
theorem dX1_reckon_5 : decode cX1_reckon 5 = .ok (.invokevirtual 76, 3) := by decide +kernel
theorem dX1_reckon_8 : decode cX1_reckon 8 = .ok (.return_, 1) := by decide +kernel
theorem dX1_least_0 : decode cX1_least 0 = .ok (.aload_n 0, 1) := by decide +kernel
theorem dX1_least_1 : decode cX1_least 1 = .ok (.getfield 32, 3) := by decide +kernel
theorem dX1_least_4 : decode cX1_least 4 = .ok (.bipush 13, 2) := by decide +kernel
theorem dX1_least_6 : decode cX1_least 6 = .ok (.iload_n 2, 1) := by decide +kernel
theorem dX1_least_7 : decode cX1_least 7 = .ok (.iconst 1, 1) := by decide +kernel
theorem dX1_least_8 : decode cX1_least 8 = .ok (.iadd, 1) := by decide +kernel
theorem dX1_least_9 : decode cX1_least 9 = .ok (.imul, 1) := by decide +kernel
theorem dX1_least_10 : decode cX1_least 10 = .ok (.iload_n 1, 1) := by decide +kernel
theorem dX1_least_11 : decode cX1_least 11 = .ok (.iadd, 1) := by decide +kernel
theorem dX1_least_12 : decode cX1_least 12 = .ok (.iaload, 1) := by decide +kernel
theorem dX1_least_13 : decode cX1_least 13 = .ok (.ineg, 1) := by decide +kernel
theorem dX1_least_14 : decode cX1_least 14 = .ok (.ireturn, 1) := by decide +kernel
theorem dX1_greatest_0 : decode cX1_greatest 0 = .ok (.aload_n 0, 1) := by decide +kernel
theorem dX1_greatest_1 : decode cX1_greatest 1 = .ok (.getfield 32, 3) := by decide +kernel
theorem dX1_greatest_4 : decode cX1_greatest 4 = .ok (.bipush 13, 2) := by decide +kernel
theorem dX1_greatest_6 : decode cX1_greatest 6 = .ok (.iload_n 1, 1) := by decide +kernel
theorem dX1_greatest_7 : decode cX1_greatest 7 = .ok (.imul, 1) := by decide +kernel
theorem dX1_greatest_8 : decode cX1_greatest 8 = .ok (.iload_n 2, 1) := by decide +kernel
theorem dX1_greatest_9 : decode cX1_greatest 9 = .ok (.iadd, 1) := by decide +kernel
theorem dX1_greatest_10 : decode cX1_greatest 10 = .ok (.iconst 1, 1) := by decide +kernel
theorem dX1_greatest_11 : decode cX1_greatest 11 = .ok (.iadd, 1) := by decide +kernel
theorem dX1_greatest_12 : decode cX1_greatest 12 = .ok (.iaload, 1) := by decide +kernel
theorem dX1_greatest_13 : decode cX1_greatest 13 = .ok (.ireturn, 1) := by decide +kernel
set_option maxRecDepth 20000 in
theorem ggX1_allDoubt_X1_greatest : GoodIn wsX1_allDoubt wsX1_greatest := goodIn_r _ [6, 7, 12, 13, 14, 15, 16, 17, 18, 19, 20, 21, 22, 23, 24, 25, 26, 27] (by decide +kernel) (by decide +kernel)
set_option maxRecDepth 20000 in
theorem gX1_allDoubt_X1_greatest : GoodIn wsX1_allDoubt (wsV RX1 79 RX1 yX1_greatest wsX1_greatest) := goodIn_app (goodIn_of _ (by decide +kernel)) ggX1_allDoubt_X1_greatest
set_option maxRecDepth 20000 in
theorem ggX1_allDoubt_X1_least : GoodIn wsX1_allDoubt wsX1_least := goodIn_r _ [11, 7, 12, 13, 14, 15, 16, 17, 18, 19, 20, 21, 22, 23, 24, 25, 26, 27] (by decide +kernel) (by decide +kernel)
set_option maxRecDepth 20000 in
theorem gX1_allDoubt_X1_least : GoodIn wsX1_allDoubt (wsV RX1 82 RX1 yX1_least wsX1_least) := goodIn_app (goodIn_of _ (by decide +kernel)) ggX1_allDoubt_X1_least
theorem dX1_allDoubt_0 : decode cX1_allDoubt 0 = .ok (.iconst 0, 1) := by decide +kernel
theorem dX1_allDoubt_1 : decode cX1_allDoubt 1 = .ok (.istore_n 1, 1) := by decide +kernel
theorem dX1_allDoubt_2 : decode cX1_allDoubt 2 = .ok (.iconst 0, 1) := by decide +kernel
theorem dX1_allDoubt_3 : decode cX1_allDoubt 3 = .ok (.istore_n 2, 1) := by decide +kernel
theorem dX1_allDoubt_4 : decode cX1_allDoubt 4 = .ok (.iload_n 2, 1) := by decide +kernel
theorem dX1_allDoubt_5 : decode cX1_allDoubt 5 = .ok (.aload_n 0, 1) := by decide +kernel
theorem dX1_allDoubt_6 : decode cX1_allDoubt 6 = .ok (.getfield 44, 3) := by decide +kernel
theorem dX1_allDoubt_9 : decode cX1_allDoubt 9 = .ok (.if_icmp .ge 25, 3) := by decide +kernel
theorem dX1_allDoubt_12 : decode cX1_allDoubt 12 = .ok (.iload_n 1, 1) := by decide +kernel
theorem dX1_allDoubt_13 : decode cX1_allDoubt 13 = .ok (.aload_n 0, 1) := by decide +kernel
theorem dX1_allDoubt_14 : decode cX1_allDoubt 14 = .ok (.iload_n 2, 1) := by decide +kernel
theorem dX1_allDoubt_15 : decode cX1_allDoubt 15 = .ok (.iload_n 2, 1) := by decide +kernel
theorem dX1_allDoubt_16 : decode cX1_allDoubt 16 = .ok (.invokevirtual 79, 3) := by decide +kernel
theorem dX1_allDoubt_19 : decode cX1_allDoubt 19 = .ok (.aload_n 0, 1) := by decide +kernel
theorem dX1_allDoubt_20 : decode cX1_allDoubt 20 = .ok (.iload_n 2, 1) := by decide +kernel
theorem dX1_allDoubt_21 : decode cX1_allDoubt 21 = .ok (.iload_n 2, 1) := by decide +kernel
theorem dX1_allDoubt_22 : decode cX1_allDoubt 22 = .ok (.invokevirtual 82, 3) := by decide +kernel
theorem dX1_allDoubt_25 : decode cX1_allDoubt 25 = .ok (.isub, 1) := by decide +kernel
theorem dX1_allDoubt_26 : decode cX1_allDoubt 26 = .ok (.iadd, 1) := by decide +kernel
theorem dX1_allDoubt_27 : decode cX1_allDoubt 27 = .ok (.istore_n 1, 1) := by decide +kernel
theorem dX1_allDoubt_28 : decode cX1_allDoubt 28 = .ok (.iinc 2 1, 3) := by decide +kernel
theorem dX1_allDoubt_31 : decode cX1_allDoubt 31 = .ok (.goto (-27), 3) := by decide +kernel
theorem dX1_allDoubt_34 : decode cX1_allDoubt 34 = .ok (.iload_n 1, 1) := by decide +kernel
theorem dX1_allDoubt_35 : decode cX1_allDoubt 35 = .ok (.ireturn, 1) := by decide +kernel
theorem dX1_added_0 : decode cX1_added 0 = .ok (.iconst 0, 1) := by decide +kernel
theorem dX1_added_1 : decode cX1_added 1 = .ok (.istore_n 3, 1) := by decide +kernel
theorem dX1_added_2 : decode cX1_added 2 = .ok (.iload_n 1, 1) := by decide +kernel
theorem dX1_added_3 : decode cX1_added 3 = .ok (.istore 4, 2) := by decide +kernel
theorem dX1_added_5 : decode cX1_added 5 = .ok (.iload 4, 2) := by decide +kernel
theorem dX1_added_7 : decode cX1_added 7 = .ok (.iload_n 2, 1) := by decide +kernel
theorem dX1_added_8 : decode cX1_added 8 = .ok (.if_icmp .gt 19, 3) := by decide +kernel
theorem dX1_added_11 : decode cX1_added 11 = .ok (.iload_n 3, 1) := by decide +kernel
theorem dX1_added_12 : decode cX1_added 12 = .ok (.aload_n 0, 1) := by decide +kernel
theorem dX1_added_13 : decode cX1_added 13 = .ok (.getfield 13, 3) := by decide +kernel
theorem dX1_added_16 : decode cX1_added 16 = .ok (.iload 4, 2) := by decide +kernel
theorem dX1_added_18 : decode cX1_added 18 = .ok (.iaload, 1) := by decide +kernel
theorem dX1_added_19 : decode cX1_added 19 = .ok (.iadd, 1) := by decide +kernel
theorem dX1_added_20 : decode cX1_added 20 = .ok (.istore_n 3, 1) := by decide +kernel
theorem dX1_added_21 : decode cX1_added 21 = .ok (.iinc 4 1, 3) := by decide +kernel
theorem dX1_added_24 : decode cX1_added 24 = .ok (.goto (-19), 3) := by decide +kernel
theorem dX1_added_27 : decode cX1_added 27 = .ok (.iload_n 3, 1) := by decide +kernel
theorem dX1_added_28 : decode cX1_added 28 = .ok (.ireturn, 1) := by decide +kernel
set_option maxRecDepth 20000 in
theorem ggX1_behind_X1_begin : GoodIn wsX1_behind wsX1_begin := goodIn_r _ [5, 6, 7, 8, 9, 10, 11, 12, 13, 14, 15, 16, 4, 17, 18, 19, 20, 21, 22, 23, 24, 25, 47, 48, 49, 50, 51, 52, 53, 54, 55, 56, 57, 58, 59, 60, 61, 62] (by decide +kernel) (by decide +kernel)
set_option maxRecDepth 20000 in
theorem gX1_behind_X1_begin : GoodIn wsX1_behind (wsV RX1 73 RX1 yX1_begin wsX1_begin) := goodIn_app (goodIn_of _ (by decide +kernel)) ggX1_behind_X1_begin
set_option maxRecDepth 20000 in
theorem ggX1_behind_X1_added : GoodIn wsX1_behind wsX1_added := goodIn_r _ [29, 30, 47, 48, 49, 50, 51, 52, 53, 54, 55, 56, 57, 58, 59, 60, 61, 62] (by decide +kernel) (by decide +kernel)
set_option maxRecDepth 20000 in
theorem gX1_behind_X1_added : GoodIn wsX1_behind (wsV RX1 85 RX1 yX1_added wsX1_added) := goodIn_app (goodIn_of _ (by decide +kernel)) ggX1_behind_X1_added
set_option maxRecDepth 20000 in
theorem ggX1_behind_X1_tell : GoodIn wsX1_behind wsX1_tell := goodIn_r _ [25, 14, 15, 16, 4, 17, 7, 18, 19, 20, 21, 47, 48, 49, 50, 51, 52, 53, 54, 55, 56, 57, 58, 59, 60, 61, 62] (by decide +kernel) (by decide +kernel)
set_option maxRecDepth 20000 in
theorem gX1_behind_X1_tell : GoodIn wsX1_behind (wsV RX1 69 RX1 yX1_tell wsX1_tell) := goodIn_app (goodIn_of _ (by decide +kernel)) ggX1_behind_X1_tell
set_option maxRecDepth 20000 in
theorem ggX1_behind_X1_goOn : GoodIn wsX1_behind wsX1_goOn := goodIn_r _ [34, 6, 7, 14, 15, 16, 4, 17, 18, 19, 20, 21, 47, 48, 49, 50, 51, 52, 53, 54, 55, 56, 57, 58, 59, 60, 61, 62] (by decide +kernel) (by decide +kernel)
set_option maxRecDepth 20000 in
theorem gX1_behind_X1_goOn : GoodIn wsX1_behind (wsV RX1 76 RX1 yX1_goOn wsX1_goOn) := goodIn_app (goodIn_of _ (by decide +kernel)) ggX1_behind_X1_goOn
set_option maxRecDepth 20000 in
theorem ggX1_behind_X1_allDoubt : GoodIn wsX1_behind wsX1_allDoubt := goodIn_r _ [38, 6, 39, 40, 41, 4, 42, 7, 43, 44, 45, 46, 47, 48, 49, 50, 51, 52, 53, 54, 55, 56, 57, 58, 59, 60, 61, 62] (by decide +kernel) (by decide +kernel)
set_option maxRecDepth 20000 in
theorem gX1_behind_X1_allDoubt : GoodIn wsX1_behind (wsV RX1 88 RX1 yX1_allDoubt wsX1_allDoubt) := goodIn_app (goodIn_of _ (by decide +kernel)) ggX1_behind_X1_allDoubt
theorem dX1_behind_0 : decode cX1_behind 0 = .ok (.aload_n 0, 1) := by decide +kernel
theorem dX1_behind_1 : decode cX1_behind 1 = .ok (.invokevirtual 73, 3) := by decide +kernel
theorem dX1_behind_4 : decode cX1_behind 4 = .ok (.aload_n 0, 1) := by decide +kernel
theorem dX1_behind_5 : decode cX1_behind 5 = .ok (.iload_n 1, 1) := by decide +kernel
theorem dX1_behind_6 : decode cX1_behind 6 = .ok (.iload_n 2, 1) := by decide +kernel
theorem dX1_behind_7 : decode cX1_behind 7 = .ok (.aload_n 0, 1) := by decide +kernel
theorem dX1_behind_8 : decode cX1_behind 8 = .ok (.iload_n 1, 1) := by decide +kernel
theorem dX1_behind_9 : decode cX1_behind 9 = .ok (.iload_n 2, 1) := by decide +kernel
theorem dX1_behind_10 : decode cX1_behind 10 = .ok (.invokevirtual 85, 3) := by decide +kernel
theorem dX1_behind_13 : decode cX1_behind 13 = .ok (.iconst 0, 1) := by decide +kernel
theorem dX1_behind_14 : decode cX1_behind 14 = .ok (.invokevirtual 69, 3) := by decide +kernel
theorem dX1_behind_17 : decode cX1_behind 17 = .ok (.aload_n 0, 1) := by decide +kernel
theorem dX1_behind_18 : decode cX1_behind 18 = .ok (.invokevirtual 76, 3) := by decide +kernel
theorem dX1_behind_21 : decode cX1_behind 21 = .ok (.aload_n 0, 1) := by decide +kernel
theorem dX1_behind_22 : decode cX1_behind 22 = .ok (.invokevirtual 88, 3) := by decide +kernel
theorem dX1_behind_25 : decode cX1_behind 25 = .ok (.ireturn, 1) := by decide +kernel
set_option maxRecDepth 20000 in
theorem ggX1_fill_X1_isIn : GoodIn wsX1_fill wsX1_isIn := goodIn_r _ [8] (by decide +kernel) (by decide +kernel)
set_option maxRecDepth 20000 in
theorem gX1_fill_X1_isIn : GoodIn wsX1_fill (va_wsS RX1 47 yX1_isIn wsX1_isIn) := goodIn_app (goodIn_of _ (by decide +kernel)) ggX1_fill_X1_isIn
set_option maxRecDepth 20000 in
theorem ggX1_fill_X1_no : GoodIn wsX1_fill wsX1_no := goodIn_r _ [12, 1, 13, 14, 15, 16, 17, 18, 19, 20, 21, 22, 23, 24, 25, 26, 27, 28] (by decide +kernel) (by decide +kernel)
set_option maxRecDepth 20000 in
theorem gX1_fill_X1_no : GoodIn wsX1_fill (wsV RX1 92 RX1 yX1_no wsX1_no) := goodIn_app (goodIn_of _ (by decide +kernel)) ggX1_fill_X1_no
theorem dX1_fill_0 : decode cX1_fill 0 = .ok (.aload_n 0, 1) := by decide +kernel
theorem dX1_fill_1 : decode cX1_fill 1 = .ok (.iconst 0, 1) := by decide +kernel
theorem dX1_fill_2 : decode cX1_fill 2 = .ok (.putfield 41, 3) := by decide +kernel
theorem dX1_fill_5 : decode cX1_fill 5 = .ok (.iload_n 1, 1) := by decide +kernel
theorem dX1_fill_6 : decode cX1_fill 6 = .ok (.iconst 0, 1) := by decide +kernel
theorem dX1_fill_7 : decode cX1_fill 7 = .ok (.iconst 4, 1) := by decide +kernel
theorem dX1_fill_8 : decode cX1_fill 8 = .ok (.invokestatic 47, 3) := by decide +kernel
theorem dX1_fill_11 : decode cX1_fill 11 = .ok (.ifCond .eq 13, 3) := by decide +kernel
theorem dX1_fill_14 : decode cX1_fill 14 = .ok (.iload_n 2, 1) := by decide +kernel
theorem dX1_fill_15 : decode cX1_fill 15 = .ok (.iconst 0, 1) := by decide +kernel
theorem dX1_fill_16 : decode cX1_fill 16 = .ok (.bipush 40, 2) := by decide +kernel
theorem dX1_fill_18 : decode cX1_fill 18 = .ok (.invokestatic 47, 3) := by decide +kernel
theorem dX1_fill_21 : decode cX1_fill 21 = .ok (.ifCond .ne 9, 3) := by decide +kernel
theorem dX1_fill_24 : decode cX1_fill 24 = .ok (.aload_n 0, 1) := by decide +kernel
theorem dX1_fill_25 : decode cX1_fill 25 = .ok (.iconst 1, 1) := by decide +kernel
theorem dX1_fill_26 : decode cX1_fill 26 = .ok (.invokevirtual 92, 3) := by decide +kernel
theorem dX1_fill_29 : decode cX1_fill 29 = .ok (.ireturn, 1) := by decide +kernel
theorem dX1_fill_30 : decode cX1_fill 30 = .ok (.aload_n 0, 1) := by decide +kernel
theorem dX1_fill_31 : decode cX1_fill 31 = .ok (.getfield 44, 3) := by decide +kernel
theorem dX1_fill_34 : decode cX1_fill 34 = .ok (.bipush 12, 2) := by decide +kernel
theorem dX1_fill_36 : decode cX1_fill 36 = .ok (.if_icmp .ne 9, 3) := by decide +kernel
theorem dX1_fill_39 : decode cX1_fill 39 = .ok (.aload_n 0, 1) := by decide +kernel
theorem dX1_fill_40 : decode cX1_fill 40 = .ok (.iconst 2, 1) := by decide +kernel
theorem dX1_fill_41 : decode cX1_fill 41 = .ok (.invokevirtual 92, 3) := by decide +kernel
theorem dX1_fill_44 : decode cX1_fill 44 = .ok (.ireturn, 1) := by decide +kernel
theorem dX1_fill_45 : decode cX1_fill 45 = .ok (.aload_n 0, 1) := by decide +kernel
theorem dX1_fill_46 : decode cX1_fill 46 = .ok (.getfield 9, 3) := by decide +kernel
theorem dX1_fill_49 : decode cX1_fill 49 = .ok (.aload_n 0, 1) := by decide +kernel
theorem dX1_fill_50 : decode cX1_fill 50 = .ok (.getfield 44, 3) := by decide +kernel
theorem dX1_fill_53 : decode cX1_fill 53 = .ok (.iload_n 1, 1) := by decide +kernel
theorem dX1_fill_54 : decode cX1_fill 54 = .ok (.iastore, 1) := by decide +kernel
theorem dX1_fill_55 : decode cX1_fill 55 = .ok (.aload_n 0, 1) := by decide +kernel
theorem dX1_fill_56 : decode cX1_fill 56 = .ok (.getfield 13, 3) := by decide +kernel
theorem dX1_fill_59 : decode cX1_fill 59 = .ok (.aload_n 0, 1) := by decide +kernel
theorem dX1_fill_60 : decode cX1_fill 60 = .ok (.getfield 44, 3) := by decide +kernel
theorem dX1_fill_63 : decode cX1_fill 63 = .ok (.iload_n 2, 1) := by decide +kernel
theorem dX1_fill_64 : decode cX1_fill 64 = .ok (.iastore, 1) := by decide +kernel
theorem dX1_fill_65 : decode cX1_fill 65 = .ok (.aload_n 0, 1) := by decide +kernel
theorem dX1_fill_66 : decode cX1_fill 66 = .ok (.dup, 1) := by decide +kernel
theorem dX1_fill_67 : decode cX1_fill 67 = .ok (.getfield 44, 3) := by decide +kernel
theorem dX1_fill_70 : decode cX1_fill 70 = .ok (.iconst 1, 1) := by decide +kernel
theorem dX1_fill_71 : decode cX1_fill 71 = .ok (.iadd, 1) := by decide +kernel
theorem dX1_fill_72 : decode cX1_fill 72 = .ok (.putfield 44, 3) := by decide +kernel
theorem dX1_fill_75 : decode cX1_fill 75 = .ok (.aload_n 0, 1) := by decide +kernel
theorem dX1_fill_76 : decode cX1_fill 76 = .ok (.getfield 44, 3) := by decide +kernel
theorem dX1_fill_79 : decode cX1_fill 79 = .ok (.iconst 1, 1) := by decide +kernel
theorem dX1_fill_80 : decode cX1_fill 80 = .ok (.isub, 1) := by decide +kernel
theorem dX1_fill_81 : decode cX1_fill 81 = .ok (.ireturn, 1) := by decide +kernel
theorem dX1_drop_0 : decode cX1_drop 0 = .ok (.aload_n 0, 1) := by decide +kernel
theorem dX1_drop_1 : decode cX1_drop 1 = .ok (.dup, 1) := by decide +kernel
theorem dX1_drop_2 : decode cX1_drop 2 = .ok (.getfield 55, 3) := by decide +kernel
theorem dX1_drop_5 : decode cX1_drop 5 = .ok (.iconst 1, 1) := by decide +kernel
theorem dX1_drop_6 : decode cX1_drop 6 = .ok (.isub, 1) := by decide +kernel
theorem dX1_drop_7 : decode cX1_drop 7 = .ok (.putfield 55, 3) := by decide +kernel
theorem dX1_drop_10 : decode cX1_drop 10 = .ok (.iload_n 1, 1) := by decide +kernel
theorem dX1_drop_11 : decode cX1_drop 11 = .ok (.istore_n 2, 1) := by decide +kernel
theorem dX1_drop_12 : decode cX1_drop 12 = .ok (.iload_n 2, 1) := by decide +kernel
theorem dX1_drop_13 : decode cX1_drop 13 = .ok (.aload_n 0, 1) := by decide +kernel
theorem dX1_drop_14 : decode cX1_drop 14 = .ok (.getfield 55, 3) := by decide +kernel
theorem dX1_drop_17 : decode cX1_drop 17 = .ok (.if_icmp .ge 65, 3) := by decide +kernel
theorem dX1_drop_20 : decode cX1_drop 20 = .ok (.aload_n 0, 1) := by decide +kernel
theorem dX1_drop_21 : decode cX1_drop 21 = .ok (.getfield 16, 3) := by decide +kernel
theorem dX1_drop_24 : decode cX1_drop 24 = .ok (.iload_n 2, 1) := by decide +kernel
theorem dX1_drop_25 : decode cX1_drop 25 = .ok (.aload_n 0, 1) := by decide +kernel
theorem dX1_drop_26 : decode cX1_drop 26 = .ok (.getfield 16, 3) := by decide +kernel
theorem dX1_drop_29 : decode cX1_drop 29 = .ok (.iload_n 2, 1) := by decide +kernel
theorem dX1_drop_30 : decode cX1_drop 30 = .ok (.iconst 1, 1) := by decide +kernel
theorem dX1_drop_31 : decode cX1_drop 31 = .ok (.iadd, 1) := by decide +kernel
theorem dX1_drop_32 : decode cX1_drop 32 = .ok (.iaload, 1) := by decide +kernel
theorem dX1_drop_33 : decode cX1_drop 33 = .ok (.iastore, 1) := by decide +kernel
theorem dX1_drop_34 : decode cX1_drop 34 = .ok (.aload_n 0, 1) := by decide +kernel
theorem dX1_drop_35 : decode cX1_drop 35 = .ok (.getfield 19, 3) := by decide +kernel
theorem dX1_drop_38 : decode cX1_drop 38 = .ok (.iload_n 2, 1) := by decide +kernel
theorem dX1_drop_39 : decode cX1_drop 39 = .ok (.aload_n 0, 1) := by decide +kernel
theorem dX1_drop_40 : decode cX1_drop 40 = .ok (.getfield 19, 3) := by decide +kernel
theorem dX1_drop_43 : decode cX1_drop 43 = .ok (.iload_n 2, 1) := by decide +kernel
theorem dX1_drop_44 : decode cX1_drop 44 = .ok (.iconst 1, 1) := by decide +kernel
theorem dX1_drop_45 : decode cX1_drop 45 = .ok (.iadd, 1) := by decide +kernel
theorem dX1_drop_46 : decode cX1_drop 46 = .ok (.iaload, 1) := by decide +kernel
theorem dX1_drop_47 : decode cX1_drop 47 = .ok (.iastore, 1) := by decide +kernel
theorem dX1_drop_48 : decode cX1_drop 48 = .ok (.aload_n 0, 1) := by decide +kernel
theorem dX1_drop_49 : decode cX1_drop 49 = .ok (.getfield 22, 3) := by decide +kernel
theorem dX1_drop_52 : decode cX1_drop 52 = .ok (.iload_n 2, 1) := by decide +kernel
theorem dX1_drop_53 : decode cX1_drop 53 = .ok (.aload_n 0, 1) := by decide +kernel
theorem dX1_drop_54 : decode cX1_drop 54 = .ok (.getfield 22, 3) := by decide +kernel
theorem dX1_drop_57 : decode cX1_drop 57 = .ok (.iload_n 2, 1) := by decide +kernel
theorem dX1_drop_58 : decode cX1_drop 58 = .ok (.iconst 1, 1) := by decide +kernel
theorem dX1_drop_59 : decode cX1_drop 59 = .ok (.iadd, 1) := by decide +kernel
theorem dX1_drop_60 : decode cX1_drop 60 = .ok (.iaload, 1) := by decide +kernel
theorem dX1_drop_61 : decode cX1_drop 61 = .ok (.iastore, 1) := by decide +kernel
theorem dX1_drop_62 : decode cX1_drop 62 = .ok (.aload_n 0, 1) := by decide +kernel
theorem dX1_drop_63 : decode cX1_drop 63 = .ok (.getfield 25, 3) := by decide +kernel
theorem dX1_drop_66 : decode cX1_drop 66 = .ok (.iload_n 2, 1) := by decide +kernel
theorem dX1_drop_67 : decode cX1_drop 67 = .ok (.aload_n 0, 1) := by decide +kernel
theorem dX1_drop_68 : decode cX1_drop 68 = .ok (.getfield 25, 3) := by decide +kernel
theorem dX1_drop_71 : decode cX1_drop 71 = .ok (.iload_n 2, 1) := by decide +kernel
theorem dX1_drop_72 : decode cX1_drop 72 = .ok (.iconst 1, 1) := by decide +kernel
theorem dX1_drop_73 : decode cX1_drop 73 = .ok (.iadd, 1) := by decide +kernel
theorem dX1_drop_74 : decode cX1_drop 74 = .ok (.iaload, 1) := by decide +kernel
theorem dX1_drop_75 : decode cX1_drop 75 = .ok (.iastore, 1) := by decide +kernel
theorem dX1_drop_76 : decode cX1_drop 76 = .ok (.iinc 2 1, 3) := by decide +kernel
theorem dX1_drop_79 : decode cX1_drop 79 = .ok (.goto (-67), 3) := by decide +kernel
theorem dX1_drop_82 : decode cX1_drop 82 = .ok (.return_, 1) := by decide +kernel
theorem dX1_sink_0 : decode cX1_sink 0 = .ok (.iconst 0, 1) := by decide +kernel
theorem dX1_sink_1 : decode cX1_sink 1 = .ok (.istore_n 1, 1) := by decide +kernel
theorem dX1_sink_2 : decode cX1_sink 2 = .ok (.iload_n 1, 1) := by decide +kernel
theorem dX1_sink_3 : decode cX1_sink 3 = .ok (.iconst 1, 1) := by decide +kernel
theorem dX1_sink_4 : decode cX1_sink 4 = .ok (.iadd, 1) := by decide +kernel
theorem dX1_sink_5 : decode cX1_sink 5 = .ok (.aload_n 0, 1) := by decide +kernel
theorem dX1_sink_6 : decode cX1_sink 6 = .ok (.getfield 44, 3) := by decide +kernel
theorem dX1_sink_9 : decode cX1_sink 9 = .ok (.if_icmp .ge 37, 3) := by decide +kernel
theorem dX1_sink_12 : decode cX1_sink 12 = .ok (.aload_n 0, 1) := by decide +kernel
theorem dX1_sink_13 : decode cX1_sink 13 = .ok (.getfield 9, 3) := by decide +kernel
theorem dX1_sink_16 : decode cX1_sink 16 = .ok (.iload_n 1, 1) := by decide +kernel
theorem dX1_sink_17 : decode cX1_sink 17 = .ok (.aload_n 0, 1) := by decide +kernel
theorem dX1_sink_18 : decode cX1_sink 18 = .ok (.getfield 9, 3) := by decide +kernel
theorem dX1_sink_21 : decode cX1_sink 21 = .ok (.iload_n 1, 1) := by decide +kernel
theorem dX1_sink_22 : decode cX1_sink 22 = .ok (.iconst 1, 1) := by decide +kernel
theorem dX1_sink_23 : decode cX1_sink 23 = .ok (.iadd, 1) := by decide +kernel
theorem dX1_sink_24 : decode cX1_sink 24 = .ok (.iaload, 1) := by decide +kernel
theorem dX1_sink_25 : decode cX1_sink 25 = .ok (.iastore, 1) := by decide +kernel
theorem dX1_sink_26 : decode cX1_sink 26 = .ok (.aload_n 0, 1) := by decide +kernel
theorem dX1_sink_27 : decode cX1_sink 27 = .ok (.getfield 13, 3) := by decide +kernel
theorem dX1_sink_30 : decode cX1_sink 30 = .ok (.iload_n 1, 1) := by decide +kernel
theorem dX1_sink_31 : decode cX1_sink 31 = .ok (.aload_n 0, 1) := by decide +kernel
theorem dX1_sink_32 : decode cX1_sink 32 = .ok (.getfield 13, 3) := by decide +kernel
theorem dX1_sink_35 : decode cX1_sink 35 = .ok (.iload_n 1, 1) := by decide +kernel
theorem dX1_sink_36 : decode cX1_sink 36 = .ok (.iconst 1, 1) := by decide +kernel
theorem dX1_sink_37 : decode cX1_sink 37 = .ok (.iadd, 1) := by decide +kernel
theorem dX1_sink_38 : decode cX1_sink 38 = .ok (.iaload, 1) := by decide +kernel
theorem dX1_sink_39 : decode cX1_sink 39 = .ok (.iastore, 1) := by decide +kernel
theorem dX1_sink_40 : decode cX1_sink 40 = .ok (.iinc 1 1, 3) := by decide +kernel
theorem dX1_sink_43 : decode cX1_sink 43 = .ok (.goto (-41), 3) := by decide +kernel
theorem dX1_sink_46 : decode cX1_sink 46 = .ok (.iconst 0, 1) := by decide +kernel
theorem dX1_sink_47 : decode cX1_sink 47 = .ok (.istore_n 1, 1) := by decide +kernel
theorem dX1_sink_48 : decode cX1_sink 48 = .ok (.iload_n 1, 1) := by decide +kernel
theorem dX1_sink_49 : decode cX1_sink 49 = .ok (.aload_n 0, 1) := by decide +kernel
theorem dX1_sink_50 : decode cX1_sink 50 = .ok (.getfield 55, 3) := by decide +kernel
theorem dX1_sink_53 : decode cX1_sink 53 = .ok (.if_icmp .ge 38, 3) := by decide +kernel
theorem dX1_sink_56 : decode cX1_sink 56 = .ok (.aload_n 0, 1) := by decide +kernel
theorem dX1_sink_57 : decode cX1_sink 57 = .ok (.getfield 16, 3) := by decide +kernel
theorem dX1_sink_60 : decode cX1_sink 60 = .ok (.iload_n 1, 1) := by decide +kernel
theorem dX1_sink_61 : decode cX1_sink 61 = .ok (.iaload, 1) := by decide +kernel
theorem dX1_sink_62 : decode cX1_sink 62 = .ok (.ifCond .le 13, 3) := by decide +kernel
theorem dX1_sink_65 : decode cX1_sink 65 = .ok (.aload_n 0, 1) := by decide +kernel
theorem dX1_sink_66 : decode cX1_sink 66 = .ok (.getfield 16, 3) := by decide +kernel
theorem dX1_sink_69 : decode cX1_sink 69 = .ok (.iload_n 1, 1) := by decide +kernel
theorem dX1_sink_70 : decode cX1_sink 70 = .ok (.dup2, 1) := by decide +kernel
theorem dX1_sink_71 : decode cX1_sink 71 = .ok (.iaload, 1) := by decide +kernel
theorem dX1_sink_72 : decode cX1_sink 72 = .ok (.iconst 1, 1) := by decide +kernel
theorem dX1_sink_73 : decode cX1_sink 73 = .ok (.isub, 1) := by decide +kernel
theorem dX1_sink_74 : decode cX1_sink 74 = .ok (.iastore, 1) := by decide +kernel
theorem dX1_sink_75 : decode cX1_sink 75 = .ok (.aload_n 0, 1) := by decide +kernel
theorem dX1_sink_76 : decode cX1_sink 76 = .ok (.getfield 19, 3) := by decide +kernel
theorem dX1_sink_79 : decode cX1_sink 79 = .ok (.iload_n 1, 1) := by decide +kernel
theorem dX1_sink_80 : decode cX1_sink 80 = .ok (.dup2, 1) := by decide +kernel
theorem dX1_sink_81 : decode cX1_sink 81 = .ok (.iaload, 1) := by decide +kernel
theorem dX1_sink_82 : decode cX1_sink 82 = .ok (.iconst 1, 1) := by decide +kernel
theorem dX1_sink_83 : decode cX1_sink 83 = .ok (.isub, 1) := by decide +kernel
theorem dX1_sink_84 : decode cX1_sink 84 = .ok (.iastore, 1) := by decide +kernel
theorem dX1_sink_85 : decode cX1_sink 85 = .ok (.iinc 1 1, 3) := by decide +kernel
theorem dX1_sink_88 : decode cX1_sink 88 = .ok (.goto (-40), 3) := by decide +kernel
theorem dX1_sink_91 : decode cX1_sink 91 = .ok (.return_, 1) := by decide +kernel
set_option maxRecDepth 20000 in
theorem ggX1_out_X1_drop : GoodIn wsX1_out wsX1_drop := goodIn_r _ [14, 5, 6, 7, 8, 15, 21, 22, 23, 24, 25, 26, 27, 28, 29, 30, 31, 32, 33, 34, 35, 36] (by decide +kernel) (by decide +kernel)
set_option maxRecDepth 20000 in
theorem gX1_out_X1_drop : GoodIn wsX1_out (wsV RX1 102 RX1 yX1_drop wsX1_drop) := goodIn_app (goodIn_of _ (by decide +kernel)) ggX1_out_X1_drop
set_option maxRecDepth 20000 in
theorem ggX1_out_X1_sink : GoodIn wsX1_out wsX1_sink := goodIn_r _ [19, 9, 20, 1, 5, 6, 7, 21, 22, 23, 24, 25, 26, 27, 28, 29, 30, 31, 32, 33, 34, 35, 36] (by decide +kernel) (by decide +kernel)
set_option maxRecDepth 20000 in
theorem gX1_out_X1_sink : GoodIn wsX1_out (wsV RX1 106 RX1 yX1_sink wsX1_sink) := goodIn_app (goodIn_of _ (by decide +kernel)) ggX1_out_X1_sink
theorem dX1_out_0 : decode cX1_out 0 = .ok (.aload_n 0, 1) := by decide +kernel
theorem dX1_out_1 : decode cX1_out 1 = .ok (.getfield 13, 3) := by decide +kernel
theorem dX1_out_4 : decode cX1_out 4 = .ok (.iconst 0, 1) := by decide +kernel
theorem dX1_out_5 : decode cX1_out 5 = .ok (.iaload, 1) := by decide +kernel
theorem dX1_out_6 : decode cX1_out 6 = .ok (.istore_n 1, 1) := by decide +kernel
theorem dX1_out_7 : decode cX1_out 7 = .ok (.iload_n 1, 1) := by decide +kernel
theorem dX1_out_8 : decode cX1_out 8 = .ok (.aload_n 0, 1) := by decide +kernel
theorem dX1_out_9 : decode cX1_out 9 = .ok (.getfield 28, 3) := by decide +kernel
theorem dX1_out_12 : decode cX1_out 12 = .ok (.if_icmp .le 16, 3) := by decide +kernel
theorem dX1_out_15 : decode cX1_out 15 = .ok (.aload_n 0, 1) := by decide +kernel
theorem dX1_out_16 : decode cX1_out 16 = .ok (.dup, 1) := by decide +kernel
theorem dX1_out_17 : decode cX1_out 17 = .ok (.getfield 96, 3) := by decide +kernel
theorem dX1_out_20 : decode cX1_out 20 = .ok (.iconst 1, 1) := by decide +kernel
theorem dX1_out_21 : decode cX1_out 21 = .ok (.iadd, 1) := by decide +kernel
theorem dX1_out_22 : decode cX1_out 22 = .ok (.putfield 96, 3) := by decide +kernel
theorem dX1_out_25 : decode cX1_out 25 = .ok (.goto 13, 3) := by decide +kernel
theorem dX1_out_28 : decode cX1_out 28 = .ok (.aload_n 0, 1) := by decide +kernel
theorem dX1_out_29 : decode cX1_out 29 = .ok (.dup, 1) := by decide +kernel
theorem dX1_out_30 : decode cX1_out 30 = .ok (.getfield 99, 3) := by decide +kernel
theorem dX1_out_33 : decode cX1_out 33 = .ok (.iconst 1, 1) := by decide +kernel
theorem dX1_out_34 : decode cX1_out 34 = .ok (.iadd, 1) := by decide +kernel
theorem dX1_out_35 : decode cX1_out 35 = .ok (.putfield 99, 3) := by decide +kernel
theorem dX1_out_38 : decode cX1_out 38 = .ok (.aload_n 0, 1) := by decide +kernel
theorem dX1_out_39 : decode cX1_out 39 = .ok (.getfield 55, 3) := by decide +kernel
theorem dX1_out_42 : decode cX1_out 42 = .ok (.iconst 1, 1) := by decide +kernel
theorem dX1_out_43 : decode cX1_out 43 = .ok (.isub, 1) := by decide +kernel
theorem dX1_out_44 : decode cX1_out 44 = .ok (.istore_n 2, 1) := by decide +kernel
theorem dX1_out_45 : decode cX1_out 45 = .ok (.iload_n 2, 1) := by decide +kernel
theorem dX1_out_46 : decode cX1_out 46 = .ok (.ifCond .lt 48, 3) := by decide +kernel
theorem dX1_out_49 : decode cX1_out 49 = .ok (.aload_n 0, 1) := by decide +kernel
theorem dX1_out_50 : decode cX1_out 50 = .ok (.getfield 16, 3) := by decide +kernel
theorem dX1_out_53 : decode cX1_out 53 = .ok (.iload_n 2, 1) := by decide +kernel
theorem dX1_out_54 : decode cX1_out 54 = .ok (.iaload, 1) := by decide +kernel
theorem dX1_out_55 : decode cX1_out 55 = .ok (.ifCond .le 6, 3) := by decide +kernel
theorem dX1_out_58 : decode cX1_out 58 = .ok (.goto 30, 3) := by decide +kernel
theorem dX1_out_61 : decode cX1_out 61 = .ok (.aload_n 0, 1) := by decide +kernel
theorem dX1_out_62 : decode cX1_out 62 = .ok (.getfield 19, 3) := by decide +kernel
theorem dX1_out_65 : decode cX1_out 65 = .ok (.iload_n 2, 1) := by decide +kernel
theorem dX1_out_66 : decode cX1_out 66 = .ok (.iaload, 1) := by decide +kernel
theorem dX1_out_67 : decode cX1_out 67 = .ok (.ifCond .ne 11, 3) := by decide +kernel
theorem dX1_out_70 : decode cX1_out 70 = .ok (.aload_n 0, 1) := by decide +kernel
theorem dX1_out_71 : decode cX1_out 71 = .ok (.iload_n 2, 1) := by decide +kernel
theorem dX1_out_72 : decode cX1_out 72 = .ok (.invokevirtual 102, 3) := by decide +kernel
theorem dX1_out_75 : decode cX1_out 75 = .ok (.goto 13, 3) := by decide +kernel
theorem dX1_out_78 : decode cX1_out 78 = .ok (.aload_n 0, 1) := by decide +kernel
theorem dX1_out_79 : decode cX1_out 79 = .ok (.getfield 22, 3) := by decide +kernel
theorem dX1_out_82 : decode cX1_out 82 = .ok (.iload_n 2, 1) := by decide +kernel
theorem dX1_out_83 : decode cX1_out 83 = .ok (.dup2, 1) := by decide +kernel
theorem dX1_out_84 : decode cX1_out 84 = .ok (.iaload, 1) := by decide +kernel
theorem dX1_out_85 : decode cX1_out 85 = .ok (.iload_n 1, 1) := by decide +kernel
theorem dX1_out_86 : decode cX1_out 86 = .ok (.isub, 1) := by decide +kernel
theorem dX1_out_87 : decode cX1_out 87 = .ok (.iastore, 1) := by decide +kernel
theorem dX1_out_88 : decode cX1_out 88 = .ok (.iinc 2 (-1), 3) := by decide +kernel
theorem dX1_out_91 : decode cX1_out 91 = .ok (.goto (-46), 3) := by decide +kernel
theorem dX1_out_94 : decode cX1_out 94 = .ok (.aload_n 0, 1) := by decide +kernel
theorem dX1_out_95 : decode cX1_out 95 = .ok (.invokevirtual 106, 3) := by decide +kernel
theorem dX1_out_98 : decode cX1_out 98 = .ok (.aload_n 0, 1) := by decide +kernel
theorem dX1_out_99 : decode cX1_out 99 = .ok (.dup, 1) := by decide +kernel
theorem dX1_out_100 : decode cX1_out 100 = .ok (.getfield 44, 3) := by decide +kernel
theorem dX1_out_103 : decode cX1_out 103 = .ok (.iconst 1, 1) := by decide +kernel
theorem dX1_out_104 : decode cX1_out 104 = .ok (.isub, 1) := by decide +kernel
theorem dX1_out_105 : decode cX1_out 105 = .ok (.putfield 44, 3) := by decide +kernel
theorem dX1_out_108 : decode cX1_out 108 = .ok (.iload_n 1, 1) := by decide +kernel
theorem dX1_out_109 : decode cX1_out 109 = .ok (.ireturn, 1) := by decide +kernel
set_option maxRecDepth 20000 in
theorem ggX1_letOut_X1_no : GoodIn wsX1_letOut wsX1_no := goodIn_r _ [7, 1, 30, 31, 32, 33, 34, 35, 36, 37, 38, 39, 40, 41, 42, 43, 44, 45] (by decide +kernel) (by decide +kernel)
set_option maxRecDepth 20000 in
theorem gX1_letOut_X1_no : GoodIn wsX1_letOut (wsV RX1 92 RX1 yX1_no wsX1_no) := goodIn_app (goodIn_of _ (by decide +kernel)) ggX1_letOut_X1_no
set_option maxRecDepth 20000 in
theorem ggX1_letOut_X1_out : GoodIn wsX1_letOut wsX1_out := goodIn_r _ [11, 12, 13, 14, 15, 16, 17, 18, 19, 2, 20, 21, 22, 6, 23, 24, 25, 26, 27, 28, 29, 30, 31, 32, 33, 34, 35, 36, 37, 38, 39, 40, 41, 42, 43, 44, 45] (by decide +kernel) (by decide +kernel)
set_option maxRecDepth 20000 in
theorem gX1_letOut_X1_out : GoodIn wsX1_letOut (wsV RX1 109 RX1 yX1_out wsX1_out) := goodIn_app (goodIn_of _ (by decide +kernel)) ggX1_letOut_X1_out
theorem dX1_letOut_0 : decode cX1_letOut 0 = .ok (.aload_n 0, 1) := by decide +kernel
theorem dX1_letOut_1 : decode cX1_letOut 1 = .ok (.iconst 0, 1) := by decide +kernel
theorem dX1_letOut_2 : decode cX1_letOut 2 = .ok (.putfield 41, 3) := by decide +kernel
theorem dX1_letOut_5 : decode cX1_letOut 5 = .ok (.aload_n 0, 1) := by decide +kernel
theorem dX1_letOut_6 : decode cX1_letOut 6 = .ok (.getfield 44, 3) := by decide +kernel
theorem dX1_letOut_9 : decode cX1_letOut 9 = .ok (.ifCond .ne 11, 3) := by decide +kernel
theorem dX1_letOut_12 : decode cX1_letOut 12 = .ok (.aload_n 0, 1) := by decide +kernel
theorem dX1_letOut_13 : decode cX1_letOut 13 = .ok (.iconst 1, 1) := by decide +kernel
theorem dX1_letOut_14 : decode cX1_letOut 14 = .ok (.invokevirtual 92, 3) := by decide +kernel
theorem dX1_letOut_17 : decode cX1_letOut 17 = .ok (.goto 7, 3) := by decide +kernel
theorem dX1_letOut_20 : decode cX1_letOut 20 = .ok (.aload_n 0, 1) := by decide +kernel
theorem dX1_letOut_21 : decode cX1_letOut 21 = .ok (.invokevirtual 109, 3) := by decide +kernel
theorem dX1_letOut_24 : decode cX1_letOut 24 = .ok (.ireturn, 1) := by decide +kernel
set_option maxRecDepth 20000 in
theorem ggX1_turnOver_X1_no : GoodIn wsX1_turnOver wsX1_no := goodIn_r _ [11, 1, 23, 24, 25, 26, 27, 28, 29, 30, 31, 32, 33, 34, 35, 36, 37, 38] (by decide +kernel) (by decide +kernel)
set_option maxRecDepth 20000 in
theorem gX1_turnOver_X1_no : GoodIn wsX1_turnOver (wsV RX1 92 RX1 yX1_no wsX1_no) := goodIn_app (goodIn_of _ (by decide +kernel)) ggX1_turnOver_X1_no
set_option maxRecDepth 20000 in
theorem ggX1_turnOver_X1_drop : GoodIn wsX1_turnOver wsX1_drop := goodIn_r _ [15, 5, 6, 16, 17, 18, 23, 24, 25, 26, 27, 28, 29, 30, 31, 32, 33, 34, 35, 36, 37, 38] (by decide +kernel) (by decide +kernel)
set_option maxRecDepth 20000 in
theorem gX1_turnOver_X1_drop : GoodIn wsX1_turnOver (wsV RX1 102 RX1 yX1_drop wsX1_drop) := goodIn_app (goodIn_of _ (by decide +kernel)) ggX1_turnOver_X1_drop
set_option maxRecDepth 20000 in
theorem ggX1_turnOver_X1_sink : GoodIn wsX1_turnOver wsX1_sink := goodIn_r _ [22, 2, 4, 3, 5, 6, 16, 23, 24, 25, 26, 27, 28, 29, 30, 31, 32, 33, 34, 35, 36, 37, 38] (by decide +kernel) (by decide +kernel)
set_option maxRecDepth 20000 in
theorem gX1_turnOver_X1_sink : GoodIn wsX1_turnOver (wsV RX1 106 RX1 yX1_sink wsX1_sink) := goodIn_app (goodIn_of _ (by decide +kernel)) ggX1_turnOver_X1_sink
theorem dX1_turnOver_0 : decode cX1_turnOver 0 = .ok (.aload_n 0, 1) := by decide +kernel
theorem dX1_turnOver_1 : decode cX1_turnOver 1 = .ok (.iconst 0, 1) := by decide +kernel
theorem dX1_turnOver_2 : decode cX1_turnOver 2 = .ok (.putfield 41, 3) := by decide +kernel
theorem dX1_turnOver_5 : decode cX1_turnOver 5 = .ok (.aload_n 0, 1) := by decide +kernel
theorem dX1_turnOver_6 : decode cX1_turnOver 6 = .ok (.getfield 44, 3) := by decide +kernel
theorem dX1_turnOver_9 : decode cX1_turnOver 9 = .ok (.iconst 2, 1) := by decide +kernel
theorem dX1_turnOver_10 : decode cX1_turnOver 10 = .ok (.if_icmp .ge 9, 3) := by decide +kernel
theorem dX1_turnOver_13 : decode cX1_turnOver 13 = .ok (.aload_n 0, 1) := by decide +kernel
theorem dX1_turnOver_14 : decode cX1_turnOver 14 = .ok (.iconst 1, 1) := by decide +kernel
theorem dX1_turnOver_15 : decode cX1_turnOver 15 = .ok (.invokevirtual 92, 3) := by decide +kernel
theorem dX1_turnOver_18 : decode cX1_turnOver 18 = .ok (.ireturn, 1) := by decide +kernel
theorem dX1_turnOver_19 : decode cX1_turnOver 19 = .ok (.aload_n 0, 1) := by decide +kernel
theorem dX1_turnOver_20 : decode cX1_turnOver 20 = .ok (.getfield 13, 3) := by decide +kernel
theorem dX1_turnOver_23 : decode cX1_turnOver 23 = .ok (.iconst 0, 1) := by decide +kernel
theorem dX1_turnOver_24 : decode cX1_turnOver 24 = .ok (.iaload, 1) := by decide +kernel
theorem dX1_turnOver_25 : decode cX1_turnOver 25 = .ok (.istore_n 1, 1) := by decide +kernel
theorem dX1_turnOver_26 : decode cX1_turnOver 26 = .ok (.aload_n 0, 1) := by decide +kernel
theorem dX1_turnOver_27 : decode cX1_turnOver 27 = .ok (.getfield 9, 3) := by decide +kernel
theorem dX1_turnOver_30 : decode cX1_turnOver 30 = .ok (.iconst 0, 1) := by decide +kernel
theorem dX1_turnOver_31 : decode cX1_turnOver 31 = .ok (.iaload, 1) := by decide +kernel
theorem dX1_turnOver_32 : decode cX1_turnOver 32 = .ok (.istore_n 2, 1) := by decide +kernel
theorem dX1_turnOver_33 : decode cX1_turnOver 33 = .ok (.aload_n 0, 1) := by decide +kernel
theorem dX1_turnOver_34 : decode cX1_turnOver 34 = .ok (.getfield 55, 3) := by decide +kernel
theorem dX1_turnOver_37 : decode cX1_turnOver 37 = .ok (.istore_n 3, 1) := by decide +kernel
theorem dX1_turnOver_38 : decode cX1_turnOver 38 = .ok (.aload_n 0, 1) := by decide +kernel
theorem dX1_turnOver_39 : decode cX1_turnOver 39 = .ok (.getfield 55, 3) := by decide +kernel
theorem dX1_turnOver_42 : decode cX1_turnOver 42 = .ok (.iconst 1, 1) := by decide +kernel
theorem dX1_turnOver_43 : decode cX1_turnOver 43 = .ok (.isub, 1) := by decide +kernel
theorem dX1_turnOver_44 : decode cX1_turnOver 44 = .ok (.istore 4, 2) := by decide +kernel
theorem dX1_turnOver_46 : decode cX1_turnOver 46 = .ok (.iload 4, 2) := by decide +kernel
theorem dX1_turnOver_48 : decode cX1_turnOver 48 = .ok (.ifCond .lt 25, 3) := by decide +kernel
theorem dX1_turnOver_51 : decode cX1_turnOver 51 = .ok (.aload_n 0, 1) := by decide +kernel
theorem dX1_turnOver_52 : decode cX1_turnOver 52 = .ok (.getfield 16, 3) := by decide +kernel
theorem dX1_turnOver_55 : decode cX1_turnOver 55 = .ok (.iload 4, 2) := by decide +kernel
theorem dX1_turnOver_57 : decode cX1_turnOver 57 = .ok (.iaload, 1) := by decide +kernel
theorem dX1_turnOver_58 : decode cX1_turnOver 58 = .ok (.ifCond .ne 9, 3) := by decide +kernel
theorem dX1_turnOver_61 : decode cX1_turnOver 61 = .ok (.aload_n 0, 1) := by decide +kernel
theorem dX1_turnOver_62 : decode cX1_turnOver 62 = .ok (.iload 4, 2) := by decide +kernel
theorem dX1_turnOver_64 : decode cX1_turnOver 64 = .ok (.invokevirtual 102, 3) := by decide +kernel
theorem dX1_turnOver_67 : decode cX1_turnOver 67 = .ok (.iinc 4 (-1), 3) := by decide +kernel
theorem dX1_turnOver_70 : decode cX1_turnOver 70 = .ok (.goto (-24), 3) := by decide +kernel
theorem dX1_turnOver_73 : decode cX1_turnOver 73 = .ok (.aload_n 0, 1) := by decide +kernel
theorem dX1_turnOver_74 : decode cX1_turnOver 74 = .ok (.invokevirtual 106, 3) := by decide +kernel
theorem dX1_turnOver_77 : decode cX1_turnOver 77 = .ok (.aload_n 0, 1) := by decide +kernel
theorem dX1_turnOver_78 : decode cX1_turnOver 78 = .ok (.getfield 13, 3) := by decide +kernel
theorem dX1_turnOver_81 : decode cX1_turnOver 81 = .ok (.aload_n 0, 1) := by decide +kernel
theorem dX1_turnOver_82 : decode cX1_turnOver 82 = .ok (.getfield 44, 3) := by decide +kernel
theorem dX1_turnOver_85 : decode cX1_turnOver 85 = .ok (.iconst 1, 1) := by decide +kernel
theorem dX1_turnOver_86 : decode cX1_turnOver 86 = .ok (.isub, 1) := by decide +kernel
theorem dX1_turnOver_87 : decode cX1_turnOver 87 = .ok (.iload_n 1, 1) := by decide +kernel
theorem dX1_turnOver_88 : decode cX1_turnOver 88 = .ok (.iastore, 1) := by decide +kernel
theorem dX1_turnOver_89 : decode cX1_turnOver 89 = .ok (.aload_n 0, 1) := by decide +kernel
theorem dX1_turnOver_90 : decode cX1_turnOver 90 = .ok (.getfield 9, 3) := by decide +kernel
theorem dX1_turnOver_93 : decode cX1_turnOver 93 = .ok (.aload_n 0, 1) := by decide +kernel
theorem dX1_turnOver_94 : decode cX1_turnOver 94 = .ok (.getfield 44, 3) := by decide +kernel
theorem dX1_turnOver_97 : decode cX1_turnOver 97 = .ok (.iconst 1, 1) := by decide +kernel
theorem dX1_turnOver_98 : decode cX1_turnOver 98 = .ok (.isub, 1) := by decide +kernel
theorem dX1_turnOver_99 : decode cX1_turnOver 99 = .ok (.iload_n 2, 1) := by decide +kernel
theorem dX1_turnOver_100 : decode cX1_turnOver 100 = .ok (.iastore, 1) := by decide +kernel
theorem dX1_turnOver_101 : decode cX1_turnOver 101 = .ok (.iload_n 3, 1) := by decide +kernel
theorem dX1_turnOver_102 : decode cX1_turnOver 102 = .ok (.aload_n 0, 1) := by decide +kernel
theorem dX1_turnOver_103 : decode cX1_turnOver 103 = .ok (.getfield 55, 3) := by decide +kernel
theorem dX1_turnOver_106 : decode cX1_turnOver 106 = .ok (.isub, 1) := by decide +kernel
theorem dX1_turnOver_107 : decode cX1_turnOver 107 = .ok (.ireturn, 1) := by decide +kernel
set_option maxRecDepth 20000 in
theorem ggX1_setLimit_X1_isIn : GoodIn wsX1_setLimit wsX1_isIn := goodIn_r _ [6] (by decide +kernel) (by decide +kernel)
set_option maxRecDepth 20000 in
theorem gX1_setLimit_X1_isIn : GoodIn wsX1_setLimit (va_wsS RX1 47 yX1_isIn wsX1_isIn) := goodIn_app (goodIn_of _ (by decide +kernel)) ggX1_setLimit_X1_isIn
set_option maxRecDepth 20000 in
theorem ggX1_setLimit_X1_no : GoodIn wsX1_setLimit wsX1_no := goodIn_r _ [10, 1, 11, 12, 13, 14, 15, 16, 17, 18, 19, 20, 21, 22, 23, 24, 25, 26] (by decide +kernel) (by decide +kernel)
set_option maxRecDepth 20000 in
theorem gX1_setLimit_X1_no : GoodIn wsX1_setLimit (wsV RX1 92 RX1 yX1_no wsX1_no) := goodIn_app (goodIn_of _ (by decide +kernel)) ggX1_setLimit_X1_no
theorem dX1_setLimit_0 : decode cX1_setLimit 0 = .ok (.aload_n 0, 1) := by decide +kernel
theorem dX1_setLimit_1 : decode cX1_setLimit 1 = .ok (.iconst 0, 1) := by decide +kernel
theorem dX1_setLimit_2 : decode cX1_setLimit 2 = .ok (.putfield 41, 3) := by decide +kernel
theorem dX1_setLimit_5 : decode cX1_setLimit 5 = .ok (.iload_n 1, 1) := by decide +kernel
theorem dX1_setLimit_6 : decode cX1_setLimit 6 = .ok (.iconst 0, 1) := by decide +kernel
theorem dX1_setLimit_7 : decode cX1_setLimit 7 = .ok (.bipush 40, 2) := by decide +kernel
theorem dX1_setLimit_9 : decode cX1_setLimit 9 = .ok (.invokestatic 47, 3) := by decide +kernel
theorem dX1_setLimit_12 : decode cX1_setLimit 12 = .ok (.ifCond .ne 9, 3) := by decide +kernel
theorem dX1_setLimit_15 : decode cX1_setLimit 15 = .ok (.aload_n 0, 1) := by decide +kernel
theorem dX1_setLimit_16 : decode cX1_setLimit 16 = .ok (.iconst 1, 1) := by decide +kernel
theorem dX1_setLimit_17 : decode cX1_setLimit 17 = .ok (.invokevirtual 92, 3) := by decide +kernel
theorem dX1_setLimit_20 : decode cX1_setLimit 20 = .ok (.ireturn, 1) := by decide +kernel
theorem dX1_setLimit_21 : decode cX1_setLimit 21 = .ok (.aload_n 0, 1) := by decide +kernel
theorem dX1_setLimit_22 : decode cX1_setLimit 22 = .ok (.getfield 28, 3) := by decide +kernel
theorem dX1_setLimit_25 : decode cX1_setLimit 25 = .ok (.istore_n 2, 1) := by decide +kernel
theorem dX1_setLimit_26 : decode cX1_setLimit 26 = .ok (.aload_n 0, 1) := by decide +kernel
theorem dX1_setLimit_27 : decode cX1_setLimit 27 = .ok (.iload_n 1, 1) := by decide +kernel
theorem dX1_setLimit_28 : decode cX1_setLimit 28 = .ok (.putfield 28, 3) := by decide +kernel
theorem dX1_setLimit_31 : decode cX1_setLimit 31 = .ok (.iload_n 2, 1) := by decide +kernel
theorem dX1_setLimit_32 : decode cX1_setLimit 32 = .ok (.ireturn, 1) := by decide +kernel
set_option maxRecDepth 20000 in
theorem ggX1_towards_X1_isLayer : GoodIn wsX1_towards wsX1_isLayer := goodIn_r _ [6, 7, 8, 9, 5, 10, 11, 12, 13, 14, 15, 16, 17, 18, 19, 20, 21, 22, 23, 24, 25, 26] (by decide +kernel) (by decide +kernel)
set_option maxRecDepth 20000 in
theorem gX1_towards_X1_isLayer : GoodIn wsX1_towards (wsV RX1 51 RX1 yX1_isLayer wsX1_isLayer) := goodIn_app (goodIn_of _ (by decide +kernel)) ggX1_towards_X1_isLayer
theorem dX1_towards_0 : decode cX1_towards 0 = .ok (.aload_n 0, 1) := by decide +kernel
theorem dX1_towards_1 : decode cX1_towards 1 = .ok (.iload_n 2, 1) := by decide +kernel
theorem dX1_towards_2 : decode cX1_towards 2 = .ok (.invokevirtual 51, 3) := by decide +kernel
theorem dX1_towards_5 : decode cX1_towards 5 = .ok (.ifCond .ne 5, 3) := by decide +kernel
theorem dX1_towards_8 : decode cX1_towards 8 = .ok (.iconst 0, 1) := by decide +kernel
theorem dX1_towards_9 : decode cX1_towards 9 = .ok (.ireturn, 1) := by decide +kernel
theorem dX1_towards_10 : decode cX1_towards 10 = .ok (.aload_n 0, 1) := by decide +kernel
theorem dX1_towards_11 : decode cX1_towards 11 = .ok (.getfield 13, 3) := by decide +kernel
theorem dX1_towards_14 : decode cX1_towards 14 = .ok (.iload_n 2, 1) := by decide +kernel
theorem dX1_towards_15 : decode cX1_towards 15 = .ok (.iaload, 1) := by decide +kernel
theorem dX1_towards_16 : decode cX1_towards 16 = .ok (.aload_n 0, 1) := by decide +kernel
theorem dX1_towards_17 : decode cX1_towards 17 = .ok (.getfield 13, 3) := by decide +kernel
theorem dX1_towards_20 : decode cX1_towards 20 = .ok (.iload_n 1, 1) := by decide +kernel
theorem dX1_towards_21 : decode cX1_towards 21 = .ok (.iaload, 1) := by decide +kernel
theorem dX1_towards_22 : decode cX1_towards 22 = .ok (.isub, 1) := by decide +kernel
theorem dX1_towards_23 : decode cX1_towards 23 = .ok (.istore_n 3, 1) := by decide +kernel
theorem dX1_towards_24 : decode cX1_towards 24 = .ok (.iload_n 3, 1) := by decide +kernel
theorem dX1_towards_25 : decode cX1_towards 25 = .ok (.iconst 2, 1) := by decide +kernel
theorem dX1_towards_26 : decode cX1_towards 26 = .ok (.if_icmp .lt 7, 3) := by decide +kernel
theorem dX1_towards_29 : decode cX1_towards 29 = .ok (.iconst 1, 1) := by decide +kernel
theorem dX1_towards_30 : decode cX1_towards 30 = .ok (.goto 14, 3) := by decide +kernel
theorem dX1_towards_33 : decode cX1_towards 33 = .ok (.iload_n 3, 1) := by decide +kernel
theorem dX1_towards_34 : decode cX1_towards 34 = .ok (.bipush (-2), 2) := by decide +kernel
theorem dX1_towards_36 : decode cX1_towards 36 = .ok (.if_icmp .gt 7, 3) := by decide +kernel
theorem dX1_towards_39 : decode cX1_towards 39 = .ok (.iconst (-1), 1) := by decide +kernel
theorem dX1_towards_40 : decode cX1_towards 40 = .ok (.goto 4, 3) := by decide +kernel
theorem dX1_towards_43 : decode cX1_towards 43 = .ok (.iconst 0, 1) := by decide +kernel
theorem dX1_towards_44 : decode cX1_towards 44 = .ok (.ireturn, 1) := by decide +kernel
set_option maxRecDepth 20000 in
theorem ggX1_evenOut_X1_towards : GoodIn wsX1_evenOut wsX1_towards := goodIn_r _ [8, 3, 9, 10, 11, 7, 12, 1, 13, 14, 15, 20, 21, 22, 23, 24, 25, 26, 27, 28, 29, 30, 31, 32, 33, 34, 35] (by decide +kernel) (by decide +kernel)
set_option maxRecDepth 20000 in
theorem gX1_evenOut_X1_towards : GoodIn wsX1_evenOut (wsV RX1 112 RX1 yX1_towards wsX1_towards) := goodIn_app (goodIn_of _ (by decide +kernel)) ggX1_evenOut_X1_towards
set_option maxRecDepth 20000 in
theorem ggX1_evenOut_J6_signum_0f7a4 : GoodIn wsX1_evenOut wsJ6_signum_0f7a4 := goodIn_r _ [19] (by decide +kernel) (by decide +kernel)
set_option maxRecDepth 20000 in
theorem gX1_evenOut_J6_signum_0f7a4 : GoodIn wsX1_evenOut (va_wsS RX1 115 yJ6_signum_0f7a4 wsJ6_signum_0f7a4) := goodIn_app (goodIn_of _ (by decide +kernel)) ggX1_evenOut_J6_signum_0f7a4
theorem dX1_evenOut_0 : decode cX1_evenOut 0 = .ok (.iconst 0, 1) := by decide +kernel
theorem dX1_evenOut_1 : decode cX1_evenOut 1 = .ok (.istore_n 1, 1) := by decide +kernel
theorem dX1_evenOut_2 : decode cX1_evenOut 2 = .ok (.iconst 0, 1) := by decide +kernel
theorem dX1_evenOut_3 : decode cX1_evenOut 3 = .ok (.istore_n 2, 1) := by decide +kernel
theorem dX1_evenOut_4 : decode cX1_evenOut 4 = .ok (.iload_n 2, 1) := by decide +kernel
theorem dX1_evenOut_5 : decode cX1_evenOut 5 = .ok (.aload_n 0, 1) := by decide +kernel
theorem dX1_evenOut_6 : decode cX1_evenOut 6 = .ok (.getfield 44, 3) := by decide +kernel
theorem dX1_evenOut_9 : decode cX1_evenOut 9 = .ok (.if_icmp .ge 35, 3) := by decide +kernel
theorem dX1_evenOut_12 : decode cX1_evenOut 12 = .ok (.aload_n 0, 1) := by decide +kernel
theorem dX1_evenOut_13 : decode cX1_evenOut 13 = .ok (.getfield 38, 3) := by decide +kernel
theorem dX1_evenOut_16 : decode cX1_evenOut 16 = .ok (.iload_n 2, 1) := by decide +kernel
theorem dX1_evenOut_17 : decode cX1_evenOut 17 = .ok (.aload_n 0, 1) := by decide +kernel
theorem dX1_evenOut_18 : decode cX1_evenOut 18 = .ok (.iload_n 2, 1) := by decide +kernel
theorem dX1_evenOut_19 : decode cX1_evenOut 19 = .ok (.iload_n 2, 1) := by decide +kernel
theorem dX1_evenOut_20 : decode cX1_evenOut 20 = .ok (.iconst 1, 1) := by decide +kernel
theorem dX1_evenOut_21 : decode cX1_evenOut 21 = .ok (.isub, 1) := by decide +kernel
theorem dX1_evenOut_22 : decode cX1_evenOut 22 = .ok (.invokevirtual 112, 3) := by decide +kernel
theorem dX1_evenOut_25 : decode cX1_evenOut 25 = .ok (.aload_n 0, 1) := by decide +kernel
theorem dX1_evenOut_26 : decode cX1_evenOut 26 = .ok (.iload_n 2, 1) := by decide +kernel
theorem dX1_evenOut_27 : decode cX1_evenOut 27 = .ok (.iload_n 2, 1) := by decide +kernel
theorem dX1_evenOut_28 : decode cX1_evenOut 28 = .ok (.iconst 1, 1) := by decide +kernel
theorem dX1_evenOut_29 : decode cX1_evenOut 29 = .ok (.iadd, 1) := by decide +kernel
theorem dX1_evenOut_30 : decode cX1_evenOut 30 = .ok (.invokevirtual 112, 3) := by decide +kernel
theorem dX1_evenOut_33 : decode cX1_evenOut 33 = .ok (.iadd, 1) := by decide +kernel
theorem dX1_evenOut_34 : decode cX1_evenOut 34 = .ok (.invokestatic 115, 3) := by decide +kernel
theorem dX1_evenOut_37 : decode cX1_evenOut 37 = .ok (.iastore, 1) := by decide +kernel
theorem dX1_evenOut_38 : decode cX1_evenOut 38 = .ok (.iinc 2 1, 3) := by decide +kernel
theorem dX1_evenOut_41 : decode cX1_evenOut 41 = .ok (.goto (-37), 3) := by decide +kernel
theorem dX1_evenOut_44 : decode cX1_evenOut 44 = .ok (.iconst 0, 1) := by decide +kernel
theorem dX1_evenOut_45 : decode cX1_evenOut 45 = .ok (.istore_n 2, 1) := by decide +kernel
theorem dX1_evenOut_46 : decode cX1_evenOut 46 = .ok (.iload_n 2, 1) := by decide +kernel
theorem dX1_evenOut_47 : decode cX1_evenOut 47 = .ok (.aload_n 0, 1) := by decide +kernel
theorem dX1_evenOut_48 : decode cX1_evenOut 48 = .ok (.getfield 44, 3) := by decide +kernel
theorem dX1_evenOut_51 : decode cX1_evenOut 51 = .ok (.if_icmp .ge 41, 3) := by decide +kernel
theorem dX1_evenOut_54 : decode cX1_evenOut 54 = .ok (.aload_n 0, 1) := by decide +kernel
theorem dX1_evenOut_55 : decode cX1_evenOut 55 = .ok (.getfield 13, 3) := by decide +kernel
theorem dX1_evenOut_58 : decode cX1_evenOut 58 = .ok (.iload_n 2, 1) := by decide +kernel
theorem dX1_evenOut_59 : decode cX1_evenOut 59 = .ok (.dup2, 1) := by decide +kernel
theorem dX1_evenOut_60 : decode cX1_evenOut 60 = .ok (.iaload, 1) := by decide +kernel
theorem dX1_evenOut_61 : decode cX1_evenOut 61 = .ok (.aload_n 0, 1) := by decide +kernel
theorem dX1_evenOut_62 : decode cX1_evenOut 62 = .ok (.getfield 38, 3) := by decide +kernel
theorem dX1_evenOut_65 : decode cX1_evenOut 65 = .ok (.iload_n 2, 1) := by decide +kernel
theorem dX1_evenOut_66 : decode cX1_evenOut 66 = .ok (.iaload, 1) := by decide +kernel
theorem dX1_evenOut_67 : decode cX1_evenOut 67 = .ok (.iadd, 1) := by decide +kernel
theorem dX1_evenOut_68 : decode cX1_evenOut 68 = .ok (.iastore, 1) := by decide +kernel
theorem dX1_evenOut_69 : decode cX1_evenOut 69 = .ok (.iload_n 1, 1) := by decide +kernel
theorem dX1_evenOut_70 : decode cX1_evenOut 70 = .ok (.aload_n 0, 1) := by decide +kernel
theorem dX1_evenOut_71 : decode cX1_evenOut 71 = .ok (.getfield 38, 3) := by decide +kernel
theorem dX1_evenOut_74 : decode cX1_evenOut 74 = .ok (.iload_n 2, 1) := by decide +kernel
theorem dX1_evenOut_75 : decode cX1_evenOut 75 = .ok (.iaload, 1) := by decide +kernel
theorem dX1_evenOut_76 : decode cX1_evenOut 76 = .ok (.ifCond .ne 7, 3) := by decide +kernel
theorem dX1_evenOut_79 : decode cX1_evenOut 79 = .ok (.iconst 0, 1) := by decide +kernel
theorem dX1_evenOut_80 : decode cX1_evenOut 80 = .ok (.goto 4, 3) := by decide +kernel
theorem dX1_evenOut_83 : decode cX1_evenOut 83 = .ok (.iconst 1, 1) := by decide +kernel
theorem dX1_evenOut_84 : decode cX1_evenOut 84 = .ok (.iadd, 1) := by decide +kernel
theorem dX1_evenOut_85 : decode cX1_evenOut 85 = .ok (.istore_n 1, 1) := by decide +kernel
theorem dX1_evenOut_86 : decode cX1_evenOut 86 = .ok (.iinc 2 1, 3) := by decide +kernel
theorem dX1_evenOut_89 : decode cX1_evenOut 89 = .ok (.goto (-43), 3) := by decide +kernel
theorem dX1_evenOut_92 : decode cX1_evenOut 92 = .ok (.iload_n 1, 1) := by decide +kernel
theorem dX1_evenOut_93 : decode cX1_evenOut 93 = .ok (.ireturn, 1) := by decide +kernel
set_option maxRecDepth 20000 in
theorem ggX1_pass_X1_isIn : GoodIn wsX1_pass wsX1_isIn := goodIn_r _ [10] (by decide +kernel) (by decide +kernel)
set_option maxRecDepth 20000 in
theorem gX1_pass_X1_isIn : GoodIn wsX1_pass (va_wsS RX1 47 yX1_isIn wsX1_isIn) := goodIn_app (goodIn_of _ (by decide +kernel)) ggX1_pass_X1_isIn
set_option maxRecDepth 20000 in
theorem ggX1_pass_X1_no : GoodIn wsX1_pass wsX1_no := goodIn_r _ [14, 1, 34, 35, 36, 37, 38, 39, 40, 41, 42, 43, 44, 45, 46, 47, 48, 49] (by decide +kernel) (by decide +kernel)
set_option maxRecDepth 20000 in
theorem gX1_pass_X1_no : GoodIn wsX1_pass (wsV RX1 92 RX1 yX1_no wsX1_no) := goodIn_app (goodIn_of _ (by decide +kernel)) ggX1_pass_X1_no
set_option maxRecDepth 20000 in
theorem ggX1_pass_X1_evenOut : GoodIn wsX1_pass wsX1_evenOut := goodIn_r _ [18, 19, 20, 21, 22, 23, 24, 9, 25, 26, 27, 28, 29, 7, 8, 10, 30, 31, 32, 33, 34, 35, 36, 37, 38, 39, 40, 41, 42, 43, 44, 45, 46, 47, 48, 49] (by decide +kernel) (by decide +kernel)
set_option maxRecDepth 20000 in
theorem gX1_pass_X1_evenOut : GoodIn wsX1_pass (wsV RX1 120 RX1 yX1_evenOut wsX1_evenOut) := goodIn_app (goodIn_of _ (by decide +kernel)) ggX1_pass_X1_evenOut
theorem dX1_pass_0 : decode cX1_pass 0 = .ok (.aload_n 0, 1) := by decide +kernel
theorem dX1_pass_1 : decode cX1_pass 1 = .ok (.iconst 0, 1) := by decide +kernel
theorem dX1_pass_2 : decode cX1_pass 2 = .ok (.putfield 41, 3) := by decide +kernel
theorem dX1_pass_5 : decode cX1_pass 5 = .ok (.iload_n 1, 1) := by decide +kernel
theorem dX1_pass_6 : decode cX1_pass 6 = .ok (.iconst 1, 1) := by decide +kernel
theorem dX1_pass_7 : decode cX1_pass 7 = .ok (.bipush 50, 2) := by decide +kernel
theorem dX1_pass_9 : decode cX1_pass 9 = .ok (.invokestatic 47, 3) := by decide +kernel
theorem dX1_pass_12 : decode cX1_pass 12 = .ok (.ifCond .ne 9, 3) := by decide +kernel
theorem dX1_pass_15 : decode cX1_pass 15 = .ok (.aload_n 0, 1) := by decide +kernel
theorem dX1_pass_16 : decode cX1_pass 16 = .ok (.iconst 1, 1) := by decide +kernel
theorem dX1_pass_17 : decode cX1_pass 17 = .ok (.invokevirtual 92, 3) := by decide +kernel
theorem dX1_pass_20 : decode cX1_pass 20 = .ok (.ireturn, 1) := by decide +kernel
theorem dX1_pass_21 : decode cX1_pass 21 = .ok (.iconst 0, 1) := by decide +kernel
theorem dX1_pass_22 : decode cX1_pass 22 = .ok (.istore_n 2, 1) := by decide +kernel
theorem dX1_pass_23 : decode cX1_pass 23 = .ok (.iconst 0, 1) := by decide +kernel
theorem dX1_pass_24 : decode cX1_pass 24 = .ok (.istore_n 3, 1) := by decide +kernel
theorem dX1_pass_25 : decode cX1_pass 25 = .ok (.iload_n 3, 1) := by decide +kernel
theorem dX1_pass_26 : decode cX1_pass 26 = .ok (.iload_n 1, 1) := by decide +kernel
theorem dX1_pass_27 : decode cX1_pass 27 = .ok (.if_icmp .ge 16, 3) := by decide +kernel
theorem dX1_pass_30 : decode cX1_pass 30 = .ok (.iload_n 2, 1) := by decide +kernel
theorem dX1_pass_31 : decode cX1_pass 31 = .ok (.aload_n 0, 1) := by decide +kernel
theorem dX1_pass_32 : decode cX1_pass 32 = .ok (.invokevirtual 120, 3) := by decide +kernel
theorem dX1_pass_35 : decode cX1_pass 35 = .ok (.iadd, 1) := by decide +kernel
theorem dX1_pass_36 : decode cX1_pass 36 = .ok (.istore_n 2, 1) := by decide +kernel
theorem dX1_pass_37 : decode cX1_pass 37 = .ok (.iinc 3 1, 3) := by decide +kernel
theorem dX1_pass_40 : decode cX1_pass 40 = .ok (.goto (-15), 3) := by decide +kernel
theorem dX1_pass_43 : decode cX1_pass 43 = .ok (.iconst 0, 1) := by decide +kernel
theorem dX1_pass_44 : decode cX1_pass 44 = .ok (.istore_n 3, 1) := by decide +kernel
theorem dX1_pass_45 : decode cX1_pass 45 = .ok (.iload_n 3, 1) := by decide +kernel
theorem dX1_pass_46 : decode cX1_pass 46 = .ok (.aload_n 0, 1) := by decide +kernel
theorem dX1_pass_47 : decode cX1_pass 47 = .ok (.getfield 55, 3) := by decide +kernel
theorem dX1_pass_50 : decode cX1_pass 50 = .ok (.if_icmp .ge 35, 3) := by decide +kernel
theorem dX1_pass_53 : decode cX1_pass 53 = .ok (.aload_n 0, 1) := by decide +kernel
theorem dX1_pass_54 : decode cX1_pass 54 = .ok (.getfield 25, 3) := by decide +kernel
theorem dX1_pass_57 : decode cX1_pass 57 = .ok (.iload_n 3, 1) := by decide +kernel
theorem dX1_pass_58 : decode cX1_pass 58 = .ok (.dup2, 1) := by decide +kernel
theorem dX1_pass_59 : decode cX1_pass 59 = .ok (.iaload, 1) := by decide +kernel
theorem dX1_pass_60 : decode cX1_pass 60 = .ok (.iload_n 1, 1) := by decide +kernel
theorem dX1_pass_61 : decode cX1_pass 61 = .ok (.aload_n 0, 1) := by decide +kernel
theorem dX1_pass_62 : decode cX1_pass 62 = .ok (.getfield 19, 3) := by decide +kernel
theorem dX1_pass_65 : decode cX1_pass 65 = .ok (.iload_n 3, 1) := by decide +kernel
theorem dX1_pass_66 : decode cX1_pass 66 = .ok (.iaload, 1) := by decide +kernel
theorem dX1_pass_67 : decode cX1_pass 67 = .ok (.aload_n 0, 1) := by decide +kernel
theorem dX1_pass_68 : decode cX1_pass 68 = .ok (.getfield 16, 3) := by decide +kernel
theorem dX1_pass_71 : decode cX1_pass 71 = .ok (.iload_n 3, 1) := by decide +kernel
theorem dX1_pass_72 : decode cX1_pass 72 = .ok (.iaload, 1) := by decide +kernel
theorem dX1_pass_73 : decode cX1_pass 73 = .ok (.isub, 1) := by decide +kernel
theorem dX1_pass_74 : decode cX1_pass 74 = .ok (.iconst 1, 1) := by decide +kernel
theorem dX1_pass_75 : decode cX1_pass 75 = .ok (.iadd, 1) := by decide +kernel
theorem dX1_pass_76 : decode cX1_pass 76 = .ok (.imul, 1) := by decide +kernel
theorem dX1_pass_77 : decode cX1_pass 77 = .ok (.iadd, 1) := by decide +kernel
theorem dX1_pass_78 : decode cX1_pass 78 = .ok (.iastore, 1) := by decide +kernel
theorem dX1_pass_79 : decode cX1_pass 79 = .ok (.iinc 3 1, 3) := by decide +kernel
theorem dX1_pass_82 : decode cX1_pass 82 = .ok (.goto (-37), 3) := by decide +kernel
theorem dX1_pass_85 : decode cX1_pass 85 = .ok (.aload_n 0, 1) := by decide +kernel
theorem dX1_pass_86 : decode cX1_pass 86 = .ok (.dup, 1) := by decide +kernel
theorem dX1_pass_87 : decode cX1_pass 87 = .ok (.getfield 123, 3) := by decide +kernel
theorem dX1_pass_90 : decode cX1_pass 90 = .ok (.iload_n 1, 1) := by decide +kernel
theorem dX1_pass_91 : decode cX1_pass 91 = .ok (.iadd, 1) := by decide +kernel
theorem dX1_pass_92 : decode cX1_pass 92 = .ok (.putfield 123, 3) := by decide +kernel
theorem dX1_pass_95 : decode cX1_pass 95 = .ok (.iload_n 2, 1) := by decide +kernel
theorem dX1_pass_96 : decode cX1_pass 96 = .ok (.ireturn, 1) := by decide +kernel
set_option maxRecDepth 20000 in
theorem ggX1_draw_X1_areLayers : GoodIn wsX1_draw wsX1_areLayers := goodIn_r _ [11, 12, 13, 14, 10, 15, 16, 17, 18, 19, 29, 30, 31, 32, 33, 34, 35, 36, 37, 38, 39, 40, 41, 42, 43, 44] (by decide +kernel) (by decide +kernel)
set_option maxRecDepth 20000 in
theorem gX1_draw_X1_areLayers : GoodIn wsX1_draw (wsV RX1 126 RX1 yX1_areLayers wsX1_areLayers) := goodIn_app (goodIn_of _ (by decide +kernel)) ggX1_draw_X1_areLayers
set_option maxRecDepth 20000 in
theorem ggX1_draw_X1_no : GoodIn wsX1_draw wsX1_no := goodIn_r _ [23, 1, 29, 30, 31, 32, 33, 34, 35, 36, 37, 38, 39, 40, 41, 42, 43, 44] (by decide +kernel) (by decide +kernel)
set_option maxRecDepth 20000 in
theorem gX1_draw_X1_no : GoodIn wsX1_draw (wsV RX1 92 RX1 yX1_no wsX1_no) := goodIn_app (goodIn_of _ (by decide +kernel)) ggX1_draw_X1_no
set_option maxRecDepth 20000 in
theorem ggX1_draw_X1_added : GoodIn wsX1_draw wsX1_added := goodIn_r _ [27, 28, 29, 30, 31, 32, 33, 34, 35, 36, 37, 38, 39, 40, 41, 42, 43, 44] (by decide +kernel) (by decide +kernel)
set_option maxRecDepth 20000 in
theorem gX1_draw_X1_added : GoodIn wsX1_draw (wsV RX1 85 RX1 yX1_added wsX1_added) := goodIn_app (goodIn_of _ (by decide +kernel)) ggX1_draw_X1_added
theorem dX1_draw_0 : decode cX1_draw 0 = .ok (.aload_n 0, 1) := by decide +kernel
theorem dX1_draw_1 : decode cX1_draw 1 = .ok (.iconst 0, 1) := by decide +kernel
theorem dX1_draw_2 : decode cX1_draw 2 = .ok (.putfield 41, 3) := by decide +kernel
theorem dX1_draw_5 : decode cX1_draw 5 = .ok (.aload_n 0, 1) := by decide +kernel
theorem dX1_draw_6 : decode cX1_draw 6 = .ok (.iload_n 1, 1) := by decide +kernel
theorem dX1_draw_7 : decode cX1_draw 7 = .ok (.iload_n 2, 1) := by decide +kernel
theorem dX1_draw_8 : decode cX1_draw 8 = .ok (.invokevirtual 126, 3) := by decide +kernel
theorem dX1_draw_11 : decode cX1_draw 11 = .ok (.ifCond .ne 9, 3) := by decide +kernel
theorem dX1_draw_14 : decode cX1_draw 14 = .ok (.aload_n 0, 1) := by decide +kernel
theorem dX1_draw_15 : decode cX1_draw 15 = .ok (.iconst 1, 1) := by decide +kernel
theorem dX1_draw_16 : decode cX1_draw 16 = .ok (.invokevirtual 92, 3) := by decide +kernel
theorem dX1_draw_19 : decode cX1_draw 19 = .ok (.ireturn, 1) := by decide +kernel
theorem dX1_draw_20 : decode cX1_draw 20 = .ok (.aload_n 0, 1) := by decide +kernel
theorem dX1_draw_21 : decode cX1_draw 21 = .ok (.getfield 55, 3) := by decide +kernel
theorem dX1_draw_24 : decode cX1_draw 24 = .ok (.bipush 16, 2) := by decide +kernel
theorem dX1_draw_26 : decode cX1_draw 26 = .ok (.if_icmp .ne 9, 3) := by decide +kernel
theorem dX1_draw_29 : decode cX1_draw 29 = .ok (.aload_n 0, 1) := by decide +kernel
theorem dX1_draw_30 : decode cX1_draw 30 = .ok (.iconst 2, 1) := by decide +kernel
theorem dX1_draw_31 : decode cX1_draw 31 = .ok (.invokevirtual 92, 3) := by decide +kernel
theorem dX1_draw_34 : decode cX1_draw 34 = .ok (.ireturn, 1) := by decide +kernel
theorem dX1_draw_35 : decode cX1_draw 35 = .ok (.aload_n 0, 1) := by decide +kernel
theorem dX1_draw_36 : decode cX1_draw 36 = .ok (.getfield 16, 3) := by decide +kernel
theorem dX1_draw_39 : decode cX1_draw 39 = .ok (.aload_n 0, 1) := by decide +kernel
theorem dX1_draw_40 : decode cX1_draw 40 = .ok (.getfield 55, 3) := by decide +kernel
theorem dX1_draw_43 : decode cX1_draw 43 = .ok (.iload_n 1, 1) := by decide +kernel
theorem dX1_draw_44 : decode cX1_draw 44 = .ok (.iastore, 1) := by decide +kernel
theorem dX1_draw_45 : decode cX1_draw 45 = .ok (.aload_n 0, 1) := by decide +kernel
theorem dX1_draw_46 : decode cX1_draw 46 = .ok (.getfield 19, 3) := by decide +kernel
theorem dX1_draw_49 : decode cX1_draw 49 = .ok (.aload_n 0, 1) := by decide +kernel
theorem dX1_draw_50 : decode cX1_draw 50 = .ok (.getfield 55, 3) := by decide +kernel
theorem dX1_draw_53 : decode cX1_draw 53 = .ok (.iload_n 2, 1) := by decide +kernel
theorem dX1_draw_54 : decode cX1_draw 54 = .ok (.iastore, 1) := by decide +kernel
theorem dX1_draw_55 : decode cX1_draw 55 = .ok (.aload_n 0, 1) := by decide +kernel
theorem dX1_draw_56 : decode cX1_draw 56 = .ok (.getfield 22, 3) := by decide +kernel
theorem dX1_draw_59 : decode cX1_draw 59 = .ok (.aload_n 0, 1) := by decide +kernel
theorem dX1_draw_60 : decode cX1_draw 60 = .ok (.getfield 55, 3) := by decide +kernel
theorem dX1_draw_63 : decode cX1_draw 63 = .ok (.aload_n 0, 1) := by decide +kernel
theorem dX1_draw_64 : decode cX1_draw 64 = .ok (.iload_n 1, 1) := by decide +kernel
theorem dX1_draw_65 : decode cX1_draw 65 = .ok (.iload_n 2, 1) := by decide +kernel
theorem dX1_draw_66 : decode cX1_draw 66 = .ok (.invokevirtual 85, 3) := by decide +kernel
theorem dX1_draw_69 : decode cX1_draw 69 = .ok (.iastore, 1) := by decide +kernel
theorem dX1_draw_70 : decode cX1_draw 70 = .ok (.aload_n 0, 1) := by decide +kernel
theorem dX1_draw_71 : decode cX1_draw 71 = .ok (.getfield 25, 3) := by decide +kernel
theorem dX1_draw_74 : decode cX1_draw 74 = .ok (.aload_n 0, 1) := by decide +kernel
theorem dX1_draw_75 : decode cX1_draw 75 = .ok (.getfield 55, 3) := by decide +kernel
theorem dX1_draw_78 : decode cX1_draw 78 = .ok (.iconst 0, 1) := by decide +kernel
theorem dX1_draw_79 : decode cX1_draw 79 = .ok (.iastore, 1) := by decide +kernel
theorem dX1_draw_80 : decode cX1_draw 80 = .ok (.aload_n 0, 1) := by decide +kernel
theorem dX1_draw_81 : decode cX1_draw 81 = .ok (.dup, 1) := by decide +kernel
theorem dX1_draw_82 : decode cX1_draw 82 = .ok (.getfield 55, 3) := by decide +kernel
theorem dX1_draw_85 : decode cX1_draw 85 = .ok (.iconst 1, 1) := by decide +kernel
theorem dX1_draw_86 : decode cX1_draw 86 = .ok (.iadd, 1) := by decide +kernel
theorem dX1_draw_87 : decode cX1_draw 87 = .ok (.putfield 55, 3) := by decide +kernel
theorem dX1_draw_90 : decode cX1_draw 90 = .ok (.aload_n 0, 1) := by decide +kernel
theorem dX1_draw_91 : decode cX1_draw 91 = .ok (.getfield 22, 3) := by decide +kernel
theorem dX1_draw_94 : decode cX1_draw 94 = .ok (.aload_n 0, 1) := by decide +kernel
theorem dX1_draw_95 : decode cX1_draw 95 = .ok (.getfield 55, 3) := by decide +kernel
theorem dX1_draw_98 : decode cX1_draw 98 = .ok (.iconst 1, 1) := by decide +kernel
theorem dX1_draw_99 : decode cX1_draw 99 = .ok (.isub, 1) := by decide +kernel
theorem dX1_draw_100 : decode cX1_draw 100 = .ok (.iaload, 1) := by decide +kernel
theorem dX1_draw_101 : decode cX1_draw 101 = .ok (.ireturn, 1) := by decide +kernel
set_option maxRecDepth 20000 in
theorem ggX1_throwAway_X1_isSample : GoodIn wsX1_throwAway wsX1_isSample := goodIn_r _ [7, 2, 8, 9, 6, 10, 23, 24, 25, 26, 27, 28, 29, 30, 31, 32, 33, 34, 35, 36, 37, 38] (by decide +kernel) (by decide +kernel)
set_option maxRecDepth 20000 in
theorem gX1_throwAway_X1_isSample : GoodIn wsX1_throwAway (wsV RX1 130 RX1 yX1_isSample wsX1_isSample) := goodIn_app (goodIn_of _ (by decide +kernel)) ggX1_throwAway_X1_isSample
set_option maxRecDepth 20000 in
theorem ggX1_throwAway_X1_no : GoodIn wsX1_throwAway wsX1_no := goodIn_r _ [14, 1, 23, 24, 25, 26, 27, 28, 29, 30, 31, 32, 33, 34, 35, 36, 37, 38] (by decide +kernel) (by decide +kernel)
set_option maxRecDepth 20000 in
theorem gX1_throwAway_X1_no : GoodIn wsX1_throwAway (wsV RX1 92 RX1 yX1_no wsX1_no) := goodIn_app (goodIn_of _ (by decide +kernel)) ggX1_throwAway_X1_no
set_option maxRecDepth 20000 in
theorem ggX1_throwAway_X1_drop : GoodIn wsX1_throwAway wsX1_drop := goodIn_r _ [18, 2, 19, 20, 21, 22, 23, 24, 25, 26, 27, 28, 29, 30, 31, 32, 33, 34, 35, 36, 37, 38] (by decide +kernel) (by decide +kernel)
set_option maxRecDepth 20000 in
theorem gX1_throwAway_X1_drop : GoodIn wsX1_throwAway (wsV RX1 102 RX1 yX1_drop wsX1_drop) := goodIn_app (goodIn_of _ (by decide +kernel)) ggX1_throwAway_X1_drop
theorem dX1_throwAway_0 : decode cX1_throwAway 0 = .ok (.aload_n 0, 1) := by decide +kernel
theorem dX1_throwAway_1 : decode cX1_throwAway 1 = .ok (.iconst 0, 1) := by decide +kernel
theorem dX1_throwAway_2 : decode cX1_throwAway 2 = .ok (.putfield 41, 3) := by decide +kernel
theorem dX1_throwAway_5 : decode cX1_throwAway 5 = .ok (.aload_n 0, 1) := by decide +kernel
theorem dX1_throwAway_6 : decode cX1_throwAway 6 = .ok (.iload_n 1, 1) := by decide +kernel
theorem dX1_throwAway_7 : decode cX1_throwAway 7 = .ok (.invokevirtual 130, 3) := by decide +kernel
theorem dX1_throwAway_10 : decode cX1_throwAway 10 = .ok (.ifCond .ne 9, 3) := by decide +kernel
theorem dX1_throwAway_13 : decode cX1_throwAway 13 = .ok (.aload_n 0, 1) := by decide +kernel
theorem dX1_throwAway_14 : decode cX1_throwAway 14 = .ok (.iconst 1, 1) := by decide +kernel
theorem dX1_throwAway_15 : decode cX1_throwAway 15 = .ok (.invokevirtual 92, 3) := by decide +kernel
theorem dX1_throwAway_18 : decode cX1_throwAway 18 = .ok (.ireturn, 1) := by decide +kernel
theorem dX1_throwAway_19 : decode cX1_throwAway 19 = .ok (.aload_n 0, 1) := by decide +kernel
theorem dX1_throwAway_20 : decode cX1_throwAway 20 = .ok (.iload_n 1, 1) := by decide +kernel
theorem dX1_throwAway_21 : decode cX1_throwAway 21 = .ok (.invokevirtual 102, 3) := by decide +kernel
theorem dX1_throwAway_24 : decode cX1_throwAway 24 = .ok (.aload_n 0, 1) := by decide +kernel
theorem dX1_throwAway_25 : decode cX1_throwAway 25 = .ok (.getfield 55, 3) := by decide +kernel
theorem dX1_throwAway_28 : decode cX1_throwAway 28 = .ok (.ireturn, 1) := by decide +kernel
set_option maxRecDepth 20000 in
theorem ggX1_samples_X1_ok : GoodIn wsX1_samples wsX1_ok := goodIn_r _ [6, 7, 8, 9, 10, 11, 12, 13, 14, 15, 16, 17, 18, 19, 20, 21, 22, 23] (by decide +kernel) (by decide +kernel)
set_option maxRecDepth 20000 in
theorem gX1_samples_X1_ok : GoodIn wsX1_samples (wsV RX1 133 RX1 yX1_ok wsX1_ok) := goodIn_app (goodIn_of _ (by decide +kernel)) ggX1_samples_X1_ok
theorem dX1_samples_0 : decode cX1_samples 0 = .ok (.aload_n 0, 1) := by decide +kernel
theorem dX1_samples_1 : decode cX1_samples 1 = .ok (.aload_n 0, 1) := by decide +kernel
theorem dX1_samples_2 : decode cX1_samples 2 = .ok (.getfield 55, 3) := by decide +kernel
theorem dX1_samples_5 : decode cX1_samples 5 = .ok (.invokevirtual 133, 3) := by decide +kernel
theorem dX1_samples_8 : decode cX1_samples 8 = .ok (.ireturn, 1) := by decide +kernel
set_option maxRecDepth 20000 in
theorem ggX1_ofSample_X1_isSample : GoodIn wsX1_ofSample wsX1_isSample := goodIn_r _ [6, 7, 8, 9, 5, 10, 15, 16, 17, 18, 19, 20, 21, 22, 23, 24, 25, 26, 27, 28, 29, 30] (by decide +kernel) (by decide +kernel)
set_option maxRecDepth 20000 in
theorem gX1_ofSample_X1_isSample : GoodIn wsX1_ofSample (wsV RX1 130 RX1 yX1_isSample wsX1_isSample) := goodIn_app (goodIn_of _ (by decide +kernel)) ggX1_ofSample_X1_isSample
set_option maxRecDepth 20000 in
theorem ggX1_ofSample_X1_no : GoodIn wsX1_ofSample wsX1_no := goodIn_r _ [14, 1, 15, 16, 17, 18, 19, 20, 21, 22, 23, 24, 25, 26, 27, 28, 29, 30] (by decide +kernel) (by decide +kernel)
set_option maxRecDepth 20000 in
theorem gX1_ofSample_X1_no : GoodIn wsX1_ofSample (wsV RX1 92 RX1 yX1_no wsX1_no) := goodIn_app (goodIn_of _ (by decide +kernel)) ggX1_ofSample_X1_no
theorem dX1_ofSample_0 : decode cX1_ofSample 0 = .ok (.aload_n 0, 1) := by decide +kernel
theorem dX1_ofSample_1 : decode cX1_ofSample 1 = .ok (.iconst 0, 1) := by decide +kernel
theorem dX1_ofSample_2 : decode cX1_ofSample 2 = .ok (.putfield 41, 3) := by decide +kernel
theorem dX1_ofSample_5 : decode cX1_ofSample 5 = .ok (.aload_n 0, 1) := by decide +kernel
theorem dX1_ofSample_6 : decode cX1_ofSample 6 = .ok (.iload_n 1, 1) := by decide +kernel
theorem dX1_ofSample_7 : decode cX1_ofSample 7 = .ok (.invokevirtual 130, 3) := by decide +kernel
theorem dX1_ofSample_10 : decode cX1_ofSample 10 = .ok (.ifCond .eq 9, 3) := by decide +kernel
theorem dX1_ofSample_13 : decode cX1_ofSample 13 = .ok (.aload_n 2, 1) := by decide +kernel
theorem dX1_ofSample_14 : decode cX1_ofSample 14 = .ok (.iload_n 1, 1) := by decide +kernel
theorem dX1_ofSample_15 : decode cX1_ofSample 15 = .ok (.iaload, 1) := by decide +kernel
theorem dX1_ofSample_16 : decode cX1_ofSample 16 = .ok (.goto 8, 3) := by decide +kernel
theorem dX1_ofSample_19 : decode cX1_ofSample 19 = .ok (.aload_n 0, 1) := by decide +kernel
theorem dX1_ofSample_20 : decode cX1_ofSample 20 = .ok (.iconst 1, 1) := by decide +kernel
theorem dX1_ofSample_21 : decode cX1_ofSample 21 = .ok (.invokevirtual 92, 3) := by decide +kernel
theorem dX1_ofSample_24 : decode cX1_ofSample 24 = .ok (.ireturn, 1) := by decide +kernel
set_option maxRecDepth 20000 in
theorem ggX1_lowestOf_X1_ofSample : GoodIn wsX1_lowestOf wsX1_ofSample := goodIn_r _ [6, 7, 8, 9, 10, 5, 11, 12, 13, 14, 15, 16, 17, 18, 19, 20, 21, 22, 23, 24, 25, 26, 27, 28, 29, 30, 31, 32, 33, 34, 35] (by decide +kernel) (by decide +kernel)
set_option maxRecDepth 20000 in
theorem gX1_lowestOf_X1_ofSample : GoodIn wsX1_lowestOf (wsV RX1 136 RX1 yX1_ofSample wsX1_ofSample) := goodIn_app (goodIn_of _ (by decide +kernel)) ggX1_lowestOf_X1_ofSample
theorem dX1_lowestOf_0 : decode cX1_lowestOf 0 = .ok (.aload_n 0, 1) := by decide +kernel
theorem dX1_lowestOf_1 : decode cX1_lowestOf 1 = .ok (.iload_n 1, 1) := by decide +kernel
theorem dX1_lowestOf_2 : decode cX1_lowestOf 2 = .ok (.aload_n 0, 1) := by decide +kernel
theorem dX1_lowestOf_3 : decode cX1_lowestOf 3 = .ok (.getfield 16, 3) := by decide +kernel
theorem dX1_lowestOf_6 : decode cX1_lowestOf 6 = .ok (.invokevirtual 136, 3) := by decide +kernel
theorem dX1_lowestOf_9 : decode cX1_lowestOf 9 = .ok (.ireturn, 1) := by decide +kernel
set_option maxRecDepth 20000 in
theorem ggX1_highestOf_X1_ofSample : GoodIn wsX1_highestOf wsX1_ofSample := goodIn_r _ [6, 7, 8, 9, 10, 5, 11, 12, 13, 14, 15, 16, 17, 18, 19, 20, 21, 22, 23, 24, 25, 26, 27, 28, 29, 30, 31, 32, 33, 34, 35] (by decide +kernel) (by decide +kernel)
set_option maxRecDepth 20000 in
theorem gX1_highestOf_X1_ofSample : GoodIn wsX1_highestOf (wsV RX1 136 RX1 yX1_ofSample wsX1_ofSample) := goodIn_app (goodIn_of _ (by decide +kernel)) ggX1_highestOf_X1_ofSample
theorem dX1_highestOf_0 : decode cX1_highestOf 0 = .ok (.aload_n 0, 1) := by decide +kernel
theorem dX1_highestOf_1 : decode cX1_highestOf 1 = .ok (.iload_n 1, 1) := by decide +kernel
theorem dX1_highestOf_2 : decode cX1_highestOf 2 = .ok (.aload_n 0, 1) := by decide +kernel
theorem dX1_highestOf_3 : decode cX1_highestOf 3 = .ok (.getfield 19, 3) := by decide +kernel
theorem dX1_highestOf_6 : decode cX1_highestOf 6 = .ok (.invokevirtual 136, 3) := by decide +kernel
theorem dX1_highestOf_9 : decode cX1_highestOf 9 = .ok (.ireturn, 1) := by decide +kernel
set_option maxRecDepth 20000 in
theorem ggX1_sumOf_X1_ofSample : GoodIn wsX1_sumOf wsX1_ofSample := goodIn_r _ [6, 7, 8, 9, 10, 5, 11, 12, 13, 14, 15, 16, 17, 18, 19, 20, 21, 22, 23, 24, 25, 26, 27, 28, 29, 30, 31, 32, 33, 34, 35] (by decide +kernel) (by decide +kernel)
set_option maxRecDepth 20000 in
theorem gX1_sumOf_X1_ofSample : GoodIn wsX1_sumOf (wsV RX1 136 RX1 yX1_ofSample wsX1_ofSample) := goodIn_app (goodIn_of _ (by decide +kernel)) ggX1_sumOf_X1_ofSample
theorem dX1_sumOf_0 : decode cX1_sumOf 0 = .ok (.aload_n 0, 1) := by decide +kernel
theorem dX1_sumOf_1 : decode cX1_sumOf 1 = .ok (.iload_n 1, 1) := by decide +kernel
theorem dX1_sumOf_2 : decode cX1_sumOf 2 = .ok (.aload_n 0, 1) := by decide +kernel
theorem dX1_sumOf_3 : decode cX1_sumOf 3 = .ok (.getfield 22, 3) := by decide +kernel
theorem dX1_sumOf_6 : decode cX1_sumOf 6 = .ok (.invokevirtual 136, 3) := by decide +kernel
theorem dX1_sumOf_9 : decode cX1_sumOf 9 = .ok (.ireturn, 1) := by decide +kernel
set_option maxRecDepth 20000 in
theorem ggX1_doubtOf_X1_ofSample : GoodIn wsX1_doubtOf wsX1_ofSample := goodIn_r _ [6, 7, 8, 9, 10, 5, 11, 12, 13, 14, 15, 16, 17, 18, 19, 20, 21, 22, 23, 24, 25, 26, 27, 28, 29, 30, 31, 32, 33, 34, 35] (by decide +kernel) (by decide +kernel)
set_option maxRecDepth 20000 in
theorem gX1_doubtOf_X1_ofSample : GoodIn wsX1_doubtOf (wsV RX1 136 RX1 yX1_ofSample wsX1_ofSample) := goodIn_app (goodIn_of _ (by decide +kernel)) ggX1_doubtOf_X1_ofSample
theorem dX1_doubtOf_0 : decode cX1_doubtOf 0 = .ok (.aload_n 0, 1) := by decide +kernel
theorem dX1_doubtOf_1 : decode cX1_doubtOf 1 = .ok (.iload_n 1, 1) := by decide +kernel
theorem dX1_doubtOf_2 : decode cX1_doubtOf 2 = .ok (.aload_n 0, 1) := by decide +kernel
theorem dX1_doubtOf_3 : decode cX1_doubtOf 3 = .ok (.getfield 25, 3) := by decide +kernel
theorem dX1_doubtOf_6 : decode cX1_doubtOf 6 = .ok (.invokevirtual 136, 3) := by decide +kernel
theorem dX1_doubtOf_9 : decode cX1_doubtOf 9 = .ok (.ireturn, 1) := by decide +kernel
set_option maxRecDepth 20000 in
theorem ggX1_layers_X1_ok : GoodIn wsX1_layers wsX1_ok := goodIn_r _ [6, 7, 8, 9, 10, 11, 12, 13, 14, 15, 16, 17, 18, 19, 20, 21, 22, 23] (by decide +kernel) (by decide +kernel)
set_option maxRecDepth 20000 in
theorem gX1_layers_X1_ok : GoodIn wsX1_layers (wsV RX1 133 RX1 yX1_ok wsX1_ok) := goodIn_app (goodIn_of _ (by decide +kernel)) ggX1_layers_X1_ok
theorem dX1_layers_0 : decode cX1_layers 0 = .ok (.aload_n 0, 1) := by decide +kernel
theorem dX1_layers_1 : decode cX1_layers 1 = .ok (.aload_n 0, 1) := by decide +kernel
theorem dX1_layers_2 : decode cX1_layers 2 = .ok (.getfield 44, 3) := by decide +kernel
theorem dX1_layers_5 : decode cX1_layers 5 = .ok (.invokevirtual 133, 3) := by decide +kernel
theorem dX1_layers_8 : decode cX1_layers 8 = .ok (.ireturn, 1) := by decide +kernel
set_option maxRecDepth 20000 in
theorem ggX1_day_X1_ok : GoodIn wsX1_day wsX1_ok := goodIn_r _ [6, 7, 8, 9, 10, 11, 12, 13, 14, 15, 16, 17, 18, 19, 20, 21, 22, 23] (by decide +kernel) (by decide +kernel)
set_option maxRecDepth 20000 in
theorem gX1_day_X1_ok : GoodIn wsX1_day (wsV RX1 133 RX1 yX1_ok wsX1_ok) := goodIn_app (goodIn_of _ (by decide +kernel)) ggX1_day_X1_ok
theorem dX1_day_0 : decode cX1_day 0 = .ok (.aload_n 0, 1) := by decide +kernel
theorem dX1_day_1 : decode cX1_day 1 = .ok (.aload_n 0, 1) := by decide +kernel
theorem dX1_day_2 : decode cX1_day 2 = .ok (.getfield 123, 3) := by decide +kernel
theorem dX1_day_5 : decode cX1_day 5 = .ok (.invokevirtual 133, 3) := by decide +kernel
theorem dX1_day_8 : decode cX1_day 8 = .ok (.ireturn, 1) := by decide +kernel
set_option maxRecDepth 20000 in
theorem ggX1_limit_X1_ok : GoodIn wsX1_limit wsX1_ok := goodIn_r _ [6, 7, 8, 9, 10, 11, 12, 13, 14, 15, 16, 17, 18, 19, 20, 21, 22, 23] (by decide +kernel) (by decide +kernel)
set_option maxRecDepth 20000 in
theorem gX1_limit_X1_ok : GoodIn wsX1_limit (wsV RX1 133 RX1 yX1_ok wsX1_ok) := goodIn_app (goodIn_of _ (by decide +kernel)) ggX1_limit_X1_ok
theorem dX1_limit_0 : decode cX1_limit 0 = .ok (.aload_n 0, 1) := by decide +kernel
theorem dX1_limit_1 : decode cX1_limit 1 = .ok (.aload_n 0, 1) := by decide +kernel
theorem dX1_limit_2 : decode cX1_limit 2 = .ok (.getfield 28, 3) := by decide +kernel
theorem dX1_limit_5 : decode cX1_limit 5 = .ok (.invokevirtual 133, 3) := by decide +kernel
theorem dX1_limit_8 : decode cX1_limit 8 = .ok (.ireturn, 1) := by decide +kernel
set_option maxRecDepth 20000 in
theorem ggX1_sold_X1_ok : GoodIn wsX1_sold wsX1_ok := goodIn_r _ [6, 7, 8, 9, 10, 11, 12, 13, 14, 15, 16, 17, 18, 19, 20, 21, 22, 23] (by decide +kernel) (by decide +kernel)
set_option maxRecDepth 20000 in
theorem gX1_sold_X1_ok : GoodIn wsX1_sold (wsV RX1 133 RX1 yX1_ok wsX1_ok) := goodIn_app (goodIn_of _ (by decide +kernel)) ggX1_sold_X1_ok
theorem dX1_sold_0 : decode cX1_sold 0 = .ok (.aload_n 0, 1) := by decide +kernel
theorem dX1_sold_1 : decode cX1_sold 1 = .ok (.aload_n 0, 1) := by decide +kernel
theorem dX1_sold_2 : decode cX1_sold 2 = .ok (.getfield 99, 3) := by decide +kernel
theorem dX1_sold_5 : decode cX1_sold 5 = .ok (.invokevirtual 133, 3) := by decide +kernel
theorem dX1_sold_8 : decode cX1_sold 8 = .ok (.ireturn, 1) := by decide +kernel
set_option maxRecDepth 20000 in
theorem ggX1_spoilt_X1_ok : GoodIn wsX1_spoilt wsX1_ok := goodIn_r _ [6, 7, 8, 9, 10, 11, 12, 13, 14, 15, 16, 17, 18, 19, 20, 21, 22, 23] (by decide +kernel) (by decide +kernel)
set_option maxRecDepth 20000 in
theorem gX1_spoilt_X1_ok : GoodIn wsX1_spoilt (wsV RX1 133 RX1 yX1_ok wsX1_ok) := goodIn_app (goodIn_of _ (by decide +kernel)) ggX1_spoilt_X1_ok
theorem dX1_spoilt_0 : decode cX1_spoilt 0 = .ok (.aload_n 0, 1) := by decide +kernel
theorem dX1_spoilt_1 : decode cX1_spoilt 1 = .ok (.aload_n 0, 1) := by decide +kernel
theorem dX1_spoilt_2 : decode cX1_spoilt 2 = .ok (.getfield 96, 3) := by decide +kernel
theorem dX1_spoilt_5 : decode cX1_spoilt 5 = .ok (.invokevirtual 133, 3) := by decide +kernel
theorem dX1_spoilt_8 : decode cX1_spoilt 8 = .ok (.ireturn, 1) := by decide +kernel
set_option maxRecDepth 20000 in
theorem ggX1_kindOf_X1_isLayer : GoodIn wsX1_kindOf wsX1_isLayer := goodIn_r _ [7, 8, 9, 10, 6, 11, 16, 17, 18, 19, 20, 21, 22, 23, 24, 25, 26, 27, 28, 29, 30, 31] (by decide +kernel) (by decide +kernel)
set_option maxRecDepth 20000 in
theorem gX1_kindOf_X1_isLayer : GoodIn wsX1_kindOf (wsV RX1 51 RX1 yX1_isLayer wsX1_isLayer) := goodIn_app (goodIn_of _ (by decide +kernel)) ggX1_kindOf_X1_isLayer
set_option maxRecDepth 20000 in
theorem ggX1_kindOf_X1_no : GoodIn wsX1_kindOf wsX1_no := goodIn_r _ [15, 1, 16, 17, 18, 19, 20, 21, 22, 23, 24, 25, 26, 27, 28, 29, 30, 31] (by decide +kernel) (by decide +kernel)
set_option maxRecDepth 20000 in
theorem gX1_kindOf_X1_no : GoodIn wsX1_kindOf (wsV RX1 92 RX1 yX1_no wsX1_no) := goodIn_app (goodIn_of _ (by decide +kernel)) ggX1_kindOf_X1_no
theorem dX1_kindOf_0 : decode cX1_kindOf 0 = .ok (.aload_n 0, 1) := by decide +kernel
theorem dX1_kindOf_1 : decode cX1_kindOf 1 = .ok (.iconst 0, 1) := by decide +kernel
theorem dX1_kindOf_2 : decode cX1_kindOf 2 = .ok (.putfield 41, 3) := by decide +kernel
theorem dX1_kindOf_5 : decode cX1_kindOf 5 = .ok (.aload_n 0, 1) := by decide +kernel
theorem dX1_kindOf_6 : decode cX1_kindOf 6 = .ok (.iload_n 1, 1) := by decide +kernel
theorem dX1_kindOf_7 : decode cX1_kindOf 7 = .ok (.invokevirtual 51, 3) := by decide +kernel
theorem dX1_kindOf_10 : decode cX1_kindOf 10 = .ok (.ifCond .eq 12, 3) := by decide +kernel
theorem dX1_kindOf_13 : decode cX1_kindOf 13 = .ok (.aload_n 0, 1) := by decide +kernel
theorem dX1_kindOf_14 : decode cX1_kindOf 14 = .ok (.getfield 9, 3) := by decide +kernel
theorem dX1_kindOf_17 : decode cX1_kindOf 17 = .ok (.iload_n 1, 1) := by decide +kernel
theorem dX1_kindOf_18 : decode cX1_kindOf 18 = .ok (.iaload, 1) := by decide +kernel
theorem dX1_kindOf_19 : decode cX1_kindOf 19 = .ok (.goto 8, 3) := by decide +kernel
theorem dX1_kindOf_22 : decode cX1_kindOf 22 = .ok (.aload_n 0, 1) := by decide +kernel
theorem dX1_kindOf_23 : decode cX1_kindOf 23 = .ok (.iconst 1, 1) := by decide +kernel
theorem dX1_kindOf_24 : decode cX1_kindOf 24 = .ok (.invokevirtual 92, 3) := by decide +kernel
theorem dX1_kindOf_27 : decode cX1_kindOf 27 = .ok (.ireturn, 1) := by decide +kernel
set_option maxRecDepth 20000 in
theorem ggX1_dampnessOf_X1_isLayer : GoodIn wsX1_dampnessOf wsX1_isLayer := goodIn_r _ [7, 8, 9, 10, 6, 11, 16, 17, 18, 19, 20, 21, 22, 23, 24, 25, 26, 27, 28, 29, 30, 31] (by decide +kernel) (by decide +kernel)
set_option maxRecDepth 20000 in
theorem gX1_dampnessOf_X1_isLayer : GoodIn wsX1_dampnessOf (wsV RX1 51 RX1 yX1_isLayer wsX1_isLayer) := goodIn_app (goodIn_of _ (by decide +kernel)) ggX1_dampnessOf_X1_isLayer
set_option maxRecDepth 20000 in
theorem ggX1_dampnessOf_X1_no : GoodIn wsX1_dampnessOf wsX1_no := goodIn_r _ [15, 1, 16, 17, 18, 19, 20, 21, 22, 23, 24, 25, 26, 27, 28, 29, 30, 31] (by decide +kernel) (by decide +kernel)
set_option maxRecDepth 20000 in
theorem gX1_dampnessOf_X1_no : GoodIn wsX1_dampnessOf (wsV RX1 92 RX1 yX1_no wsX1_no) := goodIn_app (goodIn_of _ (by decide +kernel)) ggX1_dampnessOf_X1_no
theorem dX1_dampnessOf_0 : decode cX1_dampnessOf 0 = .ok (.aload_n 0, 1) := by decide +kernel
theorem dX1_dampnessOf_1 : decode cX1_dampnessOf 1 = .ok (.iconst 0, 1) := by decide +kernel
theorem dX1_dampnessOf_2 : decode cX1_dampnessOf 2 = .ok (.putfield 41, 3) := by decide +kernel
theorem dX1_dampnessOf_5 : decode cX1_dampnessOf 5 = .ok (.aload_n 0, 1) := by decide +kernel
theorem dX1_dampnessOf_6 : decode cX1_dampnessOf 6 = .ok (.iload_n 1, 1) := by decide +kernel
theorem dX1_dampnessOf_7 : decode cX1_dampnessOf 7 = .ok (.invokevirtual 51, 3) := by decide +kernel
theorem dX1_dampnessOf_10 : decode cX1_dampnessOf 10 = .ok (.ifCond .eq 12, 3) := by decide +kernel
theorem dX1_dampnessOf_13 : decode cX1_dampnessOf 13 = .ok (.aload_n 0, 1) := by decide +kernel
theorem dX1_dampnessOf_14 : decode cX1_dampnessOf 14 = .ok (.getfield 13, 3) := by decide +kernel
theorem dX1_dampnessOf_17 : decode cX1_dampnessOf 17 = .ok (.iload_n 1, 1) := by decide +kernel
theorem dX1_dampnessOf_18 : decode cX1_dampnessOf 18 = .ok (.iaload, 1) := by decide +kernel
theorem dX1_dampnessOf_19 : decode cX1_dampnessOf 19 = .ok (.goto 8, 3) := by decide +kernel
theorem dX1_dampnessOf_22 : decode cX1_dampnessOf 22 = .ok (.aload_n 0, 1) := by decide +kernel
theorem dX1_dampnessOf_23 : decode cX1_dampnessOf 23 = .ok (.iconst 1, 1) := by decide +kernel
theorem dX1_dampnessOf_24 : decode cX1_dampnessOf 24 = .ok (.invokevirtual 92, 3) := by decide +kernel
theorem dX1_dampnessOf_27 : decode cX1_dampnessOf 27 = .ok (.ireturn, 1) := by decide +kernel
theorem dX1_dampLayers_0 : decode cX1_dampLayers 0 = .ok (.aload_n 0, 1) := by decide +kernel
theorem dX1_dampLayers_1 : decode cX1_dampLayers 1 = .ok (.iconst 0, 1) := by decide +kernel
theorem dX1_dampLayers_2 : decode cX1_dampLayers 2 = .ok (.putfield 41, 3) := by decide +kernel
theorem dX1_dampLayers_5 : decode cX1_dampLayers 5 = .ok (.iconst 0, 1) := by decide +kernel
theorem dX1_dampLayers_6 : decode cX1_dampLayers 6 = .ok (.istore_n 1, 1) := by decide +kernel
theorem dX1_dampLayers_7 : decode cX1_dampLayers 7 = .ok (.iconst 0, 1) := by decide +kernel
theorem dX1_dampLayers_8 : decode cX1_dampLayers 8 = .ok (.istore_n 2, 1) := by decide +kernel
theorem dX1_dampLayers_9 : decode cX1_dampLayers 9 = .ok (.iload_n 2, 1) := by decide +kernel
theorem dX1_dampLayers_10 : decode cX1_dampLayers 10 = .ok (.aload_n 0, 1) := by decide +kernel
theorem dX1_dampLayers_11 : decode cX1_dampLayers 11 = .ok (.getfield 44, 3) := by decide +kernel
theorem dX1_dampLayers_14 : decode cX1_dampLayers 14 = .ok (.if_icmp .ge 30, 3) := by decide +kernel
theorem dX1_dampLayers_17 : decode cX1_dampLayers 17 = .ok (.iload_n 1, 1) := by decide +kernel
theorem dX1_dampLayers_18 : decode cX1_dampLayers 18 = .ok (.aload_n 0, 1) := by decide +kernel
theorem dX1_dampLayers_19 : decode cX1_dampLayers 19 = .ok (.getfield 13, 3) := by decide +kernel
theorem dX1_dampLayers_22 : decode cX1_dampLayers 22 = .ok (.iload_n 2, 1) := by decide +kernel
theorem dX1_dampLayers_23 : decode cX1_dampLayers 23 = .ok (.iaload, 1) := by decide +kernel
theorem dX1_dampLayers_24 : decode cX1_dampLayers 24 = .ok (.aload_n 0, 1) := by decide +kernel
theorem dX1_dampLayers_25 : decode cX1_dampLayers 25 = .ok (.getfield 28, 3) := by decide +kernel
theorem dX1_dampLayers_28 : decode cX1_dampLayers 28 = .ok (.if_icmp .le 7, 3) := by decide +kernel
theorem dX1_dampLayers_31 : decode cX1_dampLayers 31 = .ok (.iconst 1, 1) := by decide +kernel
theorem dX1_dampLayers_32 : decode cX1_dampLayers 32 = .ok (.goto 4, 3) := by decide +kernel
theorem dX1_dampLayers_35 : decode cX1_dampLayers 35 = .ok (.iconst 0, 1) := by decide +kernel
theorem dX1_dampLayers_36 : decode cX1_dampLayers 36 = .ok (.iadd, 1) := by decide +kernel
theorem dX1_dampLayers_37 : decode cX1_dampLayers 37 = .ok (.istore_n 1, 1) := by decide +kernel
theorem dX1_dampLayers_38 : decode cX1_dampLayers 38 = .ok (.iinc 2 1, 3) := by decide +kernel
theorem dX1_dampLayers_41 : decode cX1_dampLayers 41 = .ok (.goto (-32), 3) := by decide +kernel
theorem dX1_dampLayers_44 : decode cX1_dampLayers 44 = .ok (.iload_n 1, 1) := by decide +kernel
theorem dX1_dampLayers_45 : decode cX1_dampLayers 45 = .ok (.ireturn, 1) := by decide +kernel
set_option maxRecDepth 20000 in
theorem ggX1_layersAheadOf_X1_isIn : GoodIn wsX1_layersAheadOf wsX1_isIn := goodIn_r _ [7] (by decide +kernel) (by decide +kernel)
set_option maxRecDepth 20000 in
theorem gX1_layersAheadOf_X1_isIn : GoodIn wsX1_layersAheadOf (va_wsS RX1 47 yX1_isIn wsX1_isIn) := goodIn_app (goodIn_of _ (by decide +kernel)) ggX1_layersAheadOf_X1_isIn
set_option maxRecDepth 20000 in
theorem ggX1_layersAheadOf_X1_no : GoodIn wsX1_layersAheadOf wsX1_no := goodIn_r _ [11, 1, 12, 13, 14, 15, 16, 17, 18, 19, 20, 21, 22, 23, 24, 25, 26, 27] (by decide +kernel) (by decide +kernel)
set_option maxRecDepth 20000 in
theorem gX1_layersAheadOf_X1_no : GoodIn wsX1_layersAheadOf (wsV RX1 92 RX1 yX1_no wsX1_no) := goodIn_app (goodIn_of _ (by decide +kernel)) ggX1_layersAheadOf_X1_no
theorem dX1_layersAheadOf_0 : decode cX1_layersAheadOf 0 = .ok (.aload_n 0, 1) := by decide +kernel
theorem dX1_layersAheadOf_1 : decode cX1_layersAheadOf 1 = .ok (.iconst 0, 1) := by decide +kernel
theorem dX1_layersAheadOf_2 : decode cX1_layersAheadOf 2 = .ok (.putfield 41, 3) := by decide +kernel
theorem dX1_layersAheadOf_5 : decode cX1_layersAheadOf 5 = .ok (.iload_n 1, 1) := by decide +kernel
theorem dX1_layersAheadOf_6 : decode cX1_layersAheadOf 6 = .ok (.iconst 0, 1) := by decide +kernel
theorem dX1_layersAheadOf_7 : decode cX1_layersAheadOf 7 = .ok (.iconst 4, 1) := by decide +kernel
theorem dX1_layersAheadOf_8 : decode cX1_layersAheadOf 8 = .ok (.invokestatic 47, 3) := by decide +kernel
theorem dX1_layersAheadOf_11 : decode cX1_layersAheadOf 11 = .ok (.ifCond .ne 9, 3) := by decide +kernel
theorem dX1_layersAheadOf_14 : decode cX1_layersAheadOf 14 = .ok (.aload_n 0, 1) := by decide +kernel
theorem dX1_layersAheadOf_15 : decode cX1_layersAheadOf 15 = .ok (.iconst 1, 1) := by decide +kernel
theorem dX1_layersAheadOf_16 : decode cX1_layersAheadOf 16 = .ok (.invokevirtual 92, 3) := by decide +kernel
theorem dX1_layersAheadOf_19 : decode cX1_layersAheadOf 19 = .ok (.ireturn, 1) := by decide +kernel
theorem dX1_layersAheadOf_20 : decode cX1_layersAheadOf 20 = .ok (.iconst 0, 1) := by decide +kernel
theorem dX1_layersAheadOf_21 : decode cX1_layersAheadOf 21 = .ok (.istore_n 2, 1) := by decide +kernel
theorem dX1_layersAheadOf_22 : decode cX1_layersAheadOf 22 = .ok (.iload_n 2, 1) := by decide +kernel
theorem dX1_layersAheadOf_23 : decode cX1_layersAheadOf 23 = .ok (.aload_n 0, 1) := by decide +kernel
theorem dX1_layersAheadOf_24 : decode cX1_layersAheadOf 24 = .ok (.getfield 44, 3) := by decide +kernel
theorem dX1_layersAheadOf_27 : decode cX1_layersAheadOf 27 = .ok (.if_icmp .ge 21, 3) := by decide +kernel
theorem dX1_layersAheadOf_30 : decode cX1_layersAheadOf 30 = .ok (.aload_n 0, 1) := by decide +kernel
theorem dX1_layersAheadOf_31 : decode cX1_layersAheadOf 31 = .ok (.getfield 9, 3) := by decide +kernel
theorem dX1_layersAheadOf_34 : decode cX1_layersAheadOf 34 = .ok (.iload_n 2, 1) := by decide +kernel
theorem dX1_layersAheadOf_35 : decode cX1_layersAheadOf 35 = .ok (.iaload, 1) := by decide +kernel
theorem dX1_layersAheadOf_36 : decode cX1_layersAheadOf 36 = .ok (.iload_n 1, 1) := by decide +kernel
theorem dX1_layersAheadOf_37 : decode cX1_layersAheadOf 37 = .ok (.if_icmp .ne 5, 3) := by decide +kernel
theorem dX1_layersAheadOf_40 : decode cX1_layersAheadOf 40 = .ok (.iload_n 2, 1) := by decide +kernel
theorem dX1_layersAheadOf_41 : decode cX1_layersAheadOf 41 = .ok (.ireturn, 1) := by decide +kernel
theorem dX1_layersAheadOf_42 : decode cX1_layersAheadOf 42 = .ok (.iinc 2 1, 3) := by decide +kernel
theorem dX1_layersAheadOf_45 : decode cX1_layersAheadOf 45 = .ok (.goto (-23), 3) := by decide +kernel
theorem dX1_layersAheadOf_48 : decode cX1_layersAheadOf 48 = .ok (.iconst (-1), 1) := by decide +kernel
theorem dX1_layersAheadOf_49 : decode cX1_layersAheadOf 49 = .ok (.ireturn, 1) := by decide +kernel
set_option maxRecDepth 20000 in
theorem ggX1_leastOf_X1_leastSum : GoodIn wsX1_leastOf wsX1_leastSum := goodIn_r _ [5, 6, 7, 8, 9, 4, 10, 11, 12, 13, 14, 15, 16, 17, 18, 19, 20, 21, 22, 23, 24, 25, 26, 27, 28, 29, 30, 31, 32, 33, 34, 35, 36, 37, 38, 39, 40, 41, 42, 43, 44, 45, 46, 47, 48, 49, 50, 51, 52, 53, 54, 55, 56, 57, 58, 59, 60, 61, 62, 63, 64, 65, 66, 67, 68, 69, 70, 71, 72, 73] (by decide +kernel) (by decide +kernel)
set_option maxRecDepth 20000 in
theorem gX1_leastOf_X1_leastSum : GoodIn wsX1_leastOf (wsV RX1 140 RX1 yX1_leastSum wsX1_leastSum) := goodIn_app (goodIn_of _ (by decide +kernel)) ggX1_leastOf_X1_leastSum
theorem dX1_leastOf_0 : decode cX1_leastOf 0 = .ok (.aload_n 0, 1) := by decide +kernel
theorem dX1_leastOf_1 : decode cX1_leastOf 1 = .ok (.iload_n 1, 1) := by decide +kernel
theorem dX1_leastOf_2 : decode cX1_leastOf 2 = .ok (.iload_n 1, 1) := by decide +kernel
theorem dX1_leastOf_3 : decode cX1_leastOf 3 = .ok (.invokevirtual 140, 3) := by decide +kernel
theorem dX1_leastOf_6 : decode cX1_leastOf 6 = .ok (.ireturn, 1) := by decide +kernel
set_option maxRecDepth 20000 in
theorem ggX1_greatestOf_X1_greatestSum : GoodIn wsX1_greatestOf wsX1_greatestSum := goodIn_r _ [5, 6, 7, 8, 9, 4, 10, 11, 12, 13, 14, 15, 16, 17, 18, 19, 20, 21, 22, 23, 24, 25, 26, 27, 28, 29, 30, 31, 32, 33, 34, 35, 36, 37, 38, 39, 40, 41, 42, 43, 44, 45, 46, 47, 48, 49, 50, 51, 52, 53, 54, 55, 56, 57, 58, 59, 60, 61, 62, 63, 64, 65, 66, 67, 68, 69, 70, 71, 72, 73] (by decide +kernel) (by decide +kernel)
set_option maxRecDepth 20000 in
theorem gX1_greatestOf_X1_greatestSum : GoodIn wsX1_greatestOf (wsV RX1 143 RX1 yX1_greatestSum wsX1_greatestSum) := goodIn_app (goodIn_of _ (by decide +kernel)) ggX1_greatestOf_X1_greatestSum
theorem dX1_greatestOf_0 : decode cX1_greatestOf 0 = .ok (.aload_n 0, 1) := by decide +kernel
theorem dX1_greatestOf_1 : decode cX1_greatestOf 1 = .ok (.iload_n 1, 1) := by decide +kernel
theorem dX1_greatestOf_2 : decode cX1_greatestOf 2 = .ok (.iload_n 1, 1) := by decide +kernel
theorem dX1_greatestOf_3 : decode cX1_greatestOf 3 = .ok (.invokevirtual 143, 3) := by decide +kernel
theorem dX1_greatestOf_6 : decode cX1_greatestOf 6 = .ok (.ireturn, 1) := by decide +kernel
set_option maxRecDepth 20000 in
theorem ggX1_isKnown_X1_isLayer : GoodIn wsX1_isKnown wsX1_isLayer := goodIn_r _ [6, 7, 8, 9, 5, 10, 54, 55, 56, 57, 58, 59, 60, 61, 62, 63, 64, 65, 66, 67, 68, 69] (by decide +kernel) (by decide +kernel)
set_option maxRecDepth 20000 in
theorem gX1_isKnown_X1_isLayer : GoodIn wsX1_isKnown (wsV RX1 51 RX1 yX1_isLayer wsX1_isLayer) := goodIn_app (goodIn_of _ (by decide +kernel)) ggX1_isKnown_X1_isLayer
set_option maxRecDepth 20000 in
theorem ggX1_isKnown_X1_isNot : GoodIn wsX1_isKnown wsX1_isNot := goodIn_r _ [14, 1, 54, 55, 56, 57, 58, 59, 60, 61, 62, 63, 64, 65, 66, 67, 68, 69] (by decide +kernel) (by decide +kernel)
set_option maxRecDepth 20000 in
theorem gX1_isKnown_X1_isNot : GoodIn wsX1_isKnown (wsV RX1 146 RX1 yX1_isNot wsX1_isNot) := goodIn_app (goodIn_of _ (by decide +kernel)) ggX1_isKnown_X1_isNot
set_option maxRecDepth 20000 in
theorem ggX1_isKnown_X1_reckon : GoodIn wsX1_isKnown wsX1_reckon := goodIn_r _ [18, 19, 20, 21, 5, 22, 7, 23, 24, 25, 26, 27, 28, 29, 30, 31, 32, 33, 34, 35, 36, 37, 38, 39, 40, 41, 42, 43, 44, 45, 54, 55, 56, 57, 58, 59, 60, 61, 62, 63, 64, 65, 66, 67, 68, 69] (by decide +kernel) (by decide +kernel)
set_option maxRecDepth 20000 in
theorem gX1_isKnown_X1_reckon : GoodIn wsX1_isKnown (wsV RX1 149 RX1 yX1_reckon wsX1_reckon) := goodIn_app (goodIn_of _ (by decide +kernel)) ggX1_isKnown_X1_reckon
set_option maxRecDepth 20000 in
theorem ggX1_isKnown_X1_least : GoodIn wsX1_isKnown wsX1_least := goodIn_r _ [49, 23, 54, 55, 56, 57, 58, 59, 60, 61, 62, 63, 64, 65, 66, 67, 68, 69] (by decide +kernel) (by decide +kernel)
set_option maxRecDepth 20000 in
theorem gX1_isKnown_X1_least : GoodIn wsX1_isKnown (wsV RX1 82 RX1 yX1_least wsX1_least) := goodIn_app (goodIn_of _ (by decide +kernel)) ggX1_isKnown_X1_least
set_option maxRecDepth 20000 in
theorem ggX1_isKnown_X1_greatest : GoodIn wsX1_isKnown wsX1_greatest := goodIn_r _ [53, 23, 54, 55, 56, 57, 58, 59, 60, 61, 62, 63, 64, 65, 66, 67, 68, 69] (by decide +kernel) (by decide +kernel)
set_option maxRecDepth 20000 in
theorem gX1_isKnown_X1_greatest : GoodIn wsX1_isKnown (wsV RX1 79 RX1 yX1_greatest wsX1_greatest) := goodIn_app (goodIn_of _ (by decide +kernel)) ggX1_isKnown_X1_greatest
theorem dX1_isKnown_0 : decode cX1_isKnown 0 = .ok (.aload_n 0, 1) := by decide +kernel
theorem dX1_isKnown_1 : decode cX1_isKnown 1 = .ok (.iconst 0, 1) := by decide +kernel
theorem dX1_isKnown_2 : decode cX1_isKnown 2 = .ok (.putfield 41, 3) := by decide +kernel
theorem dX1_isKnown_5 : decode cX1_isKnown 5 = .ok (.aload_n 0, 1) := by decide +kernel
theorem dX1_isKnown_6 : decode cX1_isKnown 6 = .ok (.iload_n 1, 1) := by decide +kernel
theorem dX1_isKnown_7 : decode cX1_isKnown 7 = .ok (.invokevirtual 51, 3) := by decide +kernel
theorem dX1_isKnown_10 : decode cX1_isKnown 10 = .ok (.ifCond .ne 9, 3) := by decide +kernel
theorem dX1_isKnown_13 : decode cX1_isKnown 13 = .ok (.aload_n 0, 1) := by decide +kernel
theorem dX1_isKnown_14 : decode cX1_isKnown 14 = .ok (.iconst 1, 1) := by decide +kernel
theorem dX1_isKnown_15 : decode cX1_isKnown 15 = .ok (.invokevirtual 146, 3) := by decide +kernel
theorem dX1_isKnown_18 : decode cX1_isKnown 18 = .ok (.ireturn, 1) := by decide +kernel
theorem dX1_isKnown_19 : decode cX1_isKnown 19 = .ok (.aload_n 0, 1) := by decide +kernel
theorem dX1_isKnown_20 : decode cX1_isKnown 20 = .ok (.invokevirtual 149, 3) := by decide +kernel
theorem dX1_isKnown_23 : decode cX1_isKnown 23 = .ok (.aload_n 0, 1) := by decide +kernel
theorem dX1_isKnown_24 : decode cX1_isKnown 24 = .ok (.iload_n 1, 1) := by decide +kernel
theorem dX1_isKnown_25 : decode cX1_isKnown 25 = .ok (.iload_n 1, 1) := by decide +kernel
theorem dX1_isKnown_26 : decode cX1_isKnown 26 = .ok (.invokevirtual 82, 3) := by decide +kernel
theorem dX1_isKnown_29 : decode cX1_isKnown 29 = .ok (.aload_n 0, 1) := by decide +kernel
theorem dX1_isKnown_30 : decode cX1_isKnown 30 = .ok (.iload_n 1, 1) := by decide +kernel
theorem dX1_isKnown_31 : decode cX1_isKnown 31 = .ok (.iload_n 1, 1) := by decide +kernel
theorem dX1_isKnown_32 : decode cX1_isKnown 32 = .ok (.invokevirtual 79, 3) := by decide +kernel
theorem dX1_isKnown_35 : decode cX1_isKnown 35 = .ok (.if_icmp .ne 7, 3) := by decide +kernel
theorem dX1_isKnown_38 : decode cX1_isKnown 38 = .ok (.iconst 1, 1) := by decide +kernel
theorem dX1_isKnown_39 : decode cX1_isKnown 39 = .ok (.goto 4, 3) := by decide +kernel
theorem dX1_isKnown_42 : decode cX1_isKnown 42 = .ok (.iconst 0, 1) := by decide +kernel
theorem dX1_isKnown_43 : decode cX1_isKnown 43 = .ok (.ireturn, 1) := by decide +kernel
set_option maxRecDepth 20000 in
theorem ggX1_surely_X1_greatest : GoodIn wsX1_surely wsX1_greatest := goodIn_r _ [7, 8, 13, 14, 15, 16, 17, 18, 19, 20, 21, 22, 23, 24, 25, 26, 27, 28] (by decide +kernel) (by decide +kernel)
set_option maxRecDepth 20000 in
theorem gX1_surely_X1_greatest : GoodIn wsX1_surely (wsV RX1 79 RX1 yX1_greatest wsX1_greatest) := goodIn_app (goodIn_of _ (by decide +kernel)) ggX1_surely_X1_greatest
set_option maxRecDepth 20000 in
theorem ggX1_surely_X1_least : GoodIn wsX1_surely wsX1_least := goodIn_r _ [12, 8, 13, 14, 15, 16, 17, 18, 19, 20, 21, 22, 23, 24, 25, 26, 27, 28] (by decide +kernel) (by decide +kernel)
set_option maxRecDepth 20000 in
theorem gX1_surely_X1_least : GoodIn wsX1_surely (wsV RX1 82 RX1 yX1_least wsX1_least) := goodIn_app (goodIn_of _ (by decide +kernel)) ggX1_surely_X1_least
theorem dX1_surely_0 : decode cX1_surely 0 = .ok (.iconst 0, 1) := by decide +kernel
theorem dX1_surely_1 : decode cX1_surely 1 = .ok (.istore_n 2, 1) := by decide +kernel
theorem dX1_surely_2 : decode cX1_surely 2 = .ok (.iconst 0, 1) := by decide +kernel
theorem dX1_surely_3 : decode cX1_surely 3 = .ok (.istore_n 3, 1) := by decide +kernel
theorem dX1_surely_4 : decode cX1_surely 4 = .ok (.iload_n 3, 1) := by decide +kernel
theorem dX1_surely_5 : decode cX1_surely 5 = .ok (.aload_n 0, 1) := by decide +kernel
theorem dX1_surely_6 : decode cX1_surely 6 = .ok (.getfield 44, 3) := by decide +kernel
theorem dX1_surely_9 : decode cX1_surely 9 = .ok (.if_icmp .ge 55, 3) := by decide +kernel
theorem dX1_surely_12 : decode cX1_surely 12 = .ok (.iload_n 2, 1) := by decide +kernel
theorem dX1_surely_13 : decode cX1_surely 13 = .ok (.iload_n 1, 1) := by decide +kernel
theorem dX1_surely_14 : decode cX1_surely 14 = .ok (.ifCond .eq 24, 3) := by decide +kernel
theorem dX1_surely_17 : decode cX1_surely 17 = .ok (.aload_n 0, 1) := by decide +kernel
theorem dX1_surely_18 : decode cX1_surely 18 = .ok (.iload_n 3, 1) := by decide +kernel
theorem dX1_surely_19 : decode cX1_surely 19 = .ok (.iload_n 3, 1) := by decide +kernel
theorem dX1_surely_20 : decode cX1_surely 20 = .ok (.invokevirtual 79, 3) := by decide +kernel
theorem dX1_surely_23 : decode cX1_surely 23 = .ok (.aload_n 0, 1) := by decide +kernel
theorem dX1_surely_24 : decode cX1_surely 24 = .ok (.getfield 28, 3) := by decide +kernel
theorem dX1_surely_27 : decode cX1_surely 27 = .ok (.if_icmp .gt 7, 3) := by decide +kernel
theorem dX1_surely_30 : decode cX1_surely 30 = .ok (.iconst 1, 1) := by decide +kernel
theorem dX1_surely_31 : decode cX1_surely 31 = .ok (.goto 25, 3) := by decide +kernel
theorem dX1_surely_34 : decode cX1_surely 34 = .ok (.iconst 0, 1) := by decide +kernel
theorem dX1_surely_35 : decode cX1_surely 35 = .ok (.goto 21, 3) := by decide +kernel
theorem dX1_surely_38 : decode cX1_surely 38 = .ok (.aload_n 0, 1) := by decide +kernel
theorem dX1_surely_39 : decode cX1_surely 39 = .ok (.iload_n 3, 1) := by decide +kernel
theorem dX1_surely_40 : decode cX1_surely 40 = .ok (.iload_n 3, 1) := by decide +kernel
theorem dX1_surely_41 : decode cX1_surely 41 = .ok (.invokevirtual 82, 3) := by decide +kernel
theorem dX1_surely_44 : decode cX1_surely 44 = .ok (.aload_n 0, 1) := by decide +kernel
theorem dX1_surely_45 : decode cX1_surely 45 = .ok (.getfield 28, 3) := by decide +kernel
theorem dX1_surely_48 : decode cX1_surely 48 = .ok (.if_icmp .le 7, 3) := by decide +kernel
theorem dX1_surely_51 : decode cX1_surely 51 = .ok (.iconst 1, 1) := by decide +kernel
theorem dX1_surely_52 : decode cX1_surely 52 = .ok (.goto 4, 3) := by decide +kernel
theorem dX1_surely_55 : decode cX1_surely 55 = .ok (.iconst 0, 1) := by decide +kernel
theorem dX1_surely_56 : decode cX1_surely 56 = .ok (.iadd, 1) := by decide +kernel
theorem dX1_surely_57 : decode cX1_surely 57 = .ok (.istore_n 2, 1) := by decide +kernel
theorem dX1_surely_58 : decode cX1_surely 58 = .ok (.iinc 3 1, 3) := by decide +kernel
theorem dX1_surely_61 : decode cX1_surely 61 = .ok (.goto (-57), 3) := by decide +kernel
theorem dX1_surely_64 : decode cX1_surely 64 = .ok (.iload_n 2, 1) := by decide +kernel
theorem dX1_surely_65 : decode cX1_surely 65 = .ok (.ireturn, 1) := by decide +kernel
set_option maxRecDepth 20000 in
theorem ggX1_surelyDry_X1_reckon : GoodIn wsX1_surelyDry wsX1_reckon := goodIn_r _ [5, 6, 7, 8, 4, 9, 10, 11, 12, 13, 14, 15, 16, 17, 18, 19, 20, 21, 22, 23, 24, 25, 26, 27, 28, 29, 30, 31, 32, 33, 52, 53, 54, 55, 56, 57, 58, 59, 60, 61, 62, 63, 64, 65, 66, 67] (by decide +kernel) (by decide +kernel)
set_option maxRecDepth 20000 in
theorem gX1_surelyDry_X1_reckon : GoodIn wsX1_surelyDry (wsV RX1 149 RX1 yX1_reckon wsX1_reckon) := goodIn_app (goodIn_of _ (by decide +kernel)) ggX1_surelyDry_X1_reckon
set_option maxRecDepth 20000 in
theorem ggX1_surelyDry_X1_surely : GoodIn wsX1_surelyDry wsX1_surely := goodIn_r _ [37, 10, 38, 39, 40, 41, 4, 42, 11, 43, 44, 45, 46, 52, 53, 54, 55, 56, 57, 58, 59, 60, 61, 62, 63, 64, 65, 66, 67] (by decide +kernel) (by decide +kernel)
set_option maxRecDepth 20000 in
theorem gX1_surelyDry_X1_surely : GoodIn wsX1_surelyDry (wsV RX1 152 RX1 yX1_surely wsX1_surely) := goodIn_app (goodIn_of _ (by decide +kernel)) ggX1_surelyDry_X1_surely
set_option maxRecDepth 20000 in
theorem ggX1_surelyDry_X1_ok : GoodIn wsX1_surelyDry wsX1_ok := goodIn_r _ [50, 51, 52, 53, 54, 55, 56, 57, 58, 59, 60, 61, 62, 63, 64, 65, 66, 67] (by decide +kernel) (by decide +kernel)
set_option maxRecDepth 20000 in
theorem gX1_surelyDry_X1_ok : GoodIn wsX1_surelyDry (wsV RX1 133 RX1 yX1_ok wsX1_ok) := goodIn_app (goodIn_of _ (by decide +kernel)) ggX1_surelyDry_X1_ok
theorem dX1_surelyDry_0 : decode cX1_surelyDry 0 = .ok (.aload_n 0, 1) := by decide +kernel
theorem dX1_surelyDry_1 : decode cX1_surelyDry 1 = .ok (.invokevirtual 149, 3) := by decide +kernel
theorem dX1_surelyDry_4 : decode cX1_surelyDry 4 = .ok (.aload_n 0, 1) := by decide +kernel
theorem dX1_surelyDry_5 : decode cX1_surelyDry 5 = .ok (.aload_n 0, 1) := by decide +kernel
theorem dX1_surelyDry_6 : decode cX1_surelyDry 6 = .ok (.iconst 1, 1) := by decide +kernel
theorem dX1_surelyDry_7 : decode cX1_surelyDry 7 = .ok (.invokevirtual 152, 3) := by decide +kernel
theorem dX1_surelyDry_10 : decode cX1_surelyDry 10 = .ok (.invokevirtual 133, 3) := by decide +kernel
theorem dX1_surelyDry_13 : decode cX1_surelyDry 13 = .ok (.ireturn, 1) := by decide +kernel
set_option maxRecDepth 20000 in
theorem ggX1_surelyDamp_X1_reckon : GoodIn wsX1_surelyDamp wsX1_reckon := goodIn_r _ [5, 6, 7, 8, 4, 9, 10, 11, 12, 13, 14, 15, 16, 17, 18, 19, 20, 21, 22, 23, 24, 25, 26, 27, 28, 29, 30, 31, 32, 33, 52, 53, 54, 55, 56, 57, 58, 59, 60, 61, 62, 63, 64, 65, 66, 67] (by decide +kernel) (by decide +kernel)
set_option maxRecDepth 20000 in
theorem gX1_surelyDamp_X1_reckon : GoodIn wsX1_surelyDamp (wsV RX1 149 RX1 yX1_reckon wsX1_reckon) := goodIn_app (goodIn_of _ (by decide +kernel)) ggX1_surelyDamp_X1_reckon
set_option maxRecDepth 20000 in
theorem ggX1_surelyDamp_X1_surely : GoodIn wsX1_surelyDamp wsX1_surely := goodIn_r _ [37, 10, 38, 39, 40, 41, 4, 42, 11, 43, 44, 45, 46, 52, 53, 54, 55, 56, 57, 58, 59, 60, 61, 62, 63, 64, 65, 66, 67] (by decide +kernel) (by decide +kernel)
set_option maxRecDepth 20000 in
theorem gX1_surelyDamp_X1_surely : GoodIn wsX1_surelyDamp (wsV RX1 152 RX1 yX1_surely wsX1_surely) := goodIn_app (goodIn_of _ (by decide +kernel)) ggX1_surelyDamp_X1_surely
set_option maxRecDepth 20000 in
theorem ggX1_surelyDamp_X1_ok : GoodIn wsX1_surelyDamp wsX1_ok := goodIn_r _ [50, 51, 52, 53, 54, 55, 56, 57, 58, 59, 60, 61, 62, 63, 64, 65, 66, 67] (by decide +kernel) (by decide +kernel)
set_option maxRecDepth 20000 in
theorem gX1_surelyDamp_X1_ok : GoodIn wsX1_surelyDamp (wsV RX1 133 RX1 yX1_ok wsX1_ok) := goodIn_app (goodIn_of _ (by decide +kernel)) ggX1_surelyDamp_X1_ok
theorem dX1_surelyDamp_0 : decode cX1_surelyDamp 0 = .ok (.aload_n 0, 1) := by decide +kernel
theorem dX1_surelyDamp_1 : decode cX1_surelyDamp 1 = .ok (.invokevirtual 149, 3) := by decide +kernel
theorem dX1_surelyDamp_4 : decode cX1_surelyDamp 4 = .ok (.aload_n 0, 1) := by decide +kernel
theorem dX1_surelyDamp_5 : decode cX1_surelyDamp 5 = .ok (.aload_n 0, 1) := by decide +kernel
theorem dX1_surelyDamp_6 : decode cX1_surelyDamp 6 = .ok (.iconst 0, 1) := by decide +kernel
theorem dX1_surelyDamp_7 : decode cX1_surelyDamp 7 = .ok (.invokevirtual 152, 3) := by decide +kernel
theorem dX1_surelyDamp_10 : decode cX1_surelyDamp 10 = .ok (.invokevirtual 133, 3) := by decide +kernel
theorem dX1_surelyDamp_13 : decode cX1_surelyDamp 13 = .ok (.ireturn, 1) := by decide +kernel
set_option maxRecDepth 20000 in
theorem ggX1_worstLayer_X1_no : GoodIn wsX1_worstLayer wsX1_no := goodIn_r _ [7, 1, 43, 44, 45, 46, 47, 48, 49, 50, 51, 52, 53, 54, 55, 56, 57, 58] (by decide +kernel) (by decide +kernel)
set_option maxRecDepth 20000 in
theorem gX1_worstLayer_X1_no : GoodIn wsX1_worstLayer (wsV RX1 92 RX1 yX1_no wsX1_no) := goodIn_app (goodIn_of _ (by decide +kernel)) ggX1_worstLayer_X1_no
set_option maxRecDepth 20000 in
theorem ggX1_worstLayer_X1_reckon : GoodIn wsX1_worstLayer wsX1_reckon := goodIn_r _ [11, 12, 13, 14, 6, 15, 2, 16, 17, 18, 19, 20, 21, 22, 23, 24, 25, 26, 27, 28, 29, 30, 31, 32, 33, 34, 35, 36, 37, 38, 43, 44, 45, 46, 47, 48, 49, 50, 51, 52, 53, 54, 55, 56, 57, 58] (by decide +kernel) (by decide +kernel)
set_option maxRecDepth 20000 in
theorem gX1_worstLayer_X1_reckon : GoodIn wsX1_worstLayer (wsV RX1 149 RX1 yX1_reckon wsX1_reckon) := goodIn_app (goodIn_of _ (by decide +kernel)) ggX1_worstLayer_X1_reckon
set_option maxRecDepth 20000 in
theorem ggX1_worstLayer_X1_greatest : GoodIn wsX1_worstLayer wsX1_greatest := goodIn_r _ [42, 16, 43, 44, 45, 46, 47, 48, 49, 50, 51, 52, 53, 54, 55, 56, 57, 58] (by decide +kernel) (by decide +kernel)
set_option maxRecDepth 20000 in
theorem gX1_worstLayer_X1_greatest : GoodIn wsX1_worstLayer (wsV RX1 79 RX1 yX1_greatest wsX1_greatest) := goodIn_app (goodIn_of _ (by decide +kernel)) ggX1_worstLayer_X1_greatest
theorem dX1_worstLayer_0 : decode cX1_worstLayer 0 = .ok (.aload_n 0, 1) := by decide +kernel
theorem dX1_worstLayer_1 : decode cX1_worstLayer 1 = .ok (.iconst 0, 1) := by decide +kernel
theorem dX1_worstLayer_2 : decode cX1_worstLayer 2 = .ok (.putfield 41, 3) := by decide +kernel
theorem dX1_worstLayer_5 : decode cX1_worstLayer 5 = .ok (.aload_n 0, 1) := by decide +kernel
theorem dX1_worstLayer_6 : decode cX1_worstLayer 6 = .ok (.getfield 44, 3) := by decide +kernel
theorem dX1_worstLayer_9 : decode cX1_worstLayer 9 = .ok (.ifCond .ne 9, 3) := by decide +kernel
theorem dX1_worstLayer_12 : decode cX1_worstLayer 12 = .ok (.aload_n 0, 1) := by decide +kernel
theorem dX1_worstLayer_13 : decode cX1_worstLayer 13 = .ok (.iconst 1, 1) := by decide +kernel
theorem dX1_worstLayer_14 : decode cX1_worstLayer 14 = .ok (.invokevirtual 92, 3) := by decide +kernel
theorem dX1_worstLayer_17 : decode cX1_worstLayer 17 = .ok (.ireturn, 1) := by decide +kernel
theorem dX1_worstLayer_18 : decode cX1_worstLayer 18 = .ok (.aload_n 0, 1) := by decide +kernel
theorem dX1_worstLayer_19 : decode cX1_worstLayer 19 = .ok (.invokevirtual 149, 3) := by decide +kernel
theorem dX1_worstLayer_22 : decode cX1_worstLayer 22 = .ok (.iconst 0, 1) := by decide +kernel
theorem dX1_worstLayer_23 : decode cX1_worstLayer 23 = .ok (.istore_n 1, 1) := by decide +kernel
theorem dX1_worstLayer_24 : decode cX1_worstLayer 24 = .ok (.iconst 1, 1) := by decide +kernel
theorem dX1_worstLayer_25 : decode cX1_worstLayer 25 = .ok (.istore_n 2, 1) := by decide +kernel
theorem dX1_worstLayer_26 : decode cX1_worstLayer 26 = .ok (.iload_n 2, 1) := by decide +kernel
theorem dX1_worstLayer_27 : decode cX1_worstLayer 27 = .ok (.aload_n 0, 1) := by decide +kernel
theorem dX1_worstLayer_28 : decode cX1_worstLayer 28 = .ok (.getfield 44, 3) := by decide +kernel
theorem dX1_worstLayer_31 : decode cX1_worstLayer 31 = .ok (.if_icmp .ge 26, 3) := by decide +kernel
theorem dX1_worstLayer_34 : decode cX1_worstLayer 34 = .ok (.aload_n 0, 1) := by decide +kernel
theorem dX1_worstLayer_35 : decode cX1_worstLayer 35 = .ok (.iload_n 2, 1) := by decide +kernel
theorem dX1_worstLayer_36 : decode cX1_worstLayer 36 = .ok (.iload_n 2, 1) := by decide +kernel
theorem dX1_worstLayer_37 : decode cX1_worstLayer 37 = .ok (.invokevirtual 79, 3) := by decide +kernel
theorem dX1_worstLayer_40 : decode cX1_worstLayer 40 = .ok (.aload_n 0, 1) := by decide +kernel
theorem dX1_worstLayer_41 : decode cX1_worstLayer 41 = .ok (.iload_n 1, 1) := by decide +kernel
theorem dX1_worstLayer_42 : decode cX1_worstLayer 42 = .ok (.iload_n 1, 1) := by decide +kernel
theorem dX1_worstLayer_43 : decode cX1_worstLayer 43 = .ok (.invokevirtual 79, 3) := by decide +kernel
theorem dX1_worstLayer_46 : decode cX1_worstLayer 46 = .ok (.if_icmp .le 5, 3) := by decide +kernel
theorem dX1_worstLayer_49 : decode cX1_worstLayer 49 = .ok (.iload_n 2, 1) := by decide +kernel
theorem dX1_worstLayer_50 : decode cX1_worstLayer 50 = .ok (.istore_n 1, 1) := by decide +kernel
theorem dX1_worstLayer_51 : decode cX1_worstLayer 51 = .ok (.iinc 2 1, 3) := by decide +kernel
theorem dX1_worstLayer_54 : decode cX1_worstLayer 54 = .ok (.goto (-28), 3) := by decide +kernel
theorem dX1_worstLayer_57 : decode cX1_worstLayer 57 = .ok (.iload_n 1, 1) := by decide +kernel
theorem dX1_worstLayer_58 : decode cX1_worstLayer 58 = .ok (.ireturn, 1) := by decide +kernel
set_option maxRecDepth 20000 in
theorem ggX1_doubt_X1_reckon : GoodIn wsX1_doubt wsX1_reckon := goodIn_r _ [5, 6, 7, 8, 4, 9, 10, 11, 12, 13, 14, 15, 16, 17, 18, 19, 20, 21, 22, 23, 24, 25, 26, 27, 28, 29, 30, 31, 32, 33, 51, 52, 53, 54, 55, 56, 57, 58, 59, 60, 61, 62, 63, 64, 65, 66] (by decide +kernel) (by decide +kernel)
set_option maxRecDepth 20000 in
theorem gX1_doubt_X1_reckon : GoodIn wsX1_doubt (wsV RX1 149 RX1 yX1_reckon wsX1_reckon) := goodIn_app (goodIn_of _ (by decide +kernel)) ggX1_doubt_X1_reckon
set_option maxRecDepth 20000 in
theorem ggX1_doubt_X1_allDoubt : GoodIn wsX1_doubt wsX1_allDoubt := goodIn_r _ [37, 10, 38, 39, 40, 4, 41, 11, 42, 43, 44, 45, 51, 52, 53, 54, 55, 56, 57, 58, 59, 60, 61, 62, 63, 64, 65, 66] (by decide +kernel) (by decide +kernel)
set_option maxRecDepth 20000 in
theorem gX1_doubt_X1_allDoubt : GoodIn wsX1_doubt (wsV RX1 88 RX1 yX1_allDoubt wsX1_allDoubt) := goodIn_app (goodIn_of _ (by decide +kernel)) ggX1_doubt_X1_allDoubt
set_option maxRecDepth 20000 in
theorem ggX1_doubt_X1_ok : GoodIn wsX1_doubt wsX1_ok := goodIn_r _ [49, 50, 51, 52, 53, 54, 55, 56, 57, 58, 59, 60, 61, 62, 63, 64, 65, 66] (by decide +kernel) (by decide +kernel)
set_option maxRecDepth 20000 in
theorem gX1_doubt_X1_ok : GoodIn wsX1_doubt (wsV RX1 133 RX1 yX1_ok wsX1_ok) := goodIn_app (goodIn_of _ (by decide +kernel)) ggX1_doubt_X1_ok
theorem dX1_doubt_0 : decode cX1_doubt 0 = .ok (.aload_n 0, 1) := by decide +kernel
theorem dX1_doubt_1 : decode cX1_doubt 1 = .ok (.invokevirtual 149, 3) := by decide +kernel
theorem dX1_doubt_4 : decode cX1_doubt 4 = .ok (.aload_n 0, 1) := by decide +kernel
theorem dX1_doubt_5 : decode cX1_doubt 5 = .ok (.aload_n 0, 1) := by decide +kernel
theorem dX1_doubt_6 : decode cX1_doubt 6 = .ok (.invokevirtual 88, 3) := by decide +kernel
theorem dX1_doubt_9 : decode cX1_doubt 9 = .ok (.invokevirtual 133, 3) := by decide +kernel
theorem dX1_doubt_12 : decode cX1_doubt 12 = .ok (.ireturn, 1) := by decide +kernel
set_option maxRecDepth 20000 in
theorem ggX1_leastSum_X1_areLayers : GoodIn wsX1_leastSum wsX1_areLayers := goodIn_r _ [6, 7, 8, 9, 5, 10, 11, 12, 13, 14, 54, 55, 56, 57, 58, 59, 60, 61, 62, 63, 64, 65, 66, 67, 68, 69] (by decide +kernel) (by decide +kernel)
set_option maxRecDepth 20000 in
theorem gX1_leastSum_X1_areLayers : GoodIn wsX1_leastSum (wsV RX1 126 RX1 yX1_areLayers wsX1_areLayers) := goodIn_app (goodIn_of _ (by decide +kernel)) ggX1_leastSum_X1_areLayers
set_option maxRecDepth 20000 in
theorem ggX1_leastSum_X1_no : GoodIn wsX1_leastSum wsX1_no := goodIn_r _ [18, 1, 54, 55, 56, 57, 58, 59, 60, 61, 62, 63, 64, 65, 66, 67, 68, 69] (by decide +kernel) (by decide +kernel)
set_option maxRecDepth 20000 in
theorem gX1_leastSum_X1_no : GoodIn wsX1_leastSum (wsV RX1 92 RX1 yX1_no wsX1_no) := goodIn_app (goodIn_of _ (by decide +kernel)) ggX1_leastSum_X1_no
set_option maxRecDepth 20000 in
theorem ggX1_leastSum_X1_reckon : GoodIn wsX1_leastSum wsX1_reckon := goodIn_r _ [22, 23, 24, 25, 5, 26, 11, 27, 28, 29, 30, 31, 32, 33, 34, 35, 36, 37, 38, 39, 40, 41, 42, 43, 44, 45, 46, 47, 48, 49, 54, 55, 56, 57, 58, 59, 60, 61, 62, 63, 64, 65, 66, 67, 68, 69] (by decide +kernel) (by decide +kernel)
set_option maxRecDepth 20000 in
theorem gX1_leastSum_X1_reckon : GoodIn wsX1_leastSum (wsV RX1 149 RX1 yX1_reckon wsX1_reckon) := goodIn_app (goodIn_of _ (by decide +kernel)) ggX1_leastSum_X1_reckon
set_option maxRecDepth 20000 in
theorem ggX1_leastSum_X1_least : GoodIn wsX1_leastSum wsX1_least := goodIn_r _ [53, 27, 54, 55, 56, 57, 58, 59, 60, 61, 62, 63, 64, 65, 66, 67, 68, 69] (by decide +kernel) (by decide +kernel)
set_option maxRecDepth 20000 in
theorem gX1_leastSum_X1_least : GoodIn wsX1_leastSum (wsV RX1 82 RX1 yX1_least wsX1_least) := goodIn_app (goodIn_of _ (by decide +kernel)) ggX1_leastSum_X1_least
theorem dX1_leastSum_0 : decode cX1_leastSum 0 = .ok (.aload_n 0, 1) := by decide +kernel
theorem dX1_leastSum_1 : decode cX1_leastSum 1 = .ok (.iconst 0, 1) := by decide +kernel
theorem dX1_leastSum_2 : decode cX1_leastSum 2 = .ok (.putfield 41, 3) := by decide +kernel
theorem dX1_leastSum_5 : decode cX1_leastSum 5 = .ok (.aload_n 0, 1) := by decide +kernel
theorem dX1_leastSum_6 : decode cX1_leastSum 6 = .ok (.iload_n 1, 1) := by decide +kernel
theorem dX1_leastSum_7 : decode cX1_leastSum 7 = .ok (.iload_n 2, 1) := by decide +kernel
theorem dX1_leastSum_8 : decode cX1_leastSum 8 = .ok (.invokevirtual 126, 3) := by decide +kernel
theorem dX1_leastSum_11 : decode cX1_leastSum 11 = .ok (.ifCond .ne 9, 3) := by decide +kernel
theorem dX1_leastSum_14 : decode cX1_leastSum 14 = .ok (.aload_n 0, 1) := by decide +kernel
theorem dX1_leastSum_15 : decode cX1_leastSum 15 = .ok (.iconst 1, 1) := by decide +kernel
theorem dX1_leastSum_16 : decode cX1_leastSum 16 = .ok (.invokevirtual 92, 3) := by decide +kernel
theorem dX1_leastSum_19 : decode cX1_leastSum 19 = .ok (.ireturn, 1) := by decide +kernel
theorem dX1_leastSum_20 : decode cX1_leastSum 20 = .ok (.aload_n 0, 1) := by decide +kernel
theorem dX1_leastSum_21 : decode cX1_leastSum 21 = .ok (.invokevirtual 149, 3) := by decide +kernel
theorem dX1_leastSum_24 : decode cX1_leastSum 24 = .ok (.aload_n 0, 1) := by decide +kernel
theorem dX1_leastSum_25 : decode cX1_leastSum 25 = .ok (.iload_n 1, 1) := by decide +kernel
theorem dX1_leastSum_26 : decode cX1_leastSum 26 = .ok (.iload_n 2, 1) := by decide +kernel
theorem dX1_leastSum_27 : decode cX1_leastSum 27 = .ok (.invokevirtual 82, 3) := by decide +kernel
theorem dX1_leastSum_30 : decode cX1_leastSum 30 = .ok (.ireturn, 1) := by decide +kernel
set_option maxRecDepth 20000 in
theorem ggX1_greatestSum_X1_areLayers : GoodIn wsX1_greatestSum wsX1_areLayers := goodIn_r _ [6, 7, 8, 9, 5, 10, 11, 12, 13, 14, 54, 55, 56, 57, 58, 59, 60, 61, 62, 63, 64, 65, 66, 67, 68, 69] (by decide +kernel) (by decide +kernel)
set_option maxRecDepth 20000 in
theorem gX1_greatestSum_X1_areLayers : GoodIn wsX1_greatestSum (wsV RX1 126 RX1 yX1_areLayers wsX1_areLayers) := goodIn_app (goodIn_of _ (by decide +kernel)) ggX1_greatestSum_X1_areLayers
set_option maxRecDepth 20000 in
theorem ggX1_greatestSum_X1_no : GoodIn wsX1_greatestSum wsX1_no := goodIn_r _ [18, 1, 54, 55, 56, 57, 58, 59, 60, 61, 62, 63, 64, 65, 66, 67, 68, 69] (by decide +kernel) (by decide +kernel)
set_option maxRecDepth 20000 in
theorem gX1_greatestSum_X1_no : GoodIn wsX1_greatestSum (wsV RX1 92 RX1 yX1_no wsX1_no) := goodIn_app (goodIn_of _ (by decide +kernel)) ggX1_greatestSum_X1_no
set_option maxRecDepth 20000 in
theorem ggX1_greatestSum_X1_reckon : GoodIn wsX1_greatestSum wsX1_reckon := goodIn_r _ [22, 23, 24, 25, 5, 26, 11, 27, 28, 29, 30, 31, 32, 33, 34, 35, 36, 37, 38, 39, 40, 41, 42, 43, 44, 45, 46, 47, 48, 49, 54, 55, 56, 57, 58, 59, 60, 61, 62, 63, 64, 65, 66, 67, 68, 69] (by decide +kernel) (by decide +kernel)
set_option maxRecDepth 20000 in
theorem gX1_greatestSum_X1_reckon : GoodIn wsX1_greatestSum (wsV RX1 149 RX1 yX1_reckon wsX1_reckon) := goodIn_app (goodIn_of _ (by decide +kernel)) ggX1_greatestSum_X1_reckon
set_option maxRecDepth 20000 in
theorem ggX1_greatestSum_X1_greatest : GoodIn wsX1_greatestSum wsX1_greatest := goodIn_r _ [53, 27, 54, 55, 56, 57, 58, 59, 60, 61, 62, 63, 64, 65, 66, 67, 68, 69] (by decide +kernel) (by decide +kernel)
set_option maxRecDepth 20000 in
theorem gX1_greatestSum_X1_greatest : GoodIn wsX1_greatestSum (wsV RX1 79 RX1 yX1_greatest wsX1_greatest) := goodIn_app (goodIn_of _ (by decide +kernel)) ggX1_greatestSum_X1_greatest
theorem dX1_greatestSum_0 : decode cX1_greatestSum 0 = .ok (.aload_n 0, 1) := by decide +kernel
theorem dX1_greatestSum_1 : decode cX1_greatestSum 1 = .ok (.iconst 0, 1) := by decide +kernel
theorem dX1_greatestSum_2 : decode cX1_greatestSum 2 = .ok (.putfield 41, 3) := by decide +kernel
theorem dX1_greatestSum_5 : decode cX1_greatestSum 5 = .ok (.aload_n 0, 1) := by decide +kernel
theorem dX1_greatestSum_6 : decode cX1_greatestSum 6 = .ok (.iload_n 1, 1) := by decide +kernel
theorem dX1_greatestSum_7 : decode cX1_greatestSum 7 = .ok (.iload_n 2, 1) := by decide +kernel
theorem dX1_greatestSum_8 : decode cX1_greatestSum 8 = .ok (.invokevirtual 126, 3) := by decide +kernel
theorem dX1_greatestSum_11 : decode cX1_greatestSum 11 = .ok (.ifCond .ne 9, 3) := by decide +kernel
theorem dX1_greatestSum_14 : decode cX1_greatestSum 14 = .ok (.aload_n 0, 1) := by decide +kernel
theorem dX1_greatestSum_15 : decode cX1_greatestSum 15 = .ok (.iconst 1, 1) := by decide +kernel
theorem dX1_greatestSum_16 : decode cX1_greatestSum 16 = .ok (.invokevirtual 92, 3) := by decide +kernel
theorem dX1_greatestSum_19 : decode cX1_greatestSum 19 = .ok (.ireturn, 1) := by decide +kernel
theorem dX1_greatestSum_20 : decode cX1_greatestSum 20 = .ok (.aload_n 0, 1) := by decide +kernel
theorem dX1_greatestSum_21 : decode cX1_greatestSum 21 = .ok (.invokevirtual 149, 3) := by decide +kernel
theorem dX1_greatestSum_24 : decode cX1_greatestSum 24 = .ok (.aload_n 0, 1) := by decide +kernel
theorem dX1_greatestSum_25 : decode cX1_greatestSum 25 = .ok (.iload_n 1, 1) := by decide +kernel
theorem dX1_greatestSum_26 : decode cX1_greatestSum 26 = .ok (.iload_n 2, 1) := by decide +kernel
theorem dX1_greatestSum_27 : decode cX1_greatestSum 27 = .ok (.invokevirtual 79, 3) := by decide +kernel
theorem dX1_greatestSum_30 : decode cX1_greatestSum 30 = .ok (.ireturn, 1) := by decide +kernel
set_option maxRecDepth 20000 in
theorem ggX1_doubtBehind_X1_areLayers : GoodIn wsX1_doubtBehind wsX1_areLayers := goodIn_r _ [6, 7, 8, 9, 5, 10, 11, 12, 13, 14, 67, 68, 69, 70, 71, 72, 73, 74, 75, 76, 77, 78, 79, 80, 81, 82] (by decide +kernel) (by decide +kernel)
set_option maxRecDepth 20000 in
theorem gX1_doubtBehind_X1_areLayers : GoodIn wsX1_doubtBehind (wsV RX1 126 RX1 yX1_areLayers wsX1_areLayers) := goodIn_app (goodIn_of _ (by decide +kernel)) ggX1_doubtBehind_X1_areLayers
set_option maxRecDepth 20000 in
theorem ggX1_doubtBehind_X1_behind : GoodIn wsX1_doubtBehind wsX1_behind := goodIn_r _ [18, 19, 20, 21, 5, 22, 11, 23, 24, 25, 26, 27, 28, 29, 30, 31, 32, 33, 34, 35, 36, 37, 38, 39, 40, 41, 42, 43, 44, 45, 46, 47, 48, 49, 50, 51, 52, 53, 54, 55, 56, 57, 58, 59, 60, 61, 62, 67, 68, 69, 70, 71, 72, 73, 74, 75, 76, 77, 78, 79, 80, 81, 82] (by decide +kernel) (by decide +kernel)
set_option maxRecDepth 20000 in
theorem gX1_doubtBehind_X1_behind : GoodIn wsX1_doubtBehind (wsV RX1 156 RX1 yX1_behind wsX1_behind) := goodIn_app (goodIn_of _ (by decide +kernel)) ggX1_doubtBehind_X1_behind
set_option maxRecDepth 20000 in
theorem ggX1_doubtBehind_X1_no : GoodIn wsX1_doubtBehind wsX1_no := goodIn_r _ [66, 1, 67, 68, 69, 70, 71, 72, 73, 74, 75, 76, 77, 78, 79, 80, 81, 82] (by decide +kernel) (by decide +kernel)
set_option maxRecDepth 20000 in
theorem gX1_doubtBehind_X1_no : GoodIn wsX1_doubtBehind (wsV RX1 92 RX1 yX1_no wsX1_no) := goodIn_app (goodIn_of _ (by decide +kernel)) ggX1_doubtBehind_X1_no
theorem dX1_doubtBehind_0 : decode cX1_doubtBehind 0 = .ok (.aload_n 0, 1) := by decide +kernel
theorem dX1_doubtBehind_1 : decode cX1_doubtBehind 1 = .ok (.iconst 0, 1) := by decide +kernel
theorem dX1_doubtBehind_2 : decode cX1_doubtBehind 2 = .ok (.putfield 41, 3) := by decide +kernel
theorem dX1_doubtBehind_5 : decode cX1_doubtBehind 5 = .ok (.aload_n 0, 1) := by decide +kernel
theorem dX1_doubtBehind_6 : decode cX1_doubtBehind 6 = .ok (.iload_n 1, 1) := by decide +kernel
theorem dX1_doubtBehind_7 : decode cX1_doubtBehind 7 = .ok (.iload_n 2, 1) := by decide +kernel
theorem dX1_doubtBehind_8 : decode cX1_doubtBehind 8 = .ok (.invokevirtual 126, 3) := by decide +kernel
theorem dX1_doubtBehind_11 : decode cX1_doubtBehind 11 = .ok (.ifCond .eq 12, 3) := by decide +kernel
theorem dX1_doubtBehind_14 : decode cX1_doubtBehind 14 = .ok (.aload_n 0, 1) := by decide +kernel
theorem dX1_doubtBehind_15 : decode cX1_doubtBehind 15 = .ok (.iload_n 1, 1) := by decide +kernel
theorem dX1_doubtBehind_16 : decode cX1_doubtBehind 16 = .ok (.iload_n 2, 1) := by decide +kernel
theorem dX1_doubtBehind_17 : decode cX1_doubtBehind 17 = .ok (.invokevirtual 156, 3) := by decide +kernel
theorem dX1_doubtBehind_20 : decode cX1_doubtBehind 20 = .ok (.goto 8, 3) := by decide +kernel
theorem dX1_doubtBehind_23 : decode cX1_doubtBehind 23 = .ok (.aload_n 0, 1) := by decide +kernel
theorem dX1_doubtBehind_24 : decode cX1_doubtBehind 24 = .ok (.iconst 1, 1) := by decide +kernel
theorem dX1_doubtBehind_25 : decode cX1_doubtBehind 25 = .ok (.invokevirtual 92, 3) := by decide +kernel
theorem dX1_doubtBehind_28 : decode cX1_doubtBehind 28 = .ok (.ireturn, 1) := by decide +kernel
set_option maxRecDepth 20000 in
theorem ggX1_bestToLookAt_X1_no : GoodIn wsX1_bestToLookAt wsX1_no := goodIn_r _ [8, 1, 56, 57, 58, 59, 60, 61, 62, 63, 64, 65, 66, 67, 68, 69, 70, 71] (by decide +kernel) (by decide +kernel)
set_option maxRecDepth 20000 in
theorem gX1_bestToLookAt_X1_no : GoodIn wsX1_bestToLookAt (wsV RX1 92 RX1 yX1_no wsX1_no) := goodIn_app (goodIn_of _ (by decide +kernel)) ggX1_bestToLookAt_X1_no
set_option maxRecDepth 20000 in
theorem ggX1_bestToLookAt_X1_behind : GoodIn wsX1_bestToLookAt wsX1_behind := goodIn_r _ [12, 13, 14, 15, 7, 16, 2, 17, 3, 18, 19, 20, 21, 22, 23, 24, 25, 26, 27, 28, 29, 30, 31, 32, 33, 34, 35, 36, 37, 38, 39, 40, 41, 42, 43, 44, 45, 46, 47, 48, 49, 50, 51, 52, 53, 54, 55, 56, 57, 58, 59, 60, 61, 62, 63, 64, 65, 66, 67, 68, 69, 70, 71] (by decide +kernel) (by decide +kernel)
set_option maxRecDepth 20000 in
theorem gX1_bestToLookAt_X1_behind : GoodIn wsX1_bestToLookAt (wsV RX1 156 RX1 yX1_behind wsX1_behind) := goodIn_app (goodIn_of _ (by decide +kernel)) ggX1_bestToLookAt_X1_behind
theorem dX1_bestToLookAt_0 : decode cX1_bestToLookAt 0 = .ok (.aload_n 0, 1) := by decide +kernel
theorem dX1_bestToLookAt_1 : decode cX1_bestToLookAt 1 = .ok (.iconst 0, 1) := by decide +kernel
theorem dX1_bestToLookAt_2 : decode cX1_bestToLookAt 2 = .ok (.putfield 41, 3) := by decide +kernel
theorem dX1_bestToLookAt_5 : decode cX1_bestToLookAt 5 = .ok (.aload_n 0, 1) := by decide +kernel
theorem dX1_bestToLookAt_6 : decode cX1_bestToLookAt 6 = .ok (.getfield 44, 3) := by decide +kernel
theorem dX1_bestToLookAt_9 : decode cX1_bestToLookAt 9 = .ok (.ifCond .ne 9, 3) := by decide +kernel
theorem dX1_bestToLookAt_12 : decode cX1_bestToLookAt 12 = .ok (.aload_n 0, 1) := by decide +kernel
theorem dX1_bestToLookAt_13 : decode cX1_bestToLookAt 13 = .ok (.iconst 1, 1) := by decide +kernel
theorem dX1_bestToLookAt_14 : decode cX1_bestToLookAt 14 = .ok (.invokevirtual 92, 3) := by decide +kernel
theorem dX1_bestToLookAt_17 : decode cX1_bestToLookAt 17 = .ok (.ireturn, 1) := by decide +kernel
theorem dX1_bestToLookAt_18 : decode cX1_bestToLookAt 18 = .ok (.iconst (-1), 1) := by decide +kernel
theorem dX1_bestToLookAt_19 : decode cX1_bestToLookAt 19 = .ok (.istore_n 1, 1) := by decide +kernel
theorem dX1_bestToLookAt_20 : decode cX1_bestToLookAt 20 = .ok (.ldc 68, 2) := by decide +kernel
theorem dX1_bestToLookAt_22 : decode cX1_bestToLookAt 22 = .ok (.istore_n 2, 1) := by decide +kernel
theorem dX1_bestToLookAt_23 : decode cX1_bestToLookAt 23 = .ok (.iconst 0, 1) := by decide +kernel
theorem dX1_bestToLookAt_24 : decode cX1_bestToLookAt 24 = .ok (.istore_n 3, 1) := by decide +kernel
theorem dX1_bestToLookAt_25 : decode cX1_bestToLookAt 25 = .ok (.iload_n 3, 1) := by decide +kernel
theorem dX1_bestToLookAt_26 : decode cX1_bestToLookAt 26 = .ok (.aload_n 0, 1) := by decide +kernel
theorem dX1_bestToLookAt_27 : decode cX1_bestToLookAt 27 = .ok (.getfield 44, 3) := by decide +kernel
theorem dX1_bestToLookAt_30 : decode cX1_bestToLookAt 30 = .ok (.if_icmp .ge 31, 3) := by decide +kernel
theorem dX1_bestToLookAt_33 : decode cX1_bestToLookAt 33 = .ok (.aload_n 0, 1) := by decide +kernel
theorem dX1_bestToLookAt_34 : decode cX1_bestToLookAt 34 = .ok (.iload_n 3, 1) := by decide +kernel
theorem dX1_bestToLookAt_35 : decode cX1_bestToLookAt 35 = .ok (.iload_n 3, 1) := by decide +kernel
theorem dX1_bestToLookAt_36 : decode cX1_bestToLookAt 36 = .ok (.invokevirtual 156, 3) := by decide +kernel
theorem dX1_bestToLookAt_39 : decode cX1_bestToLookAt 39 = .ok (.istore 4, 2) := by decide +kernel
theorem dX1_bestToLookAt_41 : decode cX1_bestToLookAt 41 = .ok (.iload 4, 2) := by decide +kernel
theorem dX1_bestToLookAt_43 : decode cX1_bestToLookAt 43 = .ok (.iload_n 2, 1) := by decide +kernel
theorem dX1_bestToLookAt_44 : decode cX1_bestToLookAt 44 = .ok (.if_icmp .lt 6, 3) := by decide +kernel
theorem dX1_bestToLookAt_47 : decode cX1_bestToLookAt 47 = .ok (.goto 8, 3) := by decide +kernel
theorem dX1_bestToLookAt_50 : decode cX1_bestToLookAt 50 = .ok (.iload_n 3, 1) := by decide +kernel
theorem dX1_bestToLookAt_51 : decode cX1_bestToLookAt 51 = .ok (.istore_n 1, 1) := by decide +kernel
theorem dX1_bestToLookAt_52 : decode cX1_bestToLookAt 52 = .ok (.iload 4, 2) := by decide +kernel
theorem dX1_bestToLookAt_54 : decode cX1_bestToLookAt 54 = .ok (.istore_n 2, 1) := by decide +kernel
theorem dX1_bestToLookAt_55 : decode cX1_bestToLookAt 55 = .ok (.iinc 3 1, 3) := by decide +kernel
theorem dX1_bestToLookAt_58 : decode cX1_bestToLookAt 58 = .ok (.goto (-33), 3) := by decide +kernel
theorem dX1_bestToLookAt_61 : decode cX1_bestToLookAt 61 = .ok (.iload_n 1, 1) := by decide +kernel
theorem dX1_bestToLookAt_62 : decode cX1_bestToLookAt 62 = .ok (.ireturn, 1) := by decide +kernel
theorem dX1_keep_0 : decode cX1_keep 0 = .ok (.aload_n 0, 1) := by decide +kernel
theorem dX1_keep_1 : decode cX1_keep 1 = .ok (.getfield 13, 3) := by decide +kernel
theorem dX1_keep_4 : decode cX1_keep 4 = .ok (.iconst 0, 1) := by decide +kernel
theorem dX1_keep_5 : decode cX1_keep 5 = .ok (.aload_n 0, 1) := by decide +kernel
theorem dX1_keep_6 : decode cX1_keep 6 = .ok (.getfield 35, 3) := by decide +kernel
theorem dX1_keep_9 : decode cX1_keep 9 = .ok (.iconst 0, 1) := by decide +kernel
theorem dX1_keep_10 : decode cX1_keep 10 = .ok (.bipush 12, 2) := by decide +kernel
theorem dX1_keep_12 : decode cX1_keep 12 = .ok (.invokestatic 159, 3) := by decide +kernel
theorem dX1_keep_15 : decode cX1_keep 15 = .ok (.return_, 1) := by decide +kernel
theorem dX1_bringBack_0 : decode cX1_bringBack 0 = .ok (.aload_n 0, 1) := by decide +kernel
theorem dX1_bringBack_1 : decode cX1_bringBack 1 = .ok (.getfield 35, 3) := by decide +kernel
theorem dX1_bringBack_4 : decode cX1_bringBack 4 = .ok (.iconst 0, 1) := by decide +kernel
theorem dX1_bringBack_5 : decode cX1_bringBack 5 = .ok (.aload_n 0, 1) := by decide +kernel
theorem dX1_bringBack_6 : decode cX1_bringBack 6 = .ok (.getfield 13, 3) := by decide +kernel
theorem dX1_bringBack_9 : decode cX1_bringBack 9 = .ok (.iconst 0, 1) := by decide +kernel
theorem dX1_bringBack_10 : decode cX1_bringBack 10 = .ok (.bipush 12, 2) := by decide +kernel
theorem dX1_bringBack_12 : decode cX1_bringBack 12 = .ok (.invokestatic 159, 3) := by decide +kernel
theorem dX1_bringBack_15 : decode cX1_bringBack 15 = .ok (.return_, 1) := by decide +kernel
set_option maxRecDepth 20000 in
theorem ggX1_dampnessIn_X1_isLayer : GoodIn wsX1_dampnessIn wsX1_isLayer := goodIn_r _ [7, 8, 9, 10, 6, 11, 42, 43, 44, 45, 46, 47, 48, 49, 50, 51, 52, 53, 54, 55, 56, 57] (by decide +kernel) (by decide +kernel)
set_option maxRecDepth 20000 in
theorem gX1_dampnessIn_X1_isLayer : GoodIn wsX1_dampnessIn (wsV RX1 51 RX1 yX1_isLayer wsX1_isLayer) := goodIn_app (goodIn_of _ (by decide +kernel)) ggX1_dampnessIn_X1_isLayer
set_option maxRecDepth 20000 in
theorem ggX1_dampnessIn_X1_no : GoodIn wsX1_dampnessIn wsX1_no := goodIn_r _ [15, 1, 42, 43, 44, 45, 46, 47, 48, 49, 50, 51, 52, 53, 54, 55, 56, 57] (by decide +kernel) (by decide +kernel)
set_option maxRecDepth 20000 in
theorem gX1_dampnessIn_X1_no : GoodIn wsX1_dampnessIn (wsV RX1 92 RX1 yX1_no wsX1_no) := goodIn_app (goodIn_of _ (by decide +kernel)) ggX1_dampnessIn_X1_no
set_option maxRecDepth 20000 in
theorem ggX1_dampnessIn_X1_isIn : GoodIn wsX1_dampnessIn wsX1_isIn := goodIn_r _ [11] (by decide +kernel) (by decide +kernel)
set_option maxRecDepth 20000 in
theorem gX1_dampnessIn_X1_isIn : GoodIn wsX1_dampnessIn (va_wsS RX1 47 yX1_isIn wsX1_isIn) := goodIn_app (goodIn_of _ (by decide +kernel)) ggX1_dampnessIn_X1_isIn
set_option maxRecDepth 20000 in
theorem ggX1_dampnessIn_X1_keep : GoodIn wsX1_dampnessIn wsX1_keep := goodIn_r _ [19, 2, 20, 21, 22, 23, 24, 42, 43, 44, 45, 46, 47, 48, 49, 50, 51, 52, 53, 54, 55, 56, 57] (by decide +kernel) (by decide +kernel)
set_option maxRecDepth 20000 in
theorem gX1_dampnessIn_X1_keep : GoodIn wsX1_dampnessIn (wsV RX1 165 RX1 yX1_keep wsX1_keep) := goodIn_app (goodIn_of _ (by decide +kernel)) ggX1_dampnessIn_X1_keep
set_option maxRecDepth 20000 in
theorem ggX1_dampnessIn_X1_evenOut : GoodIn wsX1_dampnessIn wsX1_evenOut := goodIn_r _ [28, 8, 29, 2, 30, 31, 32, 6, 33, 3, 4, 5, 7, 9, 10, 11, 34, 35, 36, 37, 42, 43, 44, 45, 46, 47, 48, 49, 50, 51, 52, 53, 54, 55, 56, 57] (by decide +kernel) (by decide +kernel)
set_option maxRecDepth 20000 in
theorem gX1_dampnessIn_X1_evenOut : GoodIn wsX1_dampnessIn (wsV RX1 120 RX1 yX1_evenOut wsX1_evenOut) := goodIn_app (goodIn_of _ (by decide +kernel)) ggX1_dampnessIn_X1_evenOut
set_option maxRecDepth 20000 in
theorem ggX1_dampnessIn_X1_bringBack : GoodIn wsX1_dampnessIn wsX1_bringBack := goodIn_r _ [41, 20, 2, 21, 22, 23, 24, 42, 43, 44, 45, 46, 47, 48, 49, 50, 51, 52, 53, 54, 55, 56, 57] (by decide +kernel) (by decide +kernel)
set_option maxRecDepth 20000 in
theorem gX1_dampnessIn_X1_bringBack : GoodIn wsX1_dampnessIn (wsV RX1 168 RX1 yX1_bringBack wsX1_bringBack) := goodIn_app (goodIn_of _ (by decide +kernel)) ggX1_dampnessIn_X1_bringBack
theorem dX1_dampnessIn_0 : decode cX1_dampnessIn 0 = .ok (.aload_n 0, 1) := by decide +kernel
theorem dX1_dampnessIn_1 : decode cX1_dampnessIn 1 = .ok (.iconst 0, 1) := by decide +kernel
theorem dX1_dampnessIn_2 : decode cX1_dampnessIn 2 = .ok (.putfield 41, 3) := by decide +kernel
theorem dX1_dampnessIn_5 : decode cX1_dampnessIn 5 = .ok (.aload_n 0, 1) := by decide +kernel
theorem dX1_dampnessIn_6 : decode cX1_dampnessIn 6 = .ok (.iload_n 1, 1) := by decide +kernel
theorem dX1_dampnessIn_7 : decode cX1_dampnessIn 7 = .ok (.invokevirtual 51, 3) := by decide +kernel
theorem dX1_dampnessIn_10 : decode cX1_dampnessIn 10 = .ok (.ifCond .ne 9, 3) := by decide +kernel
theorem dX1_dampnessIn_13 : decode cX1_dampnessIn 13 = .ok (.aload_n 0, 1) := by decide +kernel
theorem dX1_dampnessIn_14 : decode cX1_dampnessIn 14 = .ok (.iconst 1, 1) := by decide +kernel
theorem dX1_dampnessIn_15 : decode cX1_dampnessIn 15 = .ok (.invokevirtual 92, 3) := by decide +kernel
theorem dX1_dampnessIn_18 : decode cX1_dampnessIn 18 = .ok (.ireturn, 1) := by decide +kernel
theorem dX1_dampnessIn_19 : decode cX1_dampnessIn 19 = .ok (.iload_n 2, 1) := by decide +kernel
theorem dX1_dampnessIn_20 : decode cX1_dampnessIn 20 = .ok (.iconst 1, 1) := by decide +kernel
theorem dX1_dampnessIn_21 : decode cX1_dampnessIn 21 = .ok (.bipush 50, 2) := by decide +kernel
theorem dX1_dampnessIn_23 : decode cX1_dampnessIn 23 = .ok (.invokestatic 47, 3) := by decide +kernel
theorem dX1_dampnessIn_26 : decode cX1_dampnessIn 26 = .ok (.ifCond .ne 9, 3) := by decide +kernel
theorem dX1_dampnessIn_29 : decode cX1_dampnessIn 29 = .ok (.aload_n 0, 1) := by decide +kernel
theorem dX1_dampnessIn_30 : decode cX1_dampnessIn 30 = .ok (.iconst 2, 1) := by decide +kernel
theorem dX1_dampnessIn_31 : decode cX1_dampnessIn 31 = .ok (.invokevirtual 92, 3) := by decide +kernel
theorem dX1_dampnessIn_34 : decode cX1_dampnessIn 34 = .ok (.ireturn, 1) := by decide +kernel
theorem dX1_dampnessIn_35 : decode cX1_dampnessIn 35 = .ok (.aload_n 0, 1) := by decide +kernel
theorem dX1_dampnessIn_36 : decode cX1_dampnessIn 36 = .ok (.invokevirtual 165, 3) := by decide +kernel
theorem dX1_dampnessIn_39 : decode cX1_dampnessIn 39 = .ok (.iconst 0, 1) := by decide +kernel
theorem dX1_dampnessIn_40 : decode cX1_dampnessIn 40 = .ok (.istore_n 3, 1) := by decide +kernel
theorem dX1_dampnessIn_41 : decode cX1_dampnessIn 41 = .ok (.iload_n 3, 1) := by decide +kernel
theorem dX1_dampnessIn_42 : decode cX1_dampnessIn 42 = .ok (.iload_n 2, 1) := by decide +kernel
theorem dX1_dampnessIn_43 : decode cX1_dampnessIn 43 = .ok (.if_icmp .ge 14, 3) := by decide +kernel
theorem dX1_dampnessIn_46 : decode cX1_dampnessIn 46 = .ok (.aload_n 0, 1) := by decide +kernel
theorem dX1_dampnessIn_47 : decode cX1_dampnessIn 47 = .ok (.invokevirtual 120, 3) := by decide +kernel
theorem dX1_dampnessIn_50 : decode cX1_dampnessIn 50 = .ok (.pop, 1) := by decide +kernel
theorem dX1_dampnessIn_51 : decode cX1_dampnessIn 51 = .ok (.iinc 3 1, 3) := by decide +kernel
theorem dX1_dampnessIn_54 : decode cX1_dampnessIn 54 = .ok (.goto (-13), 3) := by decide +kernel
theorem dX1_dampnessIn_57 : decode cX1_dampnessIn 57 = .ok (.aload_n 0, 1) := by decide +kernel
theorem dX1_dampnessIn_58 : decode cX1_dampnessIn 58 = .ok (.getfield 13, 3) := by decide +kernel
theorem dX1_dampnessIn_61 : decode cX1_dampnessIn 61 = .ok (.iload_n 1, 1) := by decide +kernel
theorem dX1_dampnessIn_62 : decode cX1_dampnessIn 62 = .ok (.iaload, 1) := by decide +kernel
theorem dX1_dampnessIn_63 : decode cX1_dampnessIn 63 = .ok (.istore_n 3, 1) := by decide +kernel
theorem dX1_dampnessIn_64 : decode cX1_dampnessIn 64 = .ok (.aload_n 0, 1) := by decide +kernel
theorem dX1_dampnessIn_65 : decode cX1_dampnessIn 65 = .ok (.invokevirtual 168, 3) := by decide +kernel
theorem dX1_dampnessIn_68 : decode cX1_dampnessIn 68 = .ok (.iload_n 3, 1) := by decide +kernel
theorem dX1_dampnessIn_69 : decode cX1_dampnessIn 69 = .ok (.ireturn, 1) := by decide +kernel
set_option maxRecDepth 20000 in
theorem ggX1_daysUntilEven_X1_keep : GoodIn wsX1_daysUntilEven wsX1_keep := goodIn_r _ [6, 7, 8, 9, 10, 11, 12, 38, 39, 40, 41, 42, 43, 44, 45, 46, 47, 48, 49, 50, 51, 52, 53] (by decide +kernel) (by decide +kernel)
set_option maxRecDepth 20000 in
theorem gX1_daysUntilEven_X1_keep : GoodIn wsX1_daysUntilEven (wsV RX1 165 RX1 yX1_keep wsX1_keep) := goodIn_app (goodIn_of _ (by decide +kernel)) ggX1_daysUntilEven_X1_keep
set_option maxRecDepth 20000 in
theorem ggX1_daysUntilEven_X1_evenOut : GoodIn wsX1_daysUntilEven wsX1_evenOut := goodIn_r _ [16, 17, 18, 7, 19, 20, 21, 5, 22, 23, 24, 25, 26, 27, 28, 29, 30, 31, 32, 33, 38, 39, 40, 41, 42, 43, 44, 45, 46, 47, 48, 49, 50, 51, 52, 53] (by decide +kernel) (by decide +kernel)
set_option maxRecDepth 20000 in
theorem gX1_daysUntilEven_X1_evenOut : GoodIn wsX1_daysUntilEven (wsV RX1 120 RX1 yX1_evenOut wsX1_evenOut) := goodIn_app (goodIn_of _ (by decide +kernel)) ggX1_daysUntilEven_X1_evenOut
set_option maxRecDepth 20000 in
theorem ggX1_daysUntilEven_X1_bringBack : GoodIn wsX1_daysUntilEven wsX1_bringBack := goodIn_r _ [37, 8, 7, 9, 10, 11, 12, 38, 39, 40, 41, 42, 43, 44, 45, 46, 47, 48, 49, 50, 51, 52, 53] (by decide +kernel) (by decide +kernel)
set_option maxRecDepth 20000 in
theorem gX1_daysUntilEven_X1_bringBack : GoodIn wsX1_daysUntilEven (wsV RX1 168 RX1 yX1_bringBack wsX1_bringBack) := goodIn_app (goodIn_of _ (by decide +kernel)) ggX1_daysUntilEven_X1_bringBack
theorem dX1_daysUntilEven_0 : decode cX1_daysUntilEven 0 = .ok (.aload_n 0, 1) := by decide +kernel
theorem dX1_daysUntilEven_1 : decode cX1_daysUntilEven 1 = .ok (.iconst 0, 1) := by decide +kernel
theorem dX1_daysUntilEven_2 : decode cX1_daysUntilEven 2 = .ok (.putfield 41, 3) := by decide +kernel
theorem dX1_daysUntilEven_5 : decode cX1_daysUntilEven 5 = .ok (.aload_n 0, 1) := by decide +kernel
theorem dX1_daysUntilEven_6 : decode cX1_daysUntilEven 6 = .ok (.invokevirtual 165, 3) := by decide +kernel
theorem dX1_daysUntilEven_9 : decode cX1_daysUntilEven 9 = .ok (.iconst 0, 1) := by decide +kernel
theorem dX1_daysUntilEven_10 : decode cX1_daysUntilEven 10 = .ok (.istore_n 1, 1) := by decide +kernel
theorem dX1_daysUntilEven_11 : decode cX1_daysUntilEven 11 = .ok (.iload_n 1, 1) := by decide +kernel
theorem dX1_daysUntilEven_12 : decode cX1_daysUntilEven 12 = .ok (.sipush 200, 3) := by decide +kernel
theorem dX1_daysUntilEven_15 : decode cX1_daysUntilEven 15 = .ok (.if_icmp .gt 16, 3) := by decide +kernel
theorem dX1_daysUntilEven_18 : decode cX1_daysUntilEven 18 = .ok (.aload_n 0, 1) := by decide +kernel
theorem dX1_daysUntilEven_19 : decode cX1_daysUntilEven 19 = .ok (.invokevirtual 120, 3) := by decide +kernel
theorem dX1_daysUntilEven_22 : decode cX1_daysUntilEven 22 = .ok (.ifCond .le 9, 3) := by decide +kernel
theorem dX1_daysUntilEven_25 : decode cX1_daysUntilEven 25 = .ok (.iinc 1 1, 3) := by decide +kernel
theorem dX1_daysUntilEven_28 : decode cX1_daysUntilEven 28 = .ok (.goto (-17), 3) := by decide +kernel
theorem dX1_daysUntilEven_31 : decode cX1_daysUntilEven 31 = .ok (.aload_n 0, 1) := by decide +kernel
theorem dX1_daysUntilEven_32 : decode cX1_daysUntilEven 32 = .ok (.invokevirtual 168, 3) := by decide +kernel
theorem dX1_daysUntilEven_35 : decode cX1_daysUntilEven 35 = .ok (.iload_n 1, 1) := by decide +kernel
theorem dX1_daysUntilEven_36 : decode cX1_daysUntilEven 36 = .ok (.sipush 200, 3) := by decide +kernel
theorem dX1_daysUntilEven_39 : decode cX1_daysUntilEven 39 = .ok (.if_icmp .le 7, 3) := by decide +kernel
theorem dX1_daysUntilEven_42 : decode cX1_daysUntilEven 42 = .ok (.iconst (-1), 1) := by decide +kernel
theorem dX1_daysUntilEven_43 : decode cX1_daysUntilEven 43 = .ok (.goto 4, 3) := by decide +kernel
theorem dX1_daysUntilEven_46 : decode cX1_daysUntilEven 46 = .ok (.iload_n 1, 1) := by decide +kernel
theorem dX1_daysUntilEven_47 : decode cX1_daysUntilEven 47 = .ok (.ireturn, 1) := by decide +kernel
set_option maxRecDepth 20000 in
theorem ggX1_meanDampness_X1_added : GoodIn wsX1_meanDampness wsX1_added := goodIn_r _ [7, 8, 9, 10, 11, 12, 13, 14, 15, 16, 17, 18, 19, 20, 21, 22, 23, 24] (by decide +kernel) (by decide +kernel)
set_option maxRecDepth 20000 in
theorem gX1_meanDampness_X1_added : GoodIn wsX1_meanDampness (wsV RX1 85 RX1 yX1_added wsX1_added) := goodIn_app (goodIn_of _ (by decide +kernel)) ggX1_meanDampness_X1_added
theorem dX1_meanDampness_0 : decode cX1_meanDampness 0 = .ok (.aload_n 0, 1) := by decide +kernel
theorem dX1_meanDampness_1 : decode cX1_meanDampness 1 = .ok (.iconst 0, 1) := by decide +kernel
theorem dX1_meanDampness_2 : decode cX1_meanDampness 2 = .ok (.putfield 41, 3) := by decide +kernel
theorem dX1_meanDampness_5 : decode cX1_meanDampness 5 = .ok (.aload_n 0, 1) := by decide +kernel
theorem dX1_meanDampness_6 : decode cX1_meanDampness 6 = .ok (.getfield 44, 3) := by decide +kernel
theorem dX1_meanDampness_9 : decode cX1_meanDampness 9 = .ok (.ifCond .ne 7, 3) := by decide +kernel
theorem dX1_meanDampness_12 : decode cX1_meanDampness 12 = .ok (.dconst 0, 1) := by decide +kernel
theorem dX1_meanDampness_13 : decode cX1_meanDampness 13 = .ok (.goto 21, 3) := by decide +kernel
theorem dX1_meanDampness_16 : decode cX1_meanDampness 16 = .ok (.aload_n 0, 1) := by decide +kernel
theorem dX1_meanDampness_17 : decode cX1_meanDampness 17 = .ok (.iconst 0, 1) := by decide +kernel
theorem dX1_meanDampness_18 : decode cX1_meanDampness 18 = .ok (.aload_n 0, 1) := by decide +kernel
theorem dX1_meanDampness_19 : decode cX1_meanDampness 19 = .ok (.getfield 44, 3) := by decide +kernel
theorem dX1_meanDampness_22 : decode cX1_meanDampness 22 = .ok (.iconst 1, 1) := by decide +kernel
theorem dX1_meanDampness_23 : decode cX1_meanDampness 23 = .ok (.isub, 1) := by decide +kernel
theorem dX1_meanDampness_24 : decode cX1_meanDampness 24 = .ok (.invokevirtual 85, 3) := by decide +kernel
theorem dX1_meanDampness_27 : decode cX1_meanDampness 27 = .ok (.i2d, 1) := by decide +kernel
theorem dX1_meanDampness_28 : decode cX1_meanDampness 28 = .ok (.aload_n 0, 1) := by decide +kernel
theorem dX1_meanDampness_29 : decode cX1_meanDampness 29 = .ok (.getfield 44, 3) := by decide +kernel
theorem dX1_meanDampness_32 : decode cX1_meanDampness 32 = .ok (.i2d, 1) := by decide +kernel
theorem dX1_meanDampness_33 : decode cX1_meanDampness 33 = .ok (.ddiv, 1) := by decide +kernel
theorem dX1_meanDampness_34 : decode cX1_meanDampness 34 = .ok (.dreturn, 1) := by decide +kernel
set_option maxRecDepth 20000 in
theorem ggX1_digest_X1_reckon : GoodIn wsX1_digest wsX1_reckon := goodIn_r _ [21, 22, 23, 24, 20, 25, 3, 26, 27, 4, 13, 14, 15, 16, 28, 29, 30, 31, 32, 33, 34, 35, 36, 37, 38, 39, 40, 41, 42, 43, 60, 61, 62, 63, 64, 65, 66, 67, 68, 69, 70, 71, 72, 73, 74, 75] (by decide +kernel) (by decide +kernel)
set_option maxRecDepth 20000 in
theorem gX1_digest_X1_reckon : GoodIn wsX1_digest (wsV RX1 149 RX1 yX1_reckon wsX1_reckon) := goodIn_app (goodIn_of _ (by decide +kernel)) ggX1_digest_X1_reckon
set_option maxRecDepth 20000 in
theorem ggX1_digest_X1_allDoubt : GoodIn wsX1_digest wsX1_allDoubt := goodIn_r _ [47, 3, 48, 49, 50, 20, 51, 26, 52, 53, 54, 55, 60, 61, 62, 63, 64, 65, 66, 67, 68, 69, 70, 71, 72, 73, 74, 75] (by decide +kernel) (by decide +kernel)
set_option maxRecDepth 20000 in
theorem gX1_digest_X1_allDoubt : GoodIn wsX1_digest (wsV RX1 88 RX1 yX1_allDoubt wsX1_allDoubt) := goodIn_app (goodIn_of _ (by decide +kernel)) ggX1_digest_X1_allDoubt
set_option maxRecDepth 20000 in
theorem ggX1_digest_X1_surely : GoodIn wsX1_digest wsX1_surely := goodIn_r _ [59, 3, 6, 48, 49, 50, 20, 51, 26, 52, 53, 54, 55, 60, 61, 62, 63, 64, 65, 66, 67, 68, 69, 70, 71, 72, 73, 74, 75] (by decide +kernel) (by decide +kernel)
set_option maxRecDepth 20000 in
theorem gX1_digest_X1_surely : GoodIn wsX1_digest (wsV RX1 152 RX1 yX1_surely wsX1_surely) := goodIn_app (goodIn_of _ (by decide +kernel)) ggX1_digest_X1_surely
set_option maxRecDepth 20000 in
theorem ggX1_digest_X1_least : GoodIn wsX1_digest wsX1_least := goodIn_r _ [55, 26, 60, 61, 62, 63, 64, 65, 66, 67, 68, 69, 70, 71, 72, 73, 74, 75] (by decide +kernel) (by decide +kernel)
set_option maxRecDepth 20000 in
theorem gX1_digest_X1_least : GoodIn wsX1_digest (wsV RX1 82 RX1 yX1_least wsX1_least) := goodIn_app (goodIn_of _ (by decide +kernel)) ggX1_digest_X1_least
set_option maxRecDepth 20000 in
theorem ggX1_digest_X1_greatest : GoodIn wsX1_digest wsX1_greatest := goodIn_r _ [51, 26, 60, 61, 62, 63, 64, 65, 66, 67, 68, 69, 70, 71, 72, 73, 74, 75] (by decide +kernel) (by decide +kernel)
set_option maxRecDepth 20000 in
theorem gX1_digest_X1_greatest : GoodIn wsX1_digest (wsV RX1 79 RX1 yX1_greatest wsX1_greatest) := goodIn_app (goodIn_of _ (by decide +kernel)) ggX1_digest_X1_greatest
theorem dX1_digest_0 : decode cX1_digest 0 = .ok (.aload_n 0, 1) := by decide +kernel
theorem dX1_digest_1 : decode cX1_digest 1 = .ok (.iconst 0, 1) := by decide +kernel
theorem dX1_digest_2 : decode cX1_digest 2 = .ok (.putfield 41, 3) := by decide +kernel
theorem dX1_digest_5 : decode cX1_digest 5 = .ok (.aload_n 0, 1) := by decide +kernel
theorem dX1_digest_6 : decode cX1_digest 6 = .ok (.invokevirtual 149, 3) := by decide +kernel
theorem dX1_digest_9 : decode cX1_digest 9 = .ok (.bipush 9, 2) := by decide +kernel
theorem dX1_digest_11 : decode cX1_digest 11 = .ok (.newarray .int, 2) := by decide +kernel
theorem dX1_digest_13 : decode cX1_digest 13 = .ok (.dup, 1) := by decide +kernel
theorem dX1_digest_14 : decode cX1_digest 14 = .ok (.iconst 0, 1) := by decide +kernel
theorem dX1_digest_15 : decode cX1_digest 15 = .ok (.aload_n 0, 1) := by decide +kernel
theorem dX1_digest_16 : decode cX1_digest 16 = .ok (.getfield 44, 3) := by decide +kernel
theorem dX1_digest_19 : decode cX1_digest 19 = .ok (.iastore, 1) := by decide +kernel
theorem dX1_digest_20 : decode cX1_digest 20 = .ok (.dup, 1) := by decide +kernel
theorem dX1_digest_21 : decode cX1_digest 21 = .ok (.iconst 1, 1) := by decide +kernel
theorem dX1_digest_22 : decode cX1_digest 22 = .ok (.aload_n 0, 1) := by decide +kernel
theorem dX1_digest_23 : decode cX1_digest 23 = .ok (.getfield 55, 3) := by decide +kernel
theorem dX1_digest_26 : decode cX1_digest 26 = .ok (.iastore, 1) := by decide +kernel
theorem dX1_digest_27 : decode cX1_digest 27 = .ok (.dup, 1) := by decide +kernel
theorem dX1_digest_28 : decode cX1_digest 28 = .ok (.iconst 2, 1) := by decide +kernel
theorem dX1_digest_29 : decode cX1_digest 29 = .ok (.aload_n 0, 1) := by decide +kernel
theorem dX1_digest_30 : decode cX1_digest 30 = .ok (.getfield 123, 3) := by decide +kernel
theorem dX1_digest_33 : decode cX1_digest 33 = .ok (.iastore, 1) := by decide +kernel
theorem dX1_digest_34 : decode cX1_digest 34 = .ok (.dup, 1) := by decide +kernel
theorem dX1_digest_35 : decode cX1_digest 35 = .ok (.iconst 3, 1) := by decide +kernel
theorem dX1_digest_36 : decode cX1_digest 36 = .ok (.aload_n 0, 1) := by decide +kernel
theorem dX1_digest_37 : decode cX1_digest 37 = .ok (.getfield 28, 3) := by decide +kernel
theorem dX1_digest_40 : decode cX1_digest 40 = .ok (.iastore, 1) := by decide +kernel
theorem dX1_digest_41 : decode cX1_digest 41 = .ok (.dup, 1) := by decide +kernel
theorem dX1_digest_42 : decode cX1_digest 42 = .ok (.iconst 4, 1) := by decide +kernel
theorem dX1_digest_43 : decode cX1_digest 43 = .ok (.aload_n 0, 1) := by decide +kernel
theorem dX1_digest_44 : decode cX1_digest 44 = .ok (.getfield 99, 3) := by decide +kernel
theorem dX1_digest_47 : decode cX1_digest 47 = .ok (.iastore, 1) := by decide +kernel
theorem dX1_digest_48 : decode cX1_digest 48 = .ok (.dup, 1) := by decide +kernel
theorem dX1_digest_49 : decode cX1_digest 49 = .ok (.iconst 5, 1) := by decide +kernel
theorem dX1_digest_50 : decode cX1_digest 50 = .ok (.aload_n 0, 1) := by decide +kernel
theorem dX1_digest_51 : decode cX1_digest 51 = .ok (.getfield 96, 3) := by decide +kernel
theorem dX1_digest_54 : decode cX1_digest 54 = .ok (.iastore, 1) := by decide +kernel
theorem dX1_digest_55 : decode cX1_digest 55 = .ok (.dup, 1) := by decide +kernel
theorem dX1_digest_56 : decode cX1_digest 56 = .ok (.bipush 6, 2) := by decide +kernel
theorem dX1_digest_58 : decode cX1_digest 58 = .ok (.aload_n 0, 1) := by decide +kernel
theorem dX1_digest_59 : decode cX1_digest 59 = .ok (.invokevirtual 88, 3) := by decide +kernel
theorem dX1_digest_62 : decode cX1_digest 62 = .ok (.iastore, 1) := by decide +kernel
theorem dX1_digest_63 : decode cX1_digest 63 = .ok (.dup, 1) := by decide +kernel
theorem dX1_digest_64 : decode cX1_digest 64 = .ok (.bipush 7, 2) := by decide +kernel
theorem dX1_digest_66 : decode cX1_digest 66 = .ok (.aload_n 0, 1) := by decide +kernel
theorem dX1_digest_67 : decode cX1_digest 67 = .ok (.iconst 1, 1) := by decide +kernel
theorem dX1_digest_68 : decode cX1_digest 68 = .ok (.invokevirtual 152, 3) := by decide +kernel
theorem dX1_digest_71 : decode cX1_digest 71 = .ok (.iastore, 1) := by decide +kernel
theorem dX1_digest_72 : decode cX1_digest 72 = .ok (.dup, 1) := by decide +kernel
theorem dX1_digest_73 : decode cX1_digest 73 = .ok (.bipush 8, 2) := by decide +kernel
theorem dX1_digest_75 : decode cX1_digest 75 = .ok (.aload_n 0, 1) := by decide +kernel
theorem dX1_digest_76 : decode cX1_digest 76 = .ok (.iconst 0, 1) := by decide +kernel
theorem dX1_digest_77 : decode cX1_digest 77 = .ok (.invokevirtual 152, 3) := by decide +kernel
theorem dX1_digest_80 : decode cX1_digest 80 = .ok (.iastore, 1) := by decide +kernel
theorem dX1_digest_81 : decode cX1_digest 81 = .ok (.astore_n 1, 1) := by decide +kernel
theorem dX1_digest_82 : decode cX1_digest 82 = .ok (.ldc2_w 171, 3) := by decide +kernel
theorem dX1_digest_85 : decode cX1_digest 85 = .ok (.lstore_n 2, 1) := by decide +kernel
theorem dX1_digest_86 : decode cX1_digest 86 = .ok (.aload_n 1, 1) := by decide +kernel
theorem dX1_digest_87 : decode cX1_digest 87 = .ok (.astore 4, 2) := by decide +kernel
theorem dX1_digest_89 : decode cX1_digest 89 = .ok (.aload 4, 2) := by decide +kernel
theorem dX1_digest_91 : decode cX1_digest 91 = .ok (.arraylength, 1) := by decide +kernel
theorem dX1_digest_92 : decode cX1_digest 92 = .ok (.istore 5, 2) := by decide +kernel
theorem dX1_digest_94 : decode cX1_digest 94 = .ok (.iconst 0, 1) := by decide +kernel
theorem dX1_digest_95 : decode cX1_digest 95 = .ok (.istore 6, 2) := by decide +kernel
theorem dX1_digest_97 : decode cX1_digest 97 = .ok (.iload 6, 2) := by decide +kernel
theorem dX1_digest_99 : decode cX1_digest 99 = .ok (.iload 5, 2) := by decide +kernel
theorem dX1_digest_101 : decode cX1_digest 101 = .ok (.if_icmp .ge 26, 3) := by decide +kernel
theorem dX1_digest_104 : decode cX1_digest 104 = .ok (.aload 4, 2) := by decide +kernel
theorem dX1_digest_106 : decode cX1_digest 106 = .ok (.iload 6, 2) := by decide +kernel
theorem dX1_digest_108 : decode cX1_digest 108 = .ok (.iaload, 1) := by decide +kernel
theorem dX1_digest_109 : decode cX1_digest 109 = .ok (.istore 7, 2) := by decide +kernel
theorem dX1_digest_111 : decode cX1_digest 111 = .ok (.lload_n 2, 1) := by decide +kernel
theorem dX1_digest_112 : decode cX1_digest 112 = .ok (.ldc2_w 173, 3) := by decide +kernel
theorem dX1_digest_115 : decode cX1_digest 115 = .ok (.lmul, 1) := by decide +kernel
theorem dX1_digest_116 : decode cX1_digest 116 = .ok (.iload 7, 2) := by decide +kernel
theorem dX1_digest_118 : decode cX1_digest 118 = .ok (.i2l, 1) := by decide +kernel
theorem dX1_digest_119 : decode cX1_digest 119 = .ok (.ladd, 1) := by decide +kernel
theorem dX1_digest_120 : decode cX1_digest 120 = .ok (.lstore_n 2, 1) := by decide +kernel
theorem dX1_digest_121 : decode cX1_digest 121 = .ok (.iinc 6 1, 3) := by decide +kernel
theorem dX1_digest_124 : decode cX1_digest 124 = .ok (.goto (-27), 3) := by decide +kernel
theorem dX1_digest_127 : decode cX1_digest 127 = .ok (.iconst 0, 1) := by decide +kernel
theorem dX1_digest_128 : decode cX1_digest 128 = .ok (.istore 4, 2) := by decide +kernel
theorem dX1_digest_130 : decode cX1_digest 130 = .ok (.iload 4, 2) := by decide +kernel
theorem dX1_digest_132 : decode cX1_digest 132 = .ok (.aload_n 0, 1) := by decide +kernel
theorem dX1_digest_133 : decode cX1_digest 133 = .ok (.getfield 44, 3) := by decide +kernel
theorem dX1_digest_136 : decode cX1_digest 136 = .ok (.if_icmp .ge 65, 3) := by decide +kernel
theorem dX1_digest_139 : decode cX1_digest 139 = .ok (.lload_n 2, 1) := by decide +kernel
theorem dX1_digest_140 : decode cX1_digest 140 = .ok (.ldc2_w 173, 3) := by decide +kernel
theorem dX1_digest_143 : decode cX1_digest 143 = .ok (.lmul, 1) := by decide +kernel
theorem dX1_digest_144 : decode cX1_digest 144 = .ok (.aload_n 0, 1) := by decide +kernel
theorem dX1_digest_145 : decode cX1_digest 145 = .ok (.getfield 9, 3) := by decide +kernel
theorem dX1_digest_148 : decode cX1_digest 148 = .ok (.iload 4, 2) := by decide +kernel
theorem dX1_digest_150 : decode cX1_digest 150 = .ok (.iaload, 1) := by decide +kernel
theorem dX1_digest_151 : decode cX1_digest 151 = .ok (.i2l, 1) := by decide +kernel
theorem dX1_digest_152 : decode cX1_digest 152 = .ok (.ladd, 1) := by decide +kernel
theorem dX1_digest_153 : decode cX1_digest 153 = .ok (.ldc2_w 173, 3) := by decide +kernel
theorem dX1_digest_156 : decode cX1_digest 156 = .ok (.lmul, 1) := by decide +kernel
theorem dX1_digest_157 : decode cX1_digest 157 = .ok (.aload_n 0, 1) := by decide +kernel
theorem dX1_digest_158 : decode cX1_digest 158 = .ok (.getfield 13, 3) := by decide +kernel
theorem dX1_digest_161 : decode cX1_digest 161 = .ok (.iload 4, 2) := by decide +kernel
theorem dX1_digest_163 : decode cX1_digest 163 = .ok (.iaload, 1) := by decide +kernel
theorem dX1_digest_164 : decode cX1_digest 164 = .ok (.i2l, 1) := by decide +kernel
theorem dX1_digest_165 : decode cX1_digest 165 = .ok (.ladd, 1) := by decide +kernel
theorem dX1_digest_166 : decode cX1_digest 166 = .ok (.ldc2_w 173, 3) := by decide +kernel
theorem dX1_digest_169 : decode cX1_digest 169 = .ok (.lmul, 1) := by decide +kernel
theorem dX1_digest_170 : decode cX1_digest 170 = .ok (.aload_n 0, 1) := by decide +kernel
theorem dX1_digest_171 : decode cX1_digest 171 = .ok (.iload 4, 2) := by decide +kernel
theorem dX1_digest_173 : decode cX1_digest 173 = .ok (.iload 4, 2) := by decide +kernel
theorem dX1_digest_175 : decode cX1_digest 175 = .ok (.invokevirtual 82, 3) := by decide +kernel
theorem dX1_digest_178 : decode cX1_digest 178 = .ok (.i2l, 1) := by decide +kernel
theorem dX1_digest_179 : decode cX1_digest 179 = .ok (.ladd, 1) := by decide +kernel
theorem dX1_digest_180 : decode cX1_digest 180 = .ok (.ldc2_w 173, 3) := by decide +kernel
theorem dX1_digest_183 : decode cX1_digest 183 = .ok (.lmul, 1) := by decide +kernel
theorem dX1_digest_184 : decode cX1_digest 184 = .ok (.aload_n 0, 1) := by decide +kernel
theorem dX1_digest_185 : decode cX1_digest 185 = .ok (.iload 4, 2) := by decide +kernel
theorem dX1_digest_187 : decode cX1_digest 187 = .ok (.iload 4, 2) := by decide +kernel
theorem dX1_digest_189 : decode cX1_digest 189 = .ok (.invokevirtual 79, 3) := by decide +kernel
theorem dX1_digest_192 : decode cX1_digest 192 = .ok (.i2l, 1) := by decide +kernel
theorem dX1_digest_193 : decode cX1_digest 193 = .ok (.ladd, 1) := by decide +kernel
theorem dX1_digest_194 : decode cX1_digest 194 = .ok (.lstore_n 2, 1) := by decide +kernel
theorem dX1_digest_195 : decode cX1_digest 195 = .ok (.iinc 4 1, 3) := by decide +kernel
theorem dX1_digest_198 : decode cX1_digest 198 = .ok (.goto (-68), 3) := by decide +kernel
theorem dX1_digest_201 : decode cX1_digest 201 = .ok (.iconst 0, 1) := by decide +kernel
theorem dX1_digest_202 : decode cX1_digest 202 = .ok (.istore 4, 2) := by decide +kernel
theorem dX1_digest_204 : decode cX1_digest 204 = .ok (.iload 4, 2) := by decide +kernel
theorem dX1_digest_206 : decode cX1_digest 206 = .ok (.aload_n 0, 1) := by decide +kernel
theorem dX1_digest_207 : decode cX1_digest 207 = .ok (.getfield 55, 3) := by decide +kernel
theorem dX1_digest_210 : decode cX1_digest 210 = .ok (.if_icmp .ge 63, 3) := by decide +kernel
theorem dX1_digest_213 : decode cX1_digest 213 = .ok (.lload_n 2, 1) := by decide +kernel
theorem dX1_digest_214 : decode cX1_digest 214 = .ok (.ldc2_w 173, 3) := by decide +kernel
theorem dX1_digest_217 : decode cX1_digest 217 = .ok (.lmul, 1) := by decide +kernel
theorem dX1_digest_218 : decode cX1_digest 218 = .ok (.aload_n 0, 1) := by decide +kernel
theorem dX1_digest_219 : decode cX1_digest 219 = .ok (.getfield 16, 3) := by decide +kernel
theorem dX1_digest_222 : decode cX1_digest 222 = .ok (.iload 4, 2) := by decide +kernel
theorem dX1_digest_224 : decode cX1_digest 224 = .ok (.iaload, 1) := by decide +kernel
theorem dX1_digest_225 : decode cX1_digest 225 = .ok (.i2l, 1) := by decide +kernel
theorem dX1_digest_226 : decode cX1_digest 226 = .ok (.ladd, 1) := by decide +kernel
theorem dX1_digest_227 : decode cX1_digest 227 = .ok (.ldc2_w 173, 3) := by decide +kernel
theorem dX1_digest_230 : decode cX1_digest 230 = .ok (.lmul, 1) := by decide +kernel
theorem dX1_digest_231 : decode cX1_digest 231 = .ok (.aload_n 0, 1) := by decide +kernel
theorem dX1_digest_232 : decode cX1_digest 232 = .ok (.getfield 19, 3) := by decide +kernel
theorem dX1_digest_235 : decode cX1_digest 235 = .ok (.iload 4, 2) := by decide +kernel
theorem dX1_digest_237 : decode cX1_digest 237 = .ok (.iaload, 1) := by decide +kernel
theorem dX1_digest_238 : decode cX1_digest 238 = .ok (.i2l, 1) := by decide +kernel
theorem dX1_digest_239 : decode cX1_digest 239 = .ok (.ladd, 1) := by decide +kernel
theorem dX1_digest_240 : decode cX1_digest 240 = .ok (.ldc2_w 173, 3) := by decide +kernel
theorem dX1_digest_243 : decode cX1_digest 243 = .ok (.lmul, 1) := by decide +kernel
theorem dX1_digest_244 : decode cX1_digest 244 = .ok (.aload_n 0, 1) := by decide +kernel
theorem dX1_digest_245 : decode cX1_digest 245 = .ok (.getfield 22, 3) := by decide +kernel
theorem dX1_digest_248 : decode cX1_digest 248 = .ok (.iload 4, 2) := by decide +kernel
theorem dX1_digest_250 : decode cX1_digest 250 = .ok (.iaload, 1) := by decide +kernel
theorem dX1_digest_251 : decode cX1_digest 251 = .ok (.i2l, 1) := by decide +kernel
theorem dX1_digest_252 : decode cX1_digest 252 = .ok (.ladd, 1) := by decide +kernel
theorem dX1_digest_253 : decode cX1_digest 253 = .ok (.ldc2_w 173, 3) := by decide +kernel
theorem dX1_digest_256 : decode cX1_digest 256 = .ok (.lmul, 1) := by decide +kernel
theorem dX1_digest_257 : decode cX1_digest 257 = .ok (.aload_n 0, 1) := by decide +kernel
theorem dX1_digest_258 : decode cX1_digest 258 = .ok (.getfield 25, 3) := by decide +kernel
theorem dX1_digest_261 : decode cX1_digest 261 = .ok (.iload 4, 2) := by decide +kernel
theorem dX1_digest_263 : decode cX1_digest 263 = .ok (.iaload, 1) := by decide +kernel
theorem dX1_digest_264 : decode cX1_digest 264 = .ok (.i2l, 1) := by decide +kernel
theorem dX1_digest_265 : decode cX1_digest 265 = .ok (.ladd, 1) := by decide +kernel
theorem dX1_digest_266 : decode cX1_digest 266 = .ok (.lstore_n 2, 1) := by decide +kernel
theorem dX1_digest_267 : decode cX1_digest 267 = .ok (.iinc 4 1, 3) := by decide +kernel
theorem dX1_digest_270 : decode cX1_digest 270 = .ok (.goto (-66), 3) := by decide +kernel
theorem dX1_digest_273 : decode cX1_digest 273 = .ok (.lload_n 2, 1) := by decide +kernel
theorem dX1_digest_274 : decode cX1_digest 274 = .ok (.lreturn, 1) := by decide +kernel
theorem dJ6_signum_0f7a4_0 : decode cJ6_signum_0f7a4 0 = .ok (.iload_n 0, 1) := by decide +kernel
theorem dJ6_signum_0f7a4_1 : decode cJ6_signum_0f7a4 1 = .ok (.bipush 31, 2) := by decide +kernel
theorem dJ6_signum_0f7a4_3 : decode cJ6_signum_0f7a4 3 = .ok (.ishr, 1) := by decide +kernel
theorem dJ6_signum_0f7a4_4 : decode cJ6_signum_0f7a4 4 = .ok (.iload_n 0, 1) := by decide +kernel
theorem dJ6_signum_0f7a4_5 : decode cJ6_signum_0f7a4 5 = .ok (.ineg, 1) := by decide +kernel
theorem dJ6_signum_0f7a4_6 : decode cJ6_signum_0f7a4 6 = .ok (.bipush 31, 2) := by decide +kernel
theorem dJ6_signum_0f7a4_8 : decode cJ6_signum_0f7a4 8 = .ok (.iushr, 1) := by decide +kernel
theorem dJ6_signum_0f7a4_9 : decode cJ6_signum_0f7a4 9 = .ok (.ior, 1) := by decide +kernel
theorem dJ6_signum_0f7a4_10 : decode cJ6_signum_0f7a4 10 = .ok (.ireturn, 1) := by decide +kernel
theorem dJ9_min_7cf53_0 : decode cJ9_min_7cf53 0 = .ok (.iload_n 0, 1) := by decide +kernel
theorem dJ9_min_7cf53_1 : decode cJ9_min_7cf53 1 = .ok (.iload_n 1, 1) := by decide +kernel
theorem dJ9_min_7cf53_2 : decode cJ9_min_7cf53 2 = .ok (.if_icmp .gt 7, 3) := by decide +kernel
theorem dJ9_min_7cf53_5 : decode cJ9_min_7cf53 5 = .ok (.iload_n 0, 1) := by decide +kernel
theorem dJ9_min_7cf53_6 : decode cJ9_min_7cf53 6 = .ok (.goto 4, 3) := by decide +kernel
theorem dJ9_min_7cf53_9 : decode cJ9_min_7cf53 9 = .ok (.iload_n 1, 1) := by decide +kernel
theorem dJ9_min_7cf53_10 : decode cJ9_min_7cf53 10 = .ok (.ireturn, 1) := by decide +kernel
