theorem dX0_init_0 : decode cX0_init 0 = .ok (.aload_n 0, 1) := by decide +kernel
theorem dX0_init_1 : decode cX0_init 1 = .ok (.invokespecial 1, 3) := by decide +kernel
theorem dX0_init_4 : decode cX0_init 4 = .ok (.aload_n 0, 1) := by decide +kernel
theorem dX0_init_5 : decode cX0_init 5 = .ok (.bipush 12, 2) := by decide +kernel
theorem dX0_init_7 : decode cX0_init 7 = .ok (.newarray .int, 2) := by decide +kernel
theorem dX0_init_9 : decode cX0_init 9 = .ok (.putfield 9, 3) := by decide +kernel
theorem dX0_init_12 : decode cX0_init 12 = .ok (.aload_n 0, 1) := by decide +kernel
theorem dX0_init_13 : decode cX0_init 13 = .ok (.bipush 12, 2) := by decide +kernel
theorem dX0_init_15 : decode cX0_init 15 = .ok (.newarray .int, 2) := by decide +kernel
theorem dX0_init_17 : decode cX0_init 17 = .ok (.putfield 13, 3) := by decide +kernel
theorem dX0_init_20 : decode cX0_init 20 = .ok (.aload_n 0, 1) := by decide +kernel
theorem dX0_init_21 : decode cX0_init 21 = .ok (.bipush 16, 2) := by decide +kernel
theorem dX0_init_23 : decode cX0_init 23 = .ok (.newarray .int, 2) := by decide +kernel
theorem dX0_init_25 : decode cX0_init 25 = .ok (.putfield 16, 3) := by decide +kernel
theorem dX0_init_28 : decode cX0_init 28 = .ok (.aload_n 0, 1) := by decide +kernel
theorem dX0_init_29 : decode cX0_init 29 = .ok (.bipush 16, 2) := by decide +kernel
theorem dX0_init_31 : decode cX0_init 31 = .ok (.newarray .int, 2) := by decide +kernel
theorem dX0_init_33 : decode cX0_init 33 = .ok (.putfield 19, 3) := by decide +kernel
theorem dX0_init_36 : decode cX0_init 36 = .ok (.aload_n 0, 1) := by decide +kernel
theorem dX0_init_37 : decode cX0_init 37 = .ok (.bipush 16, 2) := by decide +kernel
theorem dX0_init_39 : decode cX0_init 39 = .ok (.newarray .int, 2) := by decide +kernel
theorem dX0_init_41 : decode cX0_init 41 = .ok (.putfield 22, 3) := by decide +kernel
theorem dX0_init_44 : decode cX0_init 44 = .ok (.aload_n 0, 1) := by decide +kernel
theorem dX0_init_45 : decode cX0_init 45 = .ok (.bipush 16, 2) := by decide +kernel
theorem dX0_init_47 : decode cX0_init 47 = .ok (.newarray .int, 2) := by decide +kernel
theorem dX0_init_49 : decode cX0_init 49 = .ok (.putfield 25, 3) := by decide +kernel
theorem dX0_init_52 : decode cX0_init 52 = .ok (.aload_n 0, 1) := by decide +kernel
theorem dX0_init_53 : decode cX0_init 53 = .ok (.bipush 12, 2) := by decide +kernel
theorem dX0_init_55 : decode cX0_init 55 = .ok (.newarray .int, 2) := by decide +kernel
theorem dX0_init_57 : decode cX0_init 57 = .ok (.putfield 28, 3) := by decide +kernel
theorem dX0_init_60 : decode cX0_init 60 = .ok (.aload_n 0, 1) := by decide +kernel
theorem dX0_init_61 : decode cX0_init 61 = .ok (.bipush 12, 2) := by decide +kernel
theorem dX0_init_63 : decode cX0_init 63 = .ok (.newarray .int, 2) := by decide +kernel
theorem dX0_init_65 : decode cX0_init 65 = .ok (.putfield 31, 3) := by decide +kernel
theorem dX0_init_68 : decode cX0_init 68 = .ok (.aload_n 0, 1) := by decide +kernel
theorem dX0_init_69 : decode cX0_init 69 = .ok (.bipush 13, 2) := by decide +kernel
theorem dX0_init_71 : decode cX0_init 71 = .ok (.bipush 13, 2) := by decide +kernel
theorem dX0_init_73 : decode cX0_init 73 = .ok (.multianewarray 34 2, 4) := by decide +kernel
theorem dX0_init_77 : decode cX0_init 77 = .ok (.putfield 36, 3) := by decide +kernel
theorem dX0_init_80 : decode cX0_init 80 = .ok (.aload_n 0, 1) := by decide +kernel
theorem dX0_init_81 : decode cX0_init 81 = .ok (.bipush 14, 2) := by decide +kernel
theorem dX0_init_83 : decode cX0_init 83 = .ok (.putfield 39, 3) := by decide +kernel
theorem dX0_init_86 : decode cX0_init 86 = .ok (.return_, 1) := by decide +kernel
set_option maxRecDepth 20000 in
theorem ggX0_fill_X0_isKind : GoodIn wsX0_fill wsX0_isKind := goodIn_r _ [9] (by decide +kernel) (by decide +kernel)
set_option maxRecDepth 20000 in
theorem gX0_fill_X0_isKind : GoodIn wsX0_fill (va_wsS RX0 43 yX0_isKind wsX0_isKind) := goodIn_app (goodIn_of _ (by decide +kernel)) ggX0_fill_X0_isKind
set_option maxRecDepth 20000 in
theorem ggX0_fill_X0_isDampness : GoodIn wsX0_fill wsX0_isDampness := goodIn_r _ [12] (by decide +kernel) (by decide +kernel)
set_option maxRecDepth 20000 in
theorem gX0_fill_X0_isDampness : GoodIn wsX0_fill (va_wsS RX0 47 yX0_isDampness wsX0_isDampness) := goodIn_app (goodIn_of _ (by decide +kernel)) ggX0_fill_X0_isDampness
set_option maxRecDepth 20000 in
theorem ggX0_fill_X0_putOnTop : GoodIn wsX0_fill wsX0_putOnTop := goodIn_r _ [16, 5, 17, 18, 19, 20, 21, 22, 23, 24, 25, 26, 27, 28, 29, 30, 31, 32, 33] (by decide +kernel) (by decide +kernel)
set_option maxRecDepth 20000 in
theorem gX0_fill_X0_putOnTop : GoodIn wsX0_fill (wsV RX0 65 RX0 yX0_putOnTop wsX0_putOnTop) := goodIn_app (goodIn_of _ (by decide +kernel)) ggX0_fill_X0_putOnTop
theorem dX0_fill_0 : decode cX0_fill 0 = .ok (.iload_n 1, 1) := by decide +kernel
theorem dX0_fill_1 : decode cX0_fill 1 = .ok (.invokestatic 43, 3) := by decide +kernel
theorem dX0_fill_4 : decode cX0_fill 4 = .ok (.ifCond .eq 10, 3) := by decide +kernel
theorem dX0_fill_7 : decode cX0_fill 7 = .ok (.iload_n 2, 1) := by decide +kernel
theorem dX0_fill_8 : decode cX0_fill 8 = .ok (.invokestatic 47, 3) := by decide +kernel
theorem dX0_fill_11 : decode cX0_fill 11 = .ok (.ifCond .ne 13, 3) := by decide +kernel
theorem dX0_fill_14 : decode cX0_fill 14 = .ok (.new 50, 3) := by decide +kernel
theorem dX0_fill_17 : decode cX0_fill 17 = .ok (.dup, 1) := by decide +kernel
theorem dX0_fill_18 : decode cX0_fill 18 = .ok (.ldc 52, 2) := by decide +kernel
theorem dX0_fill_20 : decode cX0_fill 20 = .ok (.invokespecial 54, 3) := by decide +kernel
theorem dX0_fill_23 : decode cX0_fill 23 = .ok (.athrow, 1) := by decide +kernel
theorem dX0_fill_24 : decode cX0_fill 24 = .ok (.aload_n 0, 1) := by decide +kernel
theorem dX0_fill_25 : decode cX0_fill 25 = .ok (.getfield 57, 3) := by decide +kernel
theorem dX0_fill_28 : decode cX0_fill 28 = .ok (.bipush 12, 2) := by decide +kernel
theorem dX0_fill_30 : decode cX0_fill 30 = .ok (.if_icmp .lt 13, 3) := by decide +kernel
theorem dX0_fill_33 : decode cX0_fill 33 = .ok (.new 60, 3) := by decide +kernel
theorem dX0_fill_36 : decode cX0_fill 36 = .ok (.dup, 1) := by decide +kernel
theorem dX0_fill_37 : decode cX0_fill 37 = .ok (.ldc 62, 2) := by decide +kernel
theorem dX0_fill_39 : decode cX0_fill 39 = .ok (.invokespecial 64, 3) := by decide +kernel
theorem dX0_fill_42 : decode cX0_fill 42 = .ok (.athrow, 1) := by decide +kernel
theorem dX0_fill_43 : decode cX0_fill 43 = .ok (.aload_n 0, 1) := by decide +kernel
theorem dX0_fill_44 : decode cX0_fill 44 = .ok (.iload_n 1, 1) := by decide +kernel
theorem dX0_fill_45 : decode cX0_fill 45 = .ok (.iload_n 2, 1) := by decide +kernel
theorem dX0_fill_46 : decode cX0_fill 46 = .ok (.invokevirtual 65, 3) := by decide +kernel
theorem dX0_fill_49 : decode cX0_fill 49 = .ok (.ireturn, 1) := by decide +kernel
set_option maxRecDepth 20000 in
theorem ggX0_letOut_X0_countOut : GoodIn wsX0_letOut wsX0_countOut := goodIn_r _ [9, 10, 11, 12, 13, 14, 8, 15, 16, 43, 44, 45, 46, 47, 48, 49, 50, 51, 52, 53, 54, 55, 56, 57] (by decide +kernel) (by decide +kernel)
set_option maxRecDepth 20000 in
theorem gX0_letOut_X0_countOut : GoodIn wsX0_letOut (wsV RX0 71 RX0 yX0_countOut wsX0_countOut) := goodIn_app (goodIn_of _ (by decide +kernel)) ggX0_letOut_X0_countOut
set_option maxRecDepth 20000 in
theorem ggX0_letOut_X0_lowerLayers : GoodIn wsX0_letOut wsX0_lowerLayers := goodIn_r _ [20, 3, 21, 4, 43, 44, 45, 46, 47, 48, 49, 50, 51, 52, 53, 54, 55, 56, 57] (by decide +kernel) (by decide +kernel)
set_option maxRecDepth 20000 in
theorem gX0_letOut_X0_lowerLayers : GoodIn wsX0_letOut (wsV RX0 75 RX0 yX0_lowerLayers wsX0_lowerLayers) := goodIn_app (goodIn_of _ (by decide +kernel)) ggX0_letOut_X0_lowerLayers
set_option maxRecDepth 20000 in
theorem ggX0_letOut_X0_cutLowestOffSamples : GoodIn wsX0_letOut wsX0_cutLowestOffSamples := goodIn_r _ [25, 26, 27, 28, 29, 30, 31, 32, 8, 33, 34, 35, 36, 37, 38, 43, 44, 45, 46, 47, 48, 49, 50, 51, 52, 53, 54, 55, 56, 57] (by decide +kernel) (by decide +kernel)
set_option maxRecDepth 20000 in
theorem gX0_letOut_X0_cutLowestOffSamples : GoodIn wsX0_letOut (wsV RX0 78 RX0 yX0_cutLowestOffSamples wsX0_cutLowestOffSamples) := goodIn_app (goodIn_of _ (by decide +kernel)) ggX0_letOut_X0_cutLowestOffSamples
set_option maxRecDepth 20000 in
theorem ggX0_letOut_X0_lowerSamples : GoodIn wsX0_letOut wsX0_lowerSamples := goodIn_r _ [42, 26, 27, 28, 43, 44, 45, 46, 47, 48, 49, 50, 51, 52, 53, 54, 55, 56, 57] (by decide +kernel) (by decide +kernel)
set_option maxRecDepth 20000 in
theorem gX0_letOut_X0_lowerSamples : GoodIn wsX0_letOut (wsV RX0 81 RX0 yX0_lowerSamples wsX0_lowerSamples) := goodIn_app (goodIn_of _ (by decide +kernel)) ggX0_letOut_X0_lowerSamples
theorem dX0_letOut_0 : decode cX0_letOut 0 = .ok (.aload_n 0, 1) := by decide +kernel
theorem dX0_letOut_1 : decode cX0_letOut 1 = .ok (.getfield 57, 3) := by decide +kernel
theorem dX0_letOut_4 : decode cX0_letOut 4 = .ok (.ifCond .ne 13, 3) := by decide +kernel
theorem dX0_letOut_7 : decode cX0_letOut 7 = .ok (.new 60, 3) := by decide +kernel
theorem dX0_letOut_10 : decode cX0_letOut 10 = .ok (.dup, 1) := by decide +kernel
theorem dX0_letOut_11 : decode cX0_letOut 11 = .ok (.ldc 69, 2) := by decide +kernel
theorem dX0_letOut_13 : decode cX0_letOut 13 = .ok (.invokespecial 64, 3) := by decide +kernel
theorem dX0_letOut_16 : decode cX0_letOut 16 = .ok (.athrow, 1) := by decide +kernel
theorem dX0_letOut_17 : decode cX0_letOut 17 = .ok (.aload_n 0, 1) := by decide +kernel
theorem dX0_letOut_18 : decode cX0_letOut 18 = .ok (.getfield 13, 3) := by decide +kernel
theorem dX0_letOut_21 : decode cX0_letOut 21 = .ok (.iconst 0, 1) := by decide +kernel
theorem dX0_letOut_22 : decode cX0_letOut 22 = .ok (.iaload, 1) := by decide +kernel
theorem dX0_letOut_23 : decode cX0_letOut 23 = .ok (.istore_n 1, 1) := by decide +kernel
theorem dX0_letOut_24 : decode cX0_letOut 24 = .ok (.aload_n 0, 1) := by decide +kernel
theorem dX0_letOut_25 : decode cX0_letOut 25 = .ok (.iload_n 1, 1) := by decide +kernel
theorem dX0_letOut_26 : decode cX0_letOut 26 = .ok (.invokevirtual 71, 3) := by decide +kernel
theorem dX0_letOut_29 : decode cX0_letOut 29 = .ok (.aload_n 0, 1) := by decide +kernel
theorem dX0_letOut_30 : decode cX0_letOut 30 = .ok (.invokevirtual 75, 3) := by decide +kernel
theorem dX0_letOut_33 : decode cX0_letOut 33 = .ok (.aload_n 0, 1) := by decide +kernel
theorem dX0_letOut_34 : decode cX0_letOut 34 = .ok (.iload_n 1, 1) := by decide +kernel
theorem dX0_letOut_35 : decode cX0_letOut 35 = .ok (.invokevirtual 78, 3) := by decide +kernel
theorem dX0_letOut_38 : decode cX0_letOut 38 = .ok (.aload_n 0, 1) := by decide +kernel
theorem dX0_letOut_39 : decode cX0_letOut 39 = .ok (.invokevirtual 81, 3) := by decide +kernel
theorem dX0_letOut_42 : decode cX0_letOut 42 = .ok (.iload_n 1, 1) := by decide +kernel
theorem dX0_letOut_43 : decode cX0_letOut 43 = .ok (.ireturn, 1) := by decide +kernel
set_option maxRecDepth 20000 in
theorem ggX0_turnOver_X0_lowerLayers : GoodIn wsX0_turnOver wsX0_lowerLayers := goodIn_r _ [11, 3, 4, 5, 32, 33, 34, 35, 36, 37, 38, 39, 40, 41, 42, 43, 44, 45, 46] (by decide +kernel) (by decide +kernel)
set_option maxRecDepth 20000 in
theorem gX0_turnOver_X0_lowerLayers : GoodIn wsX0_turnOver (wsV RX0 75 RX0 yX0_lowerLayers wsX0_lowerLayers) := goodIn_app (goodIn_of _ (by decide +kernel)) ggX0_turnOver_X0_lowerLayers
set_option maxRecDepth 20000 in
theorem ggX0_turnOver_X0_putOnTop : GoodIn wsX0_turnOver wsX0_putOnTop := goodIn_r _ [15, 3, 4, 5, 32, 33, 34, 35, 36, 37, 38, 39, 40, 41, 42, 43, 44, 45, 46] (by decide +kernel) (by decide +kernel)
set_option maxRecDepth 20000 in
theorem gX0_turnOver_X0_putOnTop : GoodIn wsX0_turnOver (wsV RX0 65 RX0 yX0_putOnTop wsX0_putOnTop) := goodIn_app (goodIn_of _ (by decide +kernel)) ggX0_turnOver_X0_putOnTop
set_option maxRecDepth 20000 in
theorem ggX0_turnOver_X0_dropSamplesOfLowest : GoodIn wsX0_turnOver wsX0_dropSamplesOfLowest := goodIn_r _ [19, 6, 20, 21, 22, 23, 10, 24, 25, 26, 27, 32, 33, 34, 35, 36, 37, 38, 39, 40, 41, 42, 43, 44, 45, 46] (by decide +kernel) (by decide +kernel)
set_option maxRecDepth 20000 in
theorem gX0_turnOver_X0_dropSamplesOfLowest : GoodIn wsX0_turnOver (wsV RX0 89 RX0 yX0_dropSamplesOfLowest wsX0_dropSamplesOfLowest) := goodIn_app (goodIn_of _ (by decide +kernel)) ggX0_turnOver_X0_dropSamplesOfLowest
set_option maxRecDepth 20000 in
theorem ggX0_turnOver_X0_lowerSamples : GoodIn wsX0_turnOver wsX0_lowerSamples := goodIn_r _ [31, 6, 20, 25, 32, 33, 34, 35, 36, 37, 38, 39, 40, 41, 42, 43, 44, 45, 46] (by decide +kernel) (by decide +kernel)
set_option maxRecDepth 20000 in
theorem gX0_turnOver_X0_lowerSamples : GoodIn wsX0_turnOver (wsV RX0 81 RX0 yX0_lowerSamples wsX0_lowerSamples) := goodIn_app (goodIn_of _ (by decide +kernel)) ggX0_turnOver_X0_lowerSamples
theorem dX0_turnOver_0 : decode cX0_turnOver 0 = .ok (.aload_n 0, 1) := by decide +kernel
theorem dX0_turnOver_1 : decode cX0_turnOver 1 = .ok (.getfield 57, 3) := by decide +kernel
theorem dX0_turnOver_4 : decode cX0_turnOver 4 = .ok (.iconst 2, 1) := by decide +kernel
theorem dX0_turnOver_5 : decode cX0_turnOver 5 = .ok (.if_icmp .ge 13, 3) := by decide +kernel
theorem dX0_turnOver_8 : decode cX0_turnOver 8 = .ok (.new 60, 3) := by decide +kernel
theorem dX0_turnOver_11 : decode cX0_turnOver 11 = .ok (.dup, 1) := by decide +kernel
theorem dX0_turnOver_12 : decode cX0_turnOver 12 = .ok (.ldc 84, 2) := by decide +kernel
theorem dX0_turnOver_14 : decode cX0_turnOver 14 = .ok (.invokespecial 64, 3) := by decide +kernel
theorem dX0_turnOver_17 : decode cX0_turnOver 17 = .ok (.athrow, 1) := by decide +kernel
theorem dX0_turnOver_18 : decode cX0_turnOver 18 = .ok (.aload_n 0, 1) := by decide +kernel
theorem dX0_turnOver_19 : decode cX0_turnOver 19 = .ok (.getfield 9, 3) := by decide +kernel
theorem dX0_turnOver_22 : decode cX0_turnOver 22 = .ok (.iconst 0, 1) := by decide +kernel
theorem dX0_turnOver_23 : decode cX0_turnOver 23 = .ok (.iaload, 1) := by decide +kernel
theorem dX0_turnOver_24 : decode cX0_turnOver 24 = .ok (.istore_n 1, 1) := by decide +kernel
theorem dX0_turnOver_25 : decode cX0_turnOver 25 = .ok (.aload_n 0, 1) := by decide +kernel
theorem dX0_turnOver_26 : decode cX0_turnOver 26 = .ok (.getfield 13, 3) := by decide +kernel
theorem dX0_turnOver_29 : decode cX0_turnOver 29 = .ok (.iconst 0, 1) := by decide +kernel
theorem dX0_turnOver_30 : decode cX0_turnOver 30 = .ok (.iaload, 1) := by decide +kernel
theorem dX0_turnOver_31 : decode cX0_turnOver 31 = .ok (.istore_n 2, 1) := by decide +kernel
theorem dX0_turnOver_32 : decode cX0_turnOver 32 = .ok (.aload_n 0, 1) := by decide +kernel
theorem dX0_turnOver_33 : decode cX0_turnOver 33 = .ok (.invokevirtual 75, 3) := by decide +kernel
theorem dX0_turnOver_36 : decode cX0_turnOver 36 = .ok (.aload_n 0, 1) := by decide +kernel
theorem dX0_turnOver_37 : decode cX0_turnOver 37 = .ok (.iload_n 1, 1) := by decide +kernel
theorem dX0_turnOver_38 : decode cX0_turnOver 38 = .ok (.iload_n 2, 1) := by decide +kernel
theorem dX0_turnOver_39 : decode cX0_turnOver 39 = .ok (.invokevirtual 65, 3) := by decide +kernel
theorem dX0_turnOver_42 : decode cX0_turnOver 42 = .ok (.pop, 1) := by decide +kernel
theorem dX0_turnOver_43 : decode cX0_turnOver 43 = .ok (.aload_n 0, 1) := by decide +kernel
theorem dX0_turnOver_44 : decode cX0_turnOver 44 = .ok (.getfield 86, 3) := by decide +kernel
theorem dX0_turnOver_47 : decode cX0_turnOver 47 = .ok (.istore_n 3, 1) := by decide +kernel
theorem dX0_turnOver_48 : decode cX0_turnOver 48 = .ok (.aload_n 0, 1) := by decide +kernel
theorem dX0_turnOver_49 : decode cX0_turnOver 49 = .ok (.invokevirtual 89, 3) := by decide +kernel
theorem dX0_turnOver_52 : decode cX0_turnOver 52 = .ok (.aload_n 0, 1) := by decide +kernel
theorem dX0_turnOver_53 : decode cX0_turnOver 53 = .ok (.invokevirtual 81, 3) := by decide +kernel
theorem dX0_turnOver_56 : decode cX0_turnOver 56 = .ok (.iload_n 3, 1) := by decide +kernel
theorem dX0_turnOver_57 : decode cX0_turnOver 57 = .ok (.aload_n 0, 1) := by decide +kernel
theorem dX0_turnOver_58 : decode cX0_turnOver 58 = .ok (.getfield 86, 3) := by decide +kernel
theorem dX0_turnOver_61 : decode cX0_turnOver 61 = .ok (.isub, 1) := by decide +kernel
theorem dX0_turnOver_62 : decode cX0_turnOver 62 = .ok (.ireturn, 1) := by decide +kernel
set_option maxRecDepth 20000 in
theorem ggX0_setLimit_X0_isDampness : GoodIn wsX0_setLimit wsX0_isDampness := goodIn_r _ [7] (by decide +kernel) (by decide +kernel)
set_option maxRecDepth 20000 in
theorem gX0_setLimit_X0_isDampness : GoodIn wsX0_setLimit (va_wsS RX0 47 yX0_isDampness wsX0_isDampness) := goodIn_app (goodIn_of _ (by decide +kernel)) ggX0_setLimit_X0_isDampness
theorem dX0_setLimit_0 : decode cX0_setLimit 0 = .ok (.iload_n 1, 1) := by decide +kernel
theorem dX0_setLimit_1 : decode cX0_setLimit 1 = .ok (.invokestatic 47, 3) := by decide +kernel
theorem dX0_setLimit_4 : decode cX0_setLimit 4 = .ok (.ifCond .ne 13, 3) := by decide +kernel
theorem dX0_setLimit_7 : decode cX0_setLimit 7 = .ok (.new 50, 3) := by decide +kernel
theorem dX0_setLimit_10 : decode cX0_setLimit 10 = .ok (.dup, 1) := by decide +kernel
theorem dX0_setLimit_11 : decode cX0_setLimit 11 = .ok (.ldc 92, 2) := by decide +kernel
theorem dX0_setLimit_13 : decode cX0_setLimit 13 = .ok (.invokespecial 54, 3) := by decide +kernel
theorem dX0_setLimit_16 : decode cX0_setLimit 16 = .ok (.athrow, 1) := by decide +kernel
theorem dX0_setLimit_17 : decode cX0_setLimit 17 = .ok (.aload_n 0, 1) := by decide +kernel
theorem dX0_setLimit_18 : decode cX0_setLimit 18 = .ok (.getfield 39, 3) := by decide +kernel
theorem dX0_setLimit_21 : decode cX0_setLimit 21 = .ok (.istore_n 2, 1) := by decide +kernel
theorem dX0_setLimit_22 : decode cX0_setLimit 22 = .ok (.aload_n 0, 1) := by decide +kernel
theorem dX0_setLimit_23 : decode cX0_setLimit 23 = .ok (.iload_n 1, 1) := by decide +kernel
theorem dX0_setLimit_24 : decode cX0_setLimit 24 = .ok (.putfield 39, 3) := by decide +kernel
theorem dX0_setLimit_27 : decode cX0_setLimit 27 = .ok (.iload_n 2, 1) := by decide +kernel
theorem dX0_setLimit_28 : decode cX0_setLimit 28 = .ok (.ireturn, 1) := by decide +kernel
set_option maxRecDepth 20000 in
theorem ggX0_pass_X0_checkDays : GoodIn wsX0_pass wsX0_checkDays := goodIn_ca (goodIn_r _ [6, 7, 8] (by decide +kernel) (by decide +kernel)) (goodIn_sub (fun _ h => List.mem_cons_of_mem _ (List.mem_append_right _ h)) (by decide +kernel))
set_option maxRecDepth 20000 in
theorem gX0_pass_X0_checkDays : GoodIn wsX0_pass (va_wsS RX0 94 yX0_checkDays wsX0_checkDays) := goodIn_app (goodIn_of _ (by decide +kernel)) ggX0_pass_X0_checkDays
set_option maxRecDepth 20000 in
theorem ggX0_pass_X0_letDaysGoBy : GoodIn wsX0_pass wsX0_letDaysGoBy := goodIn_r _ [12, 13, 14, 15, 5, 16, 17, 18, 19, 20, 21, 22, 23, 24, 25, 26, 35, 36, 37, 38, 39, 40, 41, 42, 43, 44, 45, 46, 47, 48, 49] (by decide +kernel) (by decide +kernel)
set_option maxRecDepth 20000 in
theorem gX0_pass_X0_letDaysGoBy : GoodIn wsX0_pass (wsV RX0 97 RX0 yX0_letDaysGoBy wsX0_letDaysGoBy) := goodIn_app (goodIn_of _ (by decide +kernel)) ggX0_pass_X0_letDaysGoBy
set_option maxRecDepth 20000 in
theorem ggX0_pass_X0_addDoubt : GoodIn wsX0_pass wsX0_addDoubt := goodIn_r _ [30, 31, 32, 33, 34, 35, 36, 37, 38, 39, 40, 41, 42, 43, 44, 45, 46, 47, 48, 49] (by decide +kernel) (by decide +kernel)
set_option maxRecDepth 20000 in
theorem gX0_pass_X0_addDoubt : GoodIn wsX0_pass (wsV RX0 101 RX0 yX0_addDoubt wsX0_addDoubt) := goodIn_app (goodIn_of _ (by decide +kernel)) ggX0_pass_X0_addDoubt
theorem dX0_pass_0 : decode cX0_pass 0 = .ok (.iload_n 1, 1) := by decide +kernel
theorem dX0_pass_1 : decode cX0_pass 1 = .ok (.invokestatic 94, 3) := by decide +kernel
theorem dX0_pass_4 : decode cX0_pass 4 = .ok (.aload_n 0, 1) := by decide +kernel
theorem dX0_pass_5 : decode cX0_pass 5 = .ok (.aload_n 0, 1) := by decide +kernel
theorem dX0_pass_6 : decode cX0_pass 6 = .ok (.getfield 13, 3) := by decide +kernel
theorem dX0_pass_9 : decode cX0_pass 9 = .ok (.iload_n 1, 1) := by decide +kernel
theorem dX0_pass_10 : decode cX0_pass 10 = .ok (.invokevirtual 97, 3) := by decide +kernel
theorem dX0_pass_13 : decode cX0_pass 13 = .ok (.istore_n 2, 1) := by decide +kernel
theorem dX0_pass_14 : decode cX0_pass 14 = .ok (.aload_n 0, 1) := by decide +kernel
theorem dX0_pass_15 : decode cX0_pass 15 = .ok (.iload_n 1, 1) := by decide +kernel
theorem dX0_pass_16 : decode cX0_pass 16 = .ok (.invokevirtual 101, 3) := by decide +kernel
theorem dX0_pass_19 : decode cX0_pass 19 = .ok (.aload_n 0, 1) := by decide +kernel
theorem dX0_pass_20 : decode cX0_pass 20 = .ok (.dup, 1) := by decide +kernel
theorem dX0_pass_21 : decode cX0_pass 21 = .ok (.getfield 104, 3) := by decide +kernel
theorem dX0_pass_24 : decode cX0_pass 24 = .ok (.iload_n 1, 1) := by decide +kernel
theorem dX0_pass_25 : decode cX0_pass 25 = .ok (.iadd, 1) := by decide +kernel
theorem dX0_pass_26 : decode cX0_pass 26 = .ok (.putfield 104, 3) := by decide +kernel
theorem dX0_pass_29 : decode cX0_pass 29 = .ok (.iload_n 2, 1) := by decide +kernel
theorem dX0_pass_30 : decode cX0_pass 30 = .ok (.ireturn, 1) := by decide +kernel
set_option maxRecDepth 20000 in
theorem ggX0_draw_X0_checkLayers : GoodIn wsX0_draw wsX0_checkLayers := goodIn_ca (goodIn_r _ [12, 13, 14, 15, 21, 22, 23, 24, 25, 26, 27, 28, 29, 30, 31, 32, 33, 34, 35] (by decide +kernel) (by decide +kernel)) (goodIn_sub (fun _ h => List.mem_cons_of_mem _ (List.mem_append_right _ h)) (by decide +kernel))
set_option maxRecDepth 20000 in
theorem gX0_draw_X0_checkLayers : GoodIn wsX0_draw (wsV RX0 107 RX0 yX0_checkLayers wsX0_checkLayers) := goodIn_app (goodIn_of _ (by decide +kernel)) ggX0_draw_X0_checkLayers
set_option maxRecDepth 20000 in
theorem ggX0_draw_X0_sumNow : GoodIn wsX0_draw wsX0_sumNow := goodIn_r _ [19, 20, 21, 22, 23, 24, 25, 26, 27, 28, 29, 30, 31, 32, 33, 34, 35] (by decide +kernel) (by decide +kernel)
set_option maxRecDepth 20000 in
theorem gX0_draw_X0_sumNow : GoodIn wsX0_draw (wsV RX0 113 RX0 yX0_sumNow wsX0_sumNow) := goodIn_app (goodIn_of _ (by decide +kernel)) ggX0_draw_X0_sumNow
theorem dX0_draw_0 : decode cX0_draw 0 = .ok (.aload_n 0, 1) := by decide +kernel
theorem dX0_draw_1 : decode cX0_draw 1 = .ok (.iload_n 1, 1) := by decide +kernel
theorem dX0_draw_2 : decode cX0_draw 2 = .ok (.iload_n 2, 1) := by decide +kernel
theorem dX0_draw_3 : decode cX0_draw 3 = .ok (.invokevirtual 107, 3) := by decide +kernel
theorem dX0_draw_6 : decode cX0_draw 6 = .ok (.aload_n 0, 1) := by decide +kernel
theorem dX0_draw_7 : decode cX0_draw 7 = .ok (.getfield 86, 3) := by decide +kernel
theorem dX0_draw_10 : decode cX0_draw 10 = .ok (.bipush 16, 2) := by decide +kernel
theorem dX0_draw_12 : decode cX0_draw 12 = .ok (.if_icmp .lt 13, 3) := by decide +kernel
theorem dX0_draw_15 : decode cX0_draw 15 = .ok (.new 60, 3) := by decide +kernel
theorem dX0_draw_18 : decode cX0_draw 18 = .ok (.dup, 1) := by decide +kernel
theorem dX0_draw_19 : decode cX0_draw 19 = .ok (.ldc 111, 2) := by decide +kernel
theorem dX0_draw_21 : decode cX0_draw 21 = .ok (.invokespecial 64, 3) := by decide +kernel
theorem dX0_draw_24 : decode cX0_draw 24 = .ok (.athrow, 1) := by decide +kernel
theorem dX0_draw_25 : decode cX0_draw 25 = .ok (.aload_n 0, 1) := by decide +kernel
theorem dX0_draw_26 : decode cX0_draw 26 = .ok (.iload_n 1, 1) := by decide +kernel
theorem dX0_draw_27 : decode cX0_draw 27 = .ok (.iload_n 2, 1) := by decide +kernel
theorem dX0_draw_28 : decode cX0_draw 28 = .ok (.invokevirtual 113, 3) := by decide +kernel
theorem dX0_draw_31 : decode cX0_draw 31 = .ok (.istore_n 3, 1) := by decide +kernel
theorem dX0_draw_32 : decode cX0_draw 32 = .ok (.aload_n 0, 1) := by decide +kernel
theorem dX0_draw_33 : decode cX0_draw 33 = .ok (.getfield 16, 3) := by decide +kernel
theorem dX0_draw_36 : decode cX0_draw 36 = .ok (.aload_n 0, 1) := by decide +kernel
theorem dX0_draw_37 : decode cX0_draw 37 = .ok (.getfield 86, 3) := by decide +kernel
theorem dX0_draw_40 : decode cX0_draw 40 = .ok (.iload_n 1, 1) := by decide +kernel
theorem dX0_draw_41 : decode cX0_draw 41 = .ok (.iastore, 1) := by decide +kernel
theorem dX0_draw_42 : decode cX0_draw 42 = .ok (.aload_n 0, 1) := by decide +kernel
theorem dX0_draw_43 : decode cX0_draw 43 = .ok (.getfield 19, 3) := by decide +kernel
theorem dX0_draw_46 : decode cX0_draw 46 = .ok (.aload_n 0, 1) := by decide +kernel
theorem dX0_draw_47 : decode cX0_draw 47 = .ok (.getfield 86, 3) := by decide +kernel
theorem dX0_draw_50 : decode cX0_draw 50 = .ok (.iload_n 2, 1) := by decide +kernel
theorem dX0_draw_51 : decode cX0_draw 51 = .ok (.iastore, 1) := by decide +kernel
theorem dX0_draw_52 : decode cX0_draw 52 = .ok (.aload_n 0, 1) := by decide +kernel
theorem dX0_draw_53 : decode cX0_draw 53 = .ok (.getfield 22, 3) := by decide +kernel
theorem dX0_draw_56 : decode cX0_draw 56 = .ok (.aload_n 0, 1) := by decide +kernel
theorem dX0_draw_57 : decode cX0_draw 57 = .ok (.getfield 86, 3) := by decide +kernel
theorem dX0_draw_60 : decode cX0_draw 60 = .ok (.iload_n 3, 1) := by decide +kernel
theorem dX0_draw_61 : decode cX0_draw 61 = .ok (.iastore, 1) := by decide +kernel
theorem dX0_draw_62 : decode cX0_draw 62 = .ok (.aload_n 0, 1) := by decide +kernel
theorem dX0_draw_63 : decode cX0_draw 63 = .ok (.getfield 25, 3) := by decide +kernel
theorem dX0_draw_66 : decode cX0_draw 66 = .ok (.aload_n 0, 1) := by decide +kernel
theorem dX0_draw_67 : decode cX0_draw 67 = .ok (.getfield 86, 3) := by decide +kernel
theorem dX0_draw_70 : decode cX0_draw 70 = .ok (.iconst 0, 1) := by decide +kernel
theorem dX0_draw_71 : decode cX0_draw 71 = .ok (.iastore, 1) := by decide +kernel
theorem dX0_draw_72 : decode cX0_draw 72 = .ok (.aload_n 0, 1) := by decide +kernel
theorem dX0_draw_73 : decode cX0_draw 73 = .ok (.dup, 1) := by decide +kernel
theorem dX0_draw_74 : decode cX0_draw 74 = .ok (.getfield 86, 3) := by decide +kernel
theorem dX0_draw_77 : decode cX0_draw 77 = .ok (.iconst 1, 1) := by decide +kernel
theorem dX0_draw_78 : decode cX0_draw 78 = .ok (.iadd, 1) := by decide +kernel
theorem dX0_draw_79 : decode cX0_draw 79 = .ok (.putfield 86, 3) := by decide +kernel
theorem dX0_draw_82 : decode cX0_draw 82 = .ok (.iload_n 3, 1) := by decide +kernel
theorem dX0_draw_83 : decode cX0_draw 83 = .ok (.ireturn, 1) := by decide +kernel
set_option maxRecDepth 20000 in
theorem ggX0_throwAway_X0_checkSample : GoodIn wsX0_throwAway wsX0_checkSample := goodIn_ca (goodIn_r _ [6, 7, 8, 1, 17, 18, 19, 20, 21, 22, 23, 24, 25, 26, 27, 28, 29, 30, 31] (by decide +kernel) (by decide +kernel)) (goodIn_sub (fun _ h => List.mem_cons_of_mem _ (List.mem_append_right _ h)) (by decide +kernel))
set_option maxRecDepth 20000 in
theorem gX0_throwAway_X0_checkSample : GoodIn wsX0_throwAway (wsV RX0 116 RX0 yX0_checkSample wsX0_checkSample) := goodIn_app (goodIn_of _ (by decide +kernel)) ggX0_throwAway_X0_checkSample
set_option maxRecDepth 20000 in
theorem ggX0_throwAway_X0_moveSample : GoodIn wsX0_throwAway wsX0_moveSample := goodIn_r _ [12, 13, 14, 15, 16, 17, 18, 19, 20, 21, 22, 23, 24, 25, 26, 27, 28, 29, 30, 31] (by decide +kernel) (by decide +kernel)
set_option maxRecDepth 20000 in
theorem gX0_throwAway_X0_moveSample : GoodIn wsX0_throwAway (wsV RX0 119 RX0 yX0_moveSample wsX0_moveSample) := goodIn_app (goodIn_of _ (by decide +kernel)) ggX0_throwAway_X0_moveSample
theorem dX0_throwAway_0 : decode cX0_throwAway 0 = .ok (.aload_n 0, 1) := by decide +kernel
theorem dX0_throwAway_1 : decode cX0_throwAway 1 = .ok (.iload_n 1, 1) := by decide +kernel
theorem dX0_throwAway_2 : decode cX0_throwAway 2 = .ok (.invokevirtual 116, 3) := by decide +kernel
theorem dX0_throwAway_5 : decode cX0_throwAway 5 = .ok (.iload_n 1, 1) := by decide +kernel
theorem dX0_throwAway_6 : decode cX0_throwAway 6 = .ok (.iconst 1, 1) := by decide +kernel
theorem dX0_throwAway_7 : decode cX0_throwAway 7 = .ok (.iadd, 1) := by decide +kernel
theorem dX0_throwAway_8 : decode cX0_throwAway 8 = .ok (.istore_n 2, 1) := by decide +kernel
theorem dX0_throwAway_9 : decode cX0_throwAway 9 = .ok (.iload_n 2, 1) := by decide +kernel
theorem dX0_throwAway_10 : decode cX0_throwAway 10 = .ok (.aload_n 0, 1) := by decide +kernel
theorem dX0_throwAway_11 : decode cX0_throwAway 11 = .ok (.getfield 86, 3) := by decide +kernel
theorem dX0_throwAway_14 : decode cX0_throwAway 14 = .ok (.if_icmp .ge 17, 3) := by decide +kernel
theorem dX0_throwAway_17 : decode cX0_throwAway 17 = .ok (.aload_n 0, 1) := by decide +kernel
theorem dX0_throwAway_18 : decode cX0_throwAway 18 = .ok (.iload_n 2, 1) := by decide +kernel
theorem dX0_throwAway_19 : decode cX0_throwAway 19 = .ok (.iload_n 2, 1) := by decide +kernel
theorem dX0_throwAway_20 : decode cX0_throwAway 20 = .ok (.iconst 1, 1) := by decide +kernel
theorem dX0_throwAway_21 : decode cX0_throwAway 21 = .ok (.isub, 1) := by decide +kernel
theorem dX0_throwAway_22 : decode cX0_throwAway 22 = .ok (.invokevirtual 119, 3) := by decide +kernel
theorem dX0_throwAway_25 : decode cX0_throwAway 25 = .ok (.iinc 2 1, 3) := by decide +kernel
theorem dX0_throwAway_28 : decode cX0_throwAway 28 = .ok (.goto (-19), 3) := by decide +kernel
theorem dX0_throwAway_31 : decode cX0_throwAway 31 = .ok (.aload_n 0, 1) := by decide +kernel
theorem dX0_throwAway_32 : decode cX0_throwAway 32 = .ok (.dup, 1) := by decide +kernel
theorem dX0_throwAway_33 : decode cX0_throwAway 33 = .ok (.getfield 86, 3) := by decide +kernel
theorem dX0_throwAway_36 : decode cX0_throwAway 36 = .ok (.iconst 1, 1) := by decide +kernel
theorem dX0_throwAway_37 : decode cX0_throwAway 37 = .ok (.isub, 1) := by decide +kernel
theorem dX0_throwAway_38 : decode cX0_throwAway 38 = .ok (.putfield 86, 3) := by decide +kernel
theorem dX0_throwAway_41 : decode cX0_throwAway 41 = .ok (.aload_n 0, 1) := by decide +kernel
theorem dX0_throwAway_42 : decode cX0_throwAway 42 = .ok (.getfield 86, 3) := by decide +kernel
theorem dX0_throwAway_45 : decode cX0_throwAway 45 = .ok (.ireturn, 1) := by decide +kernel
theorem dX0_samples_0 : decode cX0_samples 0 = .ok (.aload_n 0, 1) := by decide +kernel
theorem dX0_samples_1 : decode cX0_samples 1 = .ok (.getfield 86, 3) := by decide +kernel
theorem dX0_samples_4 : decode cX0_samples 4 = .ok (.ireturn, 1) := by decide +kernel
set_option maxRecDepth 20000 in
theorem ggX0_lowestOf_X0_checkSample : GoodIn wsX0_lowestOf wsX0_checkSample := goodIn_ca (goodIn_r _ [6, 7, 8, 9, 10, 11, 12, 13, 14, 15, 16, 17, 18, 19, 20, 21, 22, 23, 24] (by decide +kernel) (by decide +kernel)) (goodIn_sub (fun _ h => List.mem_cons_of_mem _ (List.mem_append_right _ h)) (by decide +kernel))
set_option maxRecDepth 20000 in
theorem gX0_lowestOf_X0_checkSample : GoodIn wsX0_lowestOf (wsV RX0 116 RX0 yX0_checkSample wsX0_checkSample) := goodIn_app (goodIn_of _ (by decide +kernel)) ggX0_lowestOf_X0_checkSample
theorem dX0_lowestOf_0 : decode cX0_lowestOf 0 = .ok (.aload_n 0, 1) := by decide +kernel
theorem dX0_lowestOf_1 : decode cX0_lowestOf 1 = .ok (.iload_n 1, 1) := by decide +kernel
theorem dX0_lowestOf_2 : decode cX0_lowestOf 2 = .ok (.invokevirtual 116, 3) := by decide +kernel
theorem dX0_lowestOf_5 : decode cX0_lowestOf 5 = .ok (.aload_n 0, 1) := by decide +kernel
theorem dX0_lowestOf_6 : decode cX0_lowestOf 6 = .ok (.getfield 16, 3) := by decide +kernel
theorem dX0_lowestOf_9 : decode cX0_lowestOf 9 = .ok (.iload_n 1, 1) := by decide +kernel
theorem dX0_lowestOf_10 : decode cX0_lowestOf 10 = .ok (.iaload, 1) := by decide +kernel
theorem dX0_lowestOf_11 : decode cX0_lowestOf 11 = .ok (.ireturn, 1) := by decide +kernel
set_option maxRecDepth 20000 in
theorem ggX0_highestOf_X0_checkSample : GoodIn wsX0_highestOf wsX0_checkSample := goodIn_ca (goodIn_r _ [6, 7, 8, 9, 10, 11, 12, 13, 14, 15, 16, 17, 18, 19, 20, 21, 22, 23, 24] (by decide +kernel) (by decide +kernel)) (goodIn_sub (fun _ h => List.mem_cons_of_mem _ (List.mem_append_right _ h)) (by decide +kernel))
set_option maxRecDepth 20000 in
theorem gX0_highestOf_X0_checkSample : GoodIn wsX0_highestOf (wsV RX0 116 RX0 yX0_checkSample wsX0_checkSample) := goodIn_app (goodIn_of _ (by decide +kernel)) ggX0_highestOf_X0_checkSample
theorem dX0_highestOf_0 : decode cX0_highestOf 0 = .ok (.aload_n 0, 1) := by decide +kernel
theorem dX0_highestOf_1 : decode cX0_highestOf 1 = .ok (.iload_n 1, 1) := by decide +kernel
theorem dX0_highestOf_2 : decode cX0_highestOf 2 = .ok (.invokevirtual 116, 3) := by decide +kernel
theorem dX0_highestOf_5 : decode cX0_highestOf 5 = .ok (.aload_n 0, 1) := by decide +kernel
theorem dX0_highestOf_6 : decode cX0_highestOf 6 = .ok (.getfield 19, 3) := by decide +kernel
theorem dX0_highestOf_9 : decode cX0_highestOf 9 = .ok (.iload_n 1, 1) := by decide +kernel
theorem dX0_highestOf_10 : decode cX0_highestOf 10 = .ok (.iaload, 1) := by decide +kernel
theorem dX0_highestOf_11 : decode cX0_highestOf 11 = .ok (.ireturn, 1) := by decide +kernel
set_option maxRecDepth 20000 in
theorem ggX0_sumOf_X0_checkSample : GoodIn wsX0_sumOf wsX0_checkSample := goodIn_ca (goodIn_r _ [6, 7, 8, 9, 10, 11, 12, 13, 14, 15, 16, 17, 18, 19, 20, 21, 22, 23, 24] (by decide +kernel) (by decide +kernel)) (goodIn_sub (fun _ h => List.mem_cons_of_mem _ (List.mem_append_right _ h)) (by decide +kernel))
set_option maxRecDepth 20000 in
theorem gX0_sumOf_X0_checkSample : GoodIn wsX0_sumOf (wsV RX0 116 RX0 yX0_checkSample wsX0_checkSample) := goodIn_app (goodIn_of _ (by decide +kernel)) ggX0_sumOf_X0_checkSample
theorem dX0_sumOf_0 : decode cX0_sumOf 0 = .ok (.aload_n 0, 1) := by decide +kernel
theorem dX0_sumOf_1 : decode cX0_sumOf 1 = .ok (.iload_n 1, 1) := by decide +kernel
theorem dX0_sumOf_2 : decode cX0_sumOf 2 = .ok (.invokevirtual 116, 3) := by decide +kernel
theorem dX0_sumOf_5 : decode cX0_sumOf 5 = .ok (.aload_n 0, 1) := by decide +kernel
theorem dX0_sumOf_6 : decode cX0_sumOf 6 = .ok (.getfield 22, 3) := by decide +kernel
theorem dX0_sumOf_9 : decode cX0_sumOf 9 = .ok (.iload_n 1, 1) := by decide +kernel
theorem dX0_sumOf_10 : decode cX0_sumOf 10 = .ok (.iaload, 1) := by decide +kernel
theorem dX0_sumOf_11 : decode cX0_sumOf 11 = .ok (.ireturn, 1) := by decide +kernel
set_option maxRecDepth 20000 in
theorem ggX0_doubtOf_X0_checkSample : GoodIn wsX0_doubtOf wsX0_checkSample := goodIn_ca (goodIn_r _ [6, 7, 8, 9, 10, 11, 12, 13, 14, 15, 16, 17, 18, 19, 20, 21, 22, 23, 24] (by decide +kernel) (by decide +kernel)) (goodIn_sub (fun _ h => List.mem_cons_of_mem _ (List.mem_append_right _ h)) (by decide +kernel))
set_option maxRecDepth 20000 in
theorem gX0_doubtOf_X0_checkSample : GoodIn wsX0_doubtOf (wsV RX0 116 RX0 yX0_checkSample wsX0_checkSample) := goodIn_app (goodIn_of _ (by decide +kernel)) ggX0_doubtOf_X0_checkSample
theorem dX0_doubtOf_0 : decode cX0_doubtOf 0 = .ok (.aload_n 0, 1) := by decide +kernel
theorem dX0_doubtOf_1 : decode cX0_doubtOf 1 = .ok (.iload_n 1, 1) := by decide +kernel
theorem dX0_doubtOf_2 : decode cX0_doubtOf 2 = .ok (.invokevirtual 116, 3) := by decide +kernel
theorem dX0_doubtOf_5 : decode cX0_doubtOf 5 = .ok (.aload_n 0, 1) := by decide +kernel
theorem dX0_doubtOf_6 : decode cX0_doubtOf 6 = .ok (.getfield 25, 3) := by decide +kernel
theorem dX0_doubtOf_9 : decode cX0_doubtOf 9 = .ok (.iload_n 1, 1) := by decide +kernel
theorem dX0_doubtOf_10 : decode cX0_doubtOf 10 = .ok (.iaload, 1) := by decide +kernel
theorem dX0_doubtOf_11 : decode cX0_doubtOf 11 = .ok (.ireturn, 1) := by decide +kernel
theorem dX0_layers_0 : decode cX0_layers 0 = .ok (.aload_n 0, 1) := by decide +kernel
theorem dX0_layers_1 : decode cX0_layers 1 = .ok (.getfield 57, 3) := by decide +kernel
theorem dX0_layers_4 : decode cX0_layers 4 = .ok (.ireturn, 1) := by decide +kernel
theorem dX0_day_0 : decode cX0_day 0 = .ok (.aload_n 0, 1) := by decide +kernel
theorem dX0_day_1 : decode cX0_day 1 = .ok (.getfield 104, 3) := by decide +kernel
theorem dX0_day_4 : decode cX0_day 4 = .ok (.ireturn, 1) := by decide +kernel
theorem dX0_limit_0 : decode cX0_limit 0 = .ok (.aload_n 0, 1) := by decide +kernel
theorem dX0_limit_1 : decode cX0_limit 1 = .ok (.getfield 39, 3) := by decide +kernel
theorem dX0_limit_4 : decode cX0_limit 4 = .ok (.ireturn, 1) := by decide +kernel
theorem dX0_sold_0 : decode cX0_sold 0 = .ok (.aload_n 0, 1) := by decide +kernel
theorem dX0_sold_1 : decode cX0_sold 1 = .ok (.getfield 122, 3) := by decide +kernel
theorem dX0_sold_4 : decode cX0_sold 4 = .ok (.ireturn, 1) := by decide +kernel
theorem dX0_spoilt_0 : decode cX0_spoilt 0 = .ok (.aload_n 0, 1) := by decide +kernel
theorem dX0_spoilt_1 : decode cX0_spoilt 1 = .ok (.getfield 125, 3) := by decide +kernel
theorem dX0_spoilt_4 : decode cX0_spoilt 4 = .ok (.ireturn, 1) := by decide +kernel
set_option maxRecDepth 20000 in
theorem ggX0_kindOf_X0_checkLayer : GoodIn wsX0_kindOf wsX0_checkLayer := goodIn_ca (goodIn_r _ [6, 7, 8, 9, 10, 11, 12, 13, 14, 15, 16, 17, 18, 19, 20, 21, 22, 23, 24] (by decide +kernel) (by decide +kernel)) (goodIn_sub (fun _ h => List.mem_cons_of_mem _ (List.mem_append_right _ h)) (by decide +kernel))
set_option maxRecDepth 20000 in
theorem gX0_kindOf_X0_checkLayer : GoodIn wsX0_kindOf (wsV RX0 128 RX0 yX0_checkLayer wsX0_checkLayer) := goodIn_app (goodIn_of _ (by decide +kernel)) ggX0_kindOf_X0_checkLayer
theorem dX0_kindOf_0 : decode cX0_kindOf 0 = .ok (.aload_n 0, 1) := by decide +kernel
theorem dX0_kindOf_1 : decode cX0_kindOf 1 = .ok (.iload_n 1, 1) := by decide +kernel
theorem dX0_kindOf_2 : decode cX0_kindOf 2 = .ok (.invokevirtual 128, 3) := by decide +kernel
theorem dX0_kindOf_5 : decode cX0_kindOf 5 = .ok (.aload_n 0, 1) := by decide +kernel
theorem dX0_kindOf_6 : decode cX0_kindOf 6 = .ok (.getfield 9, 3) := by decide +kernel
theorem dX0_kindOf_9 : decode cX0_kindOf 9 = .ok (.iload_n 1, 1) := by decide +kernel
theorem dX0_kindOf_10 : decode cX0_kindOf 10 = .ok (.iaload, 1) := by decide +kernel
theorem dX0_kindOf_11 : decode cX0_kindOf 11 = .ok (.ireturn, 1) := by decide +kernel
set_option maxRecDepth 20000 in
theorem ggX0_dampnessOf_X0_checkLayer : GoodIn wsX0_dampnessOf wsX0_checkLayer := goodIn_ca (goodIn_r _ [6, 7, 8, 9, 10, 11, 12, 13, 14, 15, 16, 17, 18, 19, 20, 21, 22, 23, 24] (by decide +kernel) (by decide +kernel)) (goodIn_sub (fun _ h => List.mem_cons_of_mem _ (List.mem_append_right _ h)) (by decide +kernel))
set_option maxRecDepth 20000 in
theorem gX0_dampnessOf_X0_checkLayer : GoodIn wsX0_dampnessOf (wsV RX0 128 RX0 yX0_checkLayer wsX0_checkLayer) := goodIn_app (goodIn_of _ (by decide +kernel)) ggX0_dampnessOf_X0_checkLayer
theorem dX0_dampnessOf_0 : decode cX0_dampnessOf 0 = .ok (.aload_n 0, 1) := by decide +kernel
theorem dX0_dampnessOf_1 : decode cX0_dampnessOf 1 = .ok (.iload_n 1, 1) := by decide +kernel
theorem dX0_dampnessOf_2 : decode cX0_dampnessOf 2 = .ok (.invokevirtual 128, 3) := by decide +kernel
theorem dX0_dampnessOf_5 : decode cX0_dampnessOf 5 = .ok (.aload_n 0, 1) := by decide +kernel
theorem dX0_dampnessOf_6 : decode cX0_dampnessOf 6 = .ok (.getfield 13, 3) := by decide +kernel
theorem dX0_dampnessOf_9 : decode cX0_dampnessOf 9 = .ok (.iload_n 1, 1) := by decide +kernel
theorem dX0_dampnessOf_10 : decode cX0_dampnessOf 10 = .ok (.iaload, 1) := by decide +kernel
theorem dX0_dampnessOf_11 : decode cX0_dampnessOf 11 = .ok (.ireturn, 1) := by decide +kernel
set_option maxRecDepth 20000 in
theorem ggX0_dampLayers_X0_isDamp : GoodIn wsX0_dampLayers wsX0_isDamp := goodIn_r _ [7, 8, 9, 10, 11, 12, 13, 14, 15, 16, 17, 18, 19, 20, 21, 22, 23] (by decide +kernel) (by decide +kernel)
set_option maxRecDepth 20000 in
theorem gX0_dampLayers_X0_isDamp : GoodIn wsX0_dampLayers (wsV RX0 131 RX0 yX0_isDamp wsX0_isDamp) := goodIn_app (goodIn_of _ (by decide +kernel)) ggX0_dampLayers_X0_isDamp
theorem dX0_dampLayers_0 : decode cX0_dampLayers 0 = .ok (.iconst 0, 1) := by decide +kernel
theorem dX0_dampLayers_1 : decode cX0_dampLayers 1 = .ok (.istore_n 1, 1) := by decide +kernel
theorem dX0_dampLayers_2 : decode cX0_dampLayers 2 = .ok (.iconst 0, 1) := by decide +kernel
theorem dX0_dampLayers_3 : decode cX0_dampLayers 3 = .ok (.istore_n 2, 1) := by decide +kernel
theorem dX0_dampLayers_4 : decode cX0_dampLayers 4 = .ok (.iload_n 2, 1) := by decide +kernel
theorem dX0_dampLayers_5 : decode cX0_dampLayers 5 = .ok (.aload_n 0, 1) := by decide +kernel
theorem dX0_dampLayers_6 : decode cX0_dampLayers 6 = .ok (.getfield 57, 3) := by decide +kernel
theorem dX0_dampLayers_9 : decode cX0_dampLayers 9 = .ok (.if_icmp .ge 25, 3) := by decide +kernel
theorem dX0_dampLayers_12 : decode cX0_dampLayers 12 = .ok (.aload_n 0, 1) := by decide +kernel
theorem dX0_dampLayers_13 : decode cX0_dampLayers 13 = .ok (.aload_n 0, 1) := by decide +kernel
theorem dX0_dampLayers_14 : decode cX0_dampLayers 14 = .ok (.getfield 13, 3) := by decide +kernel
theorem dX0_dampLayers_17 : decode cX0_dampLayers 17 = .ok (.iload_n 2, 1) := by decide +kernel
theorem dX0_dampLayers_18 : decode cX0_dampLayers 18 = .ok (.iaload, 1) := by decide +kernel
theorem dX0_dampLayers_19 : decode cX0_dampLayers 19 = .ok (.invokevirtual 131, 3) := by decide +kernel
theorem dX0_dampLayers_22 : decode cX0_dampLayers 22 = .ok (.ifCond .eq 6, 3) := by decide +kernel
theorem dX0_dampLayers_25 : decode cX0_dampLayers 25 = .ok (.iinc 1 1, 3) := by decide +kernel
theorem dX0_dampLayers_28 : decode cX0_dampLayers 28 = .ok (.iinc 2 1, 3) := by decide +kernel
theorem dX0_dampLayers_31 : decode cX0_dampLayers 31 = .ok (.goto (-27), 3) := by decide +kernel
theorem dX0_dampLayers_34 : decode cX0_dampLayers 34 = .ok (.iload_n 1, 1) := by decide +kernel
theorem dX0_dampLayers_35 : decode cX0_dampLayers 35 = .ok (.ireturn, 1) := by decide +kernel
set_option maxRecDepth 20000 in
theorem ggX0_layersAheadOf_X0_isKind : GoodIn wsX0_layersAheadOf wsX0_isKind := goodIn_r _ [8] (by decide +kernel) (by decide +kernel)
set_option maxRecDepth 20000 in
theorem gX0_layersAheadOf_X0_isKind : GoodIn wsX0_layersAheadOf (va_wsS RX0 43 yX0_isKind wsX0_isKind) := goodIn_app (goodIn_of _ (by decide +kernel)) ggX0_layersAheadOf_X0_isKind
theorem dX0_layersAheadOf_0 : decode cX0_layersAheadOf 0 = .ok (.iload_n 1, 1) := by decide +kernel
theorem dX0_layersAheadOf_1 : decode cX0_layersAheadOf 1 = .ok (.invokestatic 43, 3) := by decide +kernel
theorem dX0_layersAheadOf_4 : decode cX0_layersAheadOf 4 = .ok (.ifCond .ne 13, 3) := by decide +kernel
theorem dX0_layersAheadOf_7 : decode cX0_layersAheadOf 7 = .ok (.new 134, 3) := by decide +kernel
theorem dX0_layersAheadOf_10 : decode cX0_layersAheadOf 10 = .ok (.dup, 1) := by decide +kernel
theorem dX0_layersAheadOf_11 : decode cX0_layersAheadOf 11 = .ok (.ldc 136, 2) := by decide +kernel
theorem dX0_layersAheadOf_13 : decode cX0_layersAheadOf 13 = .ok (.invokespecial 138, 3) := by decide +kernel
theorem dX0_layersAheadOf_16 : decode cX0_layersAheadOf 16 = .ok (.athrow, 1) := by decide +kernel
theorem dX0_layersAheadOf_17 : decode cX0_layersAheadOf 17 = .ok (.iconst 0, 1) := by decide +kernel
theorem dX0_layersAheadOf_18 : decode cX0_layersAheadOf 18 = .ok (.istore_n 2, 1) := by decide +kernel
theorem dX0_layersAheadOf_19 : decode cX0_layersAheadOf 19 = .ok (.iload_n 2, 1) := by decide +kernel
theorem dX0_layersAheadOf_20 : decode cX0_layersAheadOf 20 = .ok (.aload_n 0, 1) := by decide +kernel
theorem dX0_layersAheadOf_21 : decode cX0_layersAheadOf 21 = .ok (.getfield 57, 3) := by decide +kernel
theorem dX0_layersAheadOf_24 : decode cX0_layersAheadOf 24 = .ok (.if_icmp .ge 21, 3) := by decide +kernel
theorem dX0_layersAheadOf_27 : decode cX0_layersAheadOf 27 = .ok (.aload_n 0, 1) := by decide +kernel
theorem dX0_layersAheadOf_28 : decode cX0_layersAheadOf 28 = .ok (.getfield 9, 3) := by decide +kernel
theorem dX0_layersAheadOf_31 : decode cX0_layersAheadOf 31 = .ok (.iload_n 2, 1) := by decide +kernel
theorem dX0_layersAheadOf_32 : decode cX0_layersAheadOf 32 = .ok (.iaload, 1) := by decide +kernel
theorem dX0_layersAheadOf_33 : decode cX0_layersAheadOf 33 = .ok (.iload_n 1, 1) := by decide +kernel
theorem dX0_layersAheadOf_34 : decode cX0_layersAheadOf 34 = .ok (.if_icmp .ne 5, 3) := by decide +kernel
theorem dX0_layersAheadOf_37 : decode cX0_layersAheadOf 37 = .ok (.iload_n 2, 1) := by decide +kernel
theorem dX0_layersAheadOf_38 : decode cX0_layersAheadOf 38 = .ok (.ireturn, 1) := by decide +kernel
theorem dX0_layersAheadOf_39 : decode cX0_layersAheadOf 39 = .ok (.iinc 2 1, 3) := by decide +kernel
theorem dX0_layersAheadOf_42 : decode cX0_layersAheadOf 42 = .ok (.goto (-23), 3) := by decide +kernel
theorem dX0_layersAheadOf_45 : decode cX0_layersAheadOf 45 = .ok (.iconst (-1), 1) := by decide +kernel
theorem dX0_layersAheadOf_46 : decode cX0_layersAheadOf 46 = .ok (.ireturn, 1) := by decide +kernel
set_option maxRecDepth 20000 in
theorem ggX0_leastOf_X0_checkLayer : GoodIn wsX0_leastOf wsX0_checkLayer := goodIn_ca (goodIn_r _ [5, 6, 7, 8, 35, 36, 37, 38, 39, 40, 41, 42, 43, 44, 45, 46, 47, 48, 49] (by decide +kernel) (by decide +kernel)) (goodIn_sub (fun _ h => List.mem_cons_of_mem _ (List.mem_append_right _ h)) (by decide +kernel))
set_option maxRecDepth 20000 in
theorem gX0_leastOf_X0_checkLayer : GoodIn wsX0_leastOf (wsV RX0 128 RX0 yX0_checkLayer wsX0_checkLayer) := goodIn_app (goodIn_of _ (by decide +kernel)) ggX0_leastOf_X0_checkLayer
set_option maxRecDepth 20000 in
theorem ggX0_leastOf_X0_weighSamples : GoodIn wsX0_leastOf wsX0_weighSamples := goodIn_r _ [12, 13, 14, 15, 16, 17, 18, 19, 20, 4, 21, 8, 22, 23, 24, 25, 26, 27, 28, 29, 30, 35, 36, 37, 38, 39, 40, 41, 42, 43, 44, 45, 46, 47, 48, 49] (by decide +kernel) (by decide +kernel)
set_option maxRecDepth 20000 in
theorem gX0_leastOf_X0_weighSamples : GoodIn wsX0_leastOf (wsV RX0 139 RX0 yX0_weighSamples wsX0_weighSamples) := goodIn_app (goodIn_of _ (by decide +kernel)) ggX0_leastOf_X0_weighSamples
set_option maxRecDepth 20000 in
theorem ggX0_leastOf_X0_least : GoodIn wsX0_leastOf wsX0_least := goodIn_r _ [34, 22, 35, 36, 37, 38, 39, 40, 41, 42, 43, 44, 45, 46, 47, 48, 49] (by decide +kernel) (by decide +kernel)
set_option maxRecDepth 20000 in
theorem gX0_leastOf_X0_least : GoodIn wsX0_leastOf (wsV RX0 142 RX0 yX0_least wsX0_least) := goodIn_app (goodIn_of _ (by decide +kernel)) ggX0_leastOf_X0_least
theorem dX0_leastOf_0 : decode cX0_leastOf 0 = .ok (.aload_n 0, 1) := by decide +kernel
theorem dX0_leastOf_1 : decode cX0_leastOf 1 = .ok (.iload_n 1, 1) := by decide +kernel
theorem dX0_leastOf_2 : decode cX0_leastOf 2 = .ok (.invokevirtual 128, 3) := by decide +kernel
theorem dX0_leastOf_5 : decode cX0_leastOf 5 = .ok (.aload_n 0, 1) := by decide +kernel
theorem dX0_leastOf_6 : decode cX0_leastOf 6 = .ok (.invokevirtual 139, 3) := by decide +kernel
theorem dX0_leastOf_9 : decode cX0_leastOf 9 = .ok (.aload_n 0, 1) := by decide +kernel
theorem dX0_leastOf_10 : decode cX0_leastOf 10 = .ok (.iload_n 1, 1) := by decide +kernel
theorem dX0_leastOf_11 : decode cX0_leastOf 11 = .ok (.iload_n 1, 1) := by decide +kernel
theorem dX0_leastOf_12 : decode cX0_leastOf 12 = .ok (.invokevirtual 142, 3) := by decide +kernel
theorem dX0_leastOf_15 : decode cX0_leastOf 15 = .ok (.ireturn, 1) := by decide +kernel
set_option maxRecDepth 20000 in
theorem ggX0_greatestOf_X0_checkLayer : GoodIn wsX0_greatestOf wsX0_checkLayer := goodIn_ca (goodIn_r _ [5, 6, 7, 8, 35, 36, 37, 38, 39, 40, 41, 42, 43, 44, 45, 46, 47, 48, 49] (by decide +kernel) (by decide +kernel)) (goodIn_sub (fun _ h => List.mem_cons_of_mem _ (List.mem_append_right _ h)) (by decide +kernel))
set_option maxRecDepth 20000 in
theorem gX0_greatestOf_X0_checkLayer : GoodIn wsX0_greatestOf (wsV RX0 128 RX0 yX0_checkLayer wsX0_checkLayer) := goodIn_app (goodIn_of _ (by decide +kernel)) ggX0_greatestOf_X0_checkLayer
set_option maxRecDepth 20000 in
theorem ggX0_greatestOf_X0_weighSamples : GoodIn wsX0_greatestOf wsX0_weighSamples := goodIn_r _ [12, 13, 14, 15, 16, 17, 18, 19, 20, 4, 21, 8, 22, 23, 24, 25, 26, 27, 28, 29, 30, 35, 36, 37, 38, 39, 40, 41, 42, 43, 44, 45, 46, 47, 48, 49] (by decide +kernel) (by decide +kernel)
set_option maxRecDepth 20000 in
theorem gX0_greatestOf_X0_weighSamples : GoodIn wsX0_greatestOf (wsV RX0 139 RX0 yX0_weighSamples wsX0_weighSamples) := goodIn_app (goodIn_of _ (by decide +kernel)) ggX0_greatestOf_X0_weighSamples
set_option maxRecDepth 20000 in
theorem ggX0_greatestOf_X0_greatest : GoodIn wsX0_greatestOf wsX0_greatest := goodIn_r _ [34, 22, 35, 36, 37, 38, 39, 40, 41, 42, 43, 44, 45, 46, 47, 48, 49] (by decide +kernel) (by decide +kernel)
set_option maxRecDepth 20000 in
theorem gX0_greatestOf_X0_greatest : GoodIn wsX0_greatestOf (wsV RX0 145 RX0 yX0_greatest wsX0_greatest) := goodIn_app (goodIn_of _ (by decide +kernel)) ggX0_greatestOf_X0_greatest
theorem dX0_greatestOf_0 : decode cX0_greatestOf 0 = .ok (.aload_n 0, 1) := by decide +kernel
theorem dX0_greatestOf_1 : decode cX0_greatestOf 1 = .ok (.iload_n 1, 1) := by decide +kernel
theorem dX0_greatestOf_2 : decode cX0_greatestOf 2 = .ok (.invokevirtual 128, 3) := by decide +kernel
theorem dX0_greatestOf_5 : decode cX0_greatestOf 5 = .ok (.aload_n 0, 1) := by decide +kernel
theorem dX0_greatestOf_6 : decode cX0_greatestOf 6 = .ok (.invokevirtual 139, 3) := by decide +kernel
theorem dX0_greatestOf_9 : decode cX0_greatestOf 9 = .ok (.aload_n 0, 1) := by decide +kernel
theorem dX0_greatestOf_10 : decode cX0_greatestOf 10 = .ok (.iload_n 1, 1) := by decide +kernel
theorem dX0_greatestOf_11 : decode cX0_greatestOf 11 = .ok (.iload_n 1, 1) := by decide +kernel
theorem dX0_greatestOf_12 : decode cX0_greatestOf 12 = .ok (.invokevirtual 145, 3) := by decide +kernel
theorem dX0_greatestOf_15 : decode cX0_greatestOf 15 = .ok (.ireturn, 1) := by decide +kernel
set_option maxRecDepth 20000 in
theorem ggX0_isKnown_X0_checkLayer : GoodIn wsX0_isKnown wsX0_checkLayer := goodIn_ca (goodIn_r _ [5, 6, 7, 8, 39, 40, 41, 42, 43, 44, 45, 46, 47, 48, 49, 50, 51, 52, 53] (by decide +kernel) (by decide +kernel)) (goodIn_sub (fun _ h => List.mem_cons_of_mem _ (List.mem_append_right _ h)) (by decide +kernel))
set_option maxRecDepth 20000 in
theorem gX0_isKnown_X0_checkLayer : GoodIn wsX0_isKnown (wsV RX0 128 RX0 yX0_checkLayer wsX0_checkLayer) := goodIn_app (goodIn_of _ (by decide +kernel)) ggX0_isKnown_X0_checkLayer
set_option maxRecDepth 20000 in
theorem ggX0_isKnown_X0_weighSamples : GoodIn wsX0_isKnown wsX0_weighSamples := goodIn_r _ [12, 13, 14, 15, 16, 17, 18, 19, 20, 4, 21, 8, 22, 23, 24, 25, 26, 27, 28, 29, 30, 39, 40, 41, 42, 43, 44, 45, 46, 47, 48, 49, 50, 51, 52, 53] (by decide +kernel) (by decide +kernel)
set_option maxRecDepth 20000 in
theorem gX0_isKnown_X0_weighSamples : GoodIn wsX0_isKnown (wsV RX0 139 RX0 yX0_weighSamples wsX0_weighSamples) := goodIn_app (goodIn_of _ (by decide +kernel)) ggX0_isKnown_X0_weighSamples
set_option maxRecDepth 20000 in
theorem ggX0_isKnown_X0_least : GoodIn wsX0_isKnown wsX0_least := goodIn_r _ [34, 22, 39, 40, 41, 42, 43, 44, 45, 46, 47, 48, 49, 50, 51, 52, 53] (by decide +kernel) (by decide +kernel)
set_option maxRecDepth 20000 in
theorem gX0_isKnown_X0_least : GoodIn wsX0_isKnown (wsV RX0 142 RX0 yX0_least wsX0_least) := goodIn_app (goodIn_of _ (by decide +kernel)) ggX0_isKnown_X0_least
set_option maxRecDepth 20000 in
theorem ggX0_isKnown_X0_greatest : GoodIn wsX0_isKnown wsX0_greatest := goodIn_r _ [38, 22, 39, 40, 41, 42, 43, 44, 45, 46, 47, 48, 49, 50, 51, 52, 53] (by decide +kernel) (by decide +kernel)
set_option maxRecDepth 20000 in
theorem gX0_isKnown_X0_greatest : GoodIn wsX0_isKnown (wsV RX0 145 RX0 yX0_greatest wsX0_greatest) := goodIn_app (goodIn_of _ (by decide +kernel)) ggX0_isKnown_X0_greatest
theorem dX0_isKnown_0 : decode cX0_isKnown 0 = .ok (.aload_n 0, 1) := by decide +kernel
theorem dX0_isKnown_1 : decode cX0_isKnown 1 = .ok (.iload_n 1, 1) := by decide +kernel
theorem dX0_isKnown_2 : decode cX0_isKnown 2 = .ok (.invokevirtual 128, 3) := by decide +kernel
theorem dX0_isKnown_5 : decode cX0_isKnown 5 = .ok (.aload_n 0, 1) := by decide +kernel
theorem dX0_isKnown_6 : decode cX0_isKnown 6 = .ok (.invokevirtual 139, 3) := by decide +kernel
theorem dX0_isKnown_9 : decode cX0_isKnown 9 = .ok (.aload_n 0, 1) := by decide +kernel
theorem dX0_isKnown_10 : decode cX0_isKnown 10 = .ok (.iload_n 1, 1) := by decide +kernel
theorem dX0_isKnown_11 : decode cX0_isKnown 11 = .ok (.iload_n 1, 1) := by decide +kernel
theorem dX0_isKnown_12 : decode cX0_isKnown 12 = .ok (.invokevirtual 142, 3) := by decide +kernel
theorem dX0_isKnown_15 : decode cX0_isKnown 15 = .ok (.aload_n 0, 1) := by decide +kernel
theorem dX0_isKnown_16 : decode cX0_isKnown 16 = .ok (.iload_n 1, 1) := by decide +kernel
theorem dX0_isKnown_17 : decode cX0_isKnown 17 = .ok (.iload_n 1, 1) := by decide +kernel
theorem dX0_isKnown_18 : decode cX0_isKnown 18 = .ok (.invokevirtual 145, 3) := by decide +kernel
theorem dX0_isKnown_21 : decode cX0_isKnown 21 = .ok (.if_icmp .ne 7, 3) := by decide +kernel
theorem dX0_isKnown_24 : decode cX0_isKnown 24 = .ok (.iconst 1, 1) := by decide +kernel
theorem dX0_isKnown_25 : decode cX0_isKnown 25 = .ok (.goto 4, 3) := by decide +kernel
theorem dX0_isKnown_28 : decode cX0_isKnown 28 = .ok (.iconst 0, 1) := by decide +kernel
theorem dX0_isKnown_29 : decode cX0_isKnown 29 = .ok (.ireturn, 1) := by decide +kernel
set_option maxRecDepth 20000 in
theorem ggX0_surelyDry_X0_weighSamples : GoodIn wsX0_surelyDry wsX0_weighSamples := goodIn_r _ [5, 6, 7, 8, 9, 10, 11, 12, 13, 4, 14, 15, 16, 17, 18, 19, 20, 21, 22, 23, 24, 38, 39, 40, 41, 42, 43, 44, 45, 46, 47, 48, 49, 50, 51, 52] (by decide +kernel) (by decide +kernel)
set_option maxRecDepth 20000 in
theorem gX0_surelyDry_X0_weighSamples : GoodIn wsX0_surelyDry (wsV RX0 139 RX0 yX0_weighSamples wsX0_weighSamples) := goodIn_app (goodIn_of _ (by decide +kernel)) ggX0_surelyDry_X0_weighSamples
set_option maxRecDepth 20000 in
theorem ggX0_surelyDry_X0_countSurelyDry : GoodIn wsX0_surelyDry wsX0_countSurelyDry := goodIn_r _ [28, 15, 29, 30, 31, 4, 32, 16, 33, 34, 35, 36, 37, 38, 39, 40, 41, 42, 43, 44, 45, 46, 47, 48, 49, 50, 51, 52] (by decide +kernel) (by decide +kernel)
set_option maxRecDepth 20000 in
theorem gX0_surelyDry_X0_countSurelyDry : GoodIn wsX0_surelyDry (wsV RX0 148 RX0 yX0_countSurelyDry wsX0_countSurelyDry) := goodIn_app (goodIn_of _ (by decide +kernel)) ggX0_surelyDry_X0_countSurelyDry
theorem dX0_surelyDry_0 : decode cX0_surelyDry 0 = .ok (.aload_n 0, 1) := by decide +kernel
theorem dX0_surelyDry_1 : decode cX0_surelyDry 1 = .ok (.invokevirtual 139, 3) := by decide +kernel
theorem dX0_surelyDry_4 : decode cX0_surelyDry 4 = .ok (.aload_n 0, 1) := by decide +kernel
theorem dX0_surelyDry_5 : decode cX0_surelyDry 5 = .ok (.invokevirtual 148, 3) := by decide +kernel
theorem dX0_surelyDry_8 : decode cX0_surelyDry 8 = .ok (.ireturn, 1) := by decide +kernel
set_option maxRecDepth 20000 in
theorem ggX0_surelyDamp_X0_weighSamples : GoodIn wsX0_surelyDamp wsX0_weighSamples := goodIn_r _ [5, 6, 7, 8, 9, 10, 11, 12, 13, 4, 14, 15, 16, 17, 18, 19, 20, 21, 22, 23, 24, 38, 39, 40, 41, 42, 43, 44, 45, 46, 47, 48, 49, 50, 51, 52] (by decide +kernel) (by decide +kernel)
set_option maxRecDepth 20000 in
theorem gX0_surelyDamp_X0_weighSamples : GoodIn wsX0_surelyDamp (wsV RX0 139 RX0 yX0_weighSamples wsX0_weighSamples) := goodIn_app (goodIn_of _ (by decide +kernel)) ggX0_surelyDamp_X0_weighSamples
set_option maxRecDepth 20000 in
theorem ggX0_surelyDamp_X0_countSurelyDamp : GoodIn wsX0_surelyDamp wsX0_countSurelyDamp := goodIn_r _ [28, 15, 29, 30, 31, 4, 32, 16, 33, 34, 35, 36, 37, 38, 39, 40, 41, 42, 43, 44, 45, 46, 47, 48, 49, 50, 51, 52] (by decide +kernel) (by decide +kernel)
set_option maxRecDepth 20000 in
theorem gX0_surelyDamp_X0_countSurelyDamp : GoodIn wsX0_surelyDamp (wsV RX0 152 RX0 yX0_countSurelyDamp wsX0_countSurelyDamp) := goodIn_app (goodIn_of _ (by decide +kernel)) ggX0_surelyDamp_X0_countSurelyDamp
theorem dX0_surelyDamp_0 : decode cX0_surelyDamp 0 = .ok (.aload_n 0, 1) := by decide +kernel
theorem dX0_surelyDamp_1 : decode cX0_surelyDamp 1 = .ok (.invokevirtual 139, 3) := by decide +kernel
theorem dX0_surelyDamp_4 : decode cX0_surelyDamp 4 = .ok (.aload_n 0, 1) := by decide +kernel
theorem dX0_surelyDamp_5 : decode cX0_surelyDamp 5 = .ok (.invokevirtual 152, 3) := by decide +kernel
theorem dX0_surelyDamp_8 : decode cX0_surelyDamp 8 = .ok (.ireturn, 1) := by decide +kernel
set_option maxRecDepth 20000 in
theorem ggX0_worstLayer_X0_checkNotEmpty : GoodIn wsX0_worstLayer wsX0_checkNotEmpty := goodIn_ca (goodIn_r _ [6, 7, 8, 1, 35, 36, 37, 38, 39, 40, 41, 42, 43, 44, 45, 46, 47, 48, 49] (by decide +kernel) (by decide +kernel)) (goodIn_sub (fun _ h => List.mem_cons_of_mem _ (List.mem_append_right _ h)) (by decide +kernel))
set_option maxRecDepth 20000 in
theorem gX0_worstLayer_X0_checkNotEmpty : GoodIn wsX0_worstLayer (wsV RX0 155 RX0 yX0_checkNotEmpty wsX0_checkNotEmpty) := goodIn_app (goodIn_of _ (by decide +kernel)) ggX0_worstLayer_X0_checkNotEmpty
set_option maxRecDepth 20000 in
theorem ggX0_worstLayer_X0_weighSamples : GoodIn wsX0_worstLayer wsX0_weighSamples := goodIn_r _ [12, 13, 14, 15, 16, 17, 18, 19, 20, 5, 21, 1, 22, 23, 24, 25, 26, 27, 28, 29, 30, 35, 36, 37, 38, 39, 40, 41, 42, 43, 44, 45, 46, 47, 48, 49] (by decide +kernel) (by decide +kernel)
set_option maxRecDepth 20000 in
theorem gX0_worstLayer_X0_weighSamples : GoodIn wsX0_worstLayer (wsV RX0 139 RX0 yX0_weighSamples wsX0_weighSamples) := goodIn_app (goodIn_of _ (by decide +kernel)) ggX0_worstLayer_X0_weighSamples
set_option maxRecDepth 20000 in
theorem ggX0_worstLayer_X0_greatest : GoodIn wsX0_worstLayer wsX0_greatest := goodIn_r _ [34, 22, 35, 36, 37, 38, 39, 40, 41, 42, 43, 44, 45, 46, 47, 48, 49] (by decide +kernel) (by decide +kernel)
set_option maxRecDepth 20000 in
theorem gX0_worstLayer_X0_greatest : GoodIn wsX0_worstLayer (wsV RX0 145 RX0 yX0_greatest wsX0_greatest) := goodIn_app (goodIn_of _ (by decide +kernel)) ggX0_worstLayer_X0_greatest
theorem dX0_worstLayer_0 : decode cX0_worstLayer 0 = .ok (.aload_n 0, 1) := by decide +kernel
theorem dX0_worstLayer_1 : decode cX0_worstLayer 1 = .ok (.invokevirtual 155, 3) := by decide +kernel
theorem dX0_worstLayer_4 : decode cX0_worstLayer 4 = .ok (.aload_n 0, 1) := by decide +kernel
theorem dX0_worstLayer_5 : decode cX0_worstLayer 5 = .ok (.invokevirtual 139, 3) := by decide +kernel
theorem dX0_worstLayer_8 : decode cX0_worstLayer 8 = .ok (.iconst 0, 1) := by decide +kernel
theorem dX0_worstLayer_9 : decode cX0_worstLayer 9 = .ok (.istore_n 1, 1) := by decide +kernel
theorem dX0_worstLayer_10 : decode cX0_worstLayer 10 = .ok (.iconst 1, 1) := by decide +kernel
theorem dX0_worstLayer_11 : decode cX0_worstLayer 11 = .ok (.istore_n 2, 1) := by decide +kernel
theorem dX0_worstLayer_12 : decode cX0_worstLayer 12 = .ok (.iload_n 2, 1) := by decide +kernel
theorem dX0_worstLayer_13 : decode cX0_worstLayer 13 = .ok (.aload_n 0, 1) := by decide +kernel
theorem dX0_worstLayer_14 : decode cX0_worstLayer 14 = .ok (.getfield 57, 3) := by decide +kernel
theorem dX0_worstLayer_17 : decode cX0_worstLayer 17 = .ok (.if_icmp .ge 26, 3) := by decide +kernel
theorem dX0_worstLayer_20 : decode cX0_worstLayer 20 = .ok (.aload_n 0, 1) := by decide +kernel
theorem dX0_worstLayer_21 : decode cX0_worstLayer 21 = .ok (.iload_n 2, 1) := by decide +kernel
theorem dX0_worstLayer_22 : decode cX0_worstLayer 22 = .ok (.iload_n 2, 1) := by decide +kernel
theorem dX0_worstLayer_23 : decode cX0_worstLayer 23 = .ok (.invokevirtual 145, 3) := by decide +kernel
theorem dX0_worstLayer_26 : decode cX0_worstLayer 26 = .ok (.aload_n 0, 1) := by decide +kernel
theorem dX0_worstLayer_27 : decode cX0_worstLayer 27 = .ok (.iload_n 1, 1) := by decide +kernel
theorem dX0_worstLayer_28 : decode cX0_worstLayer 28 = .ok (.iload_n 1, 1) := by decide +kernel
theorem dX0_worstLayer_29 : decode cX0_worstLayer 29 = .ok (.invokevirtual 145, 3) := by decide +kernel
theorem dX0_worstLayer_32 : decode cX0_worstLayer 32 = .ok (.if_icmp .le 5, 3) := by decide +kernel
theorem dX0_worstLayer_35 : decode cX0_worstLayer 35 = .ok (.iload_n 2, 1) := by decide +kernel
theorem dX0_worstLayer_36 : decode cX0_worstLayer 36 = .ok (.istore_n 1, 1) := by decide +kernel
theorem dX0_worstLayer_37 : decode cX0_worstLayer 37 = .ok (.iinc 2 1, 3) := by decide +kernel
theorem dX0_worstLayer_40 : decode cX0_worstLayer 40 = .ok (.goto (-28), 3) := by decide +kernel
theorem dX0_worstLayer_43 : decode cX0_worstLayer 43 = .ok (.iload_n 1, 1) := by decide +kernel
theorem dX0_worstLayer_44 : decode cX0_worstLayer 44 = .ok (.ireturn, 1) := by decide +kernel
set_option maxRecDepth 20000 in
theorem ggX0_doubt_X0_weighSamples : GoodIn wsX0_doubt wsX0_weighSamples := goodIn_r _ [5, 6, 7, 8, 9, 10, 11, 12, 13, 4, 14, 15, 16, 17, 18, 19, 20, 21, 22, 23, 24, 37, 38, 39, 40, 41, 42, 43, 44, 45, 46, 47, 48, 49, 50, 51] (by decide +kernel) (by decide +kernel)
set_option maxRecDepth 20000 in
theorem gX0_doubt_X0_weighSamples : GoodIn wsX0_doubt (wsV RX0 139 RX0 yX0_weighSamples wsX0_weighSamples) := goodIn_app (goodIn_of _ (by decide +kernel)) ggX0_doubt_X0_weighSamples
set_option maxRecDepth 20000 in
theorem ggX0_doubt_X0_doubtNow : GoodIn wsX0_doubt wsX0_doubtNow := goodIn_r _ [28, 15, 29, 30, 31, 4, 32, 16, 33, 34, 35, 36, 37, 38, 39, 40, 41, 42, 43, 44, 45, 46, 47, 48, 49, 50, 51] (by decide +kernel) (by decide +kernel)
set_option maxRecDepth 20000 in
theorem gX0_doubt_X0_doubtNow : GoodIn wsX0_doubt (wsV RX0 158 RX0 yX0_doubtNow wsX0_doubtNow) := goodIn_app (goodIn_of _ (by decide +kernel)) ggX0_doubt_X0_doubtNow
theorem dX0_doubt_0 : decode cX0_doubt 0 = .ok (.aload_n 0, 1) := by decide +kernel
theorem dX0_doubt_1 : decode cX0_doubt 1 = .ok (.invokevirtual 139, 3) := by decide +kernel
theorem dX0_doubt_4 : decode cX0_doubt 4 = .ok (.aload_n 0, 1) := by decide +kernel
theorem dX0_doubt_5 : decode cX0_doubt 5 = .ok (.invokevirtual 158, 3) := by decide +kernel
theorem dX0_doubt_8 : decode cX0_doubt 8 = .ok (.ireturn, 1) := by decide +kernel
set_option maxRecDepth 20000 in
theorem ggX0_leastSum_X0_checkLayers : GoodIn wsX0_leastSum wsX0_checkLayers := goodIn_ca (goodIn_r _ [5, 6, 7, 8, 35, 36, 37, 38, 39, 40, 41, 42, 43, 44, 45, 46, 47, 48, 49] (by decide +kernel) (by decide +kernel)) (goodIn_sub (fun _ h => List.mem_cons_of_mem _ (List.mem_append_right _ h)) (by decide +kernel))
set_option maxRecDepth 20000 in
theorem gX0_leastSum_X0_checkLayers : GoodIn wsX0_leastSum (wsV RX0 107 RX0 yX0_checkLayers wsX0_checkLayers) := goodIn_app (goodIn_of _ (by decide +kernel)) ggX0_leastSum_X0_checkLayers
set_option maxRecDepth 20000 in
theorem ggX0_leastSum_X0_weighSamples : GoodIn wsX0_leastSum wsX0_weighSamples := goodIn_r _ [12, 13, 14, 15, 16, 17, 18, 19, 20, 4, 21, 8, 22, 23, 24, 25, 26, 27, 28, 29, 30, 35, 36, 37, 38, 39, 40, 41, 42, 43, 44, 45, 46, 47, 48, 49] (by decide +kernel) (by decide +kernel)
set_option maxRecDepth 20000 in
theorem gX0_leastSum_X0_weighSamples : GoodIn wsX0_leastSum (wsV RX0 139 RX0 yX0_weighSamples wsX0_weighSamples) := goodIn_app (goodIn_of _ (by decide +kernel)) ggX0_leastSum_X0_weighSamples
set_option maxRecDepth 20000 in
theorem ggX0_leastSum_X0_least : GoodIn wsX0_leastSum wsX0_least := goodIn_r _ [34, 22, 35, 36, 37, 38, 39, 40, 41, 42, 43, 44, 45, 46, 47, 48, 49] (by decide +kernel) (by decide +kernel)
set_option maxRecDepth 20000 in
theorem gX0_leastSum_X0_least : GoodIn wsX0_leastSum (wsV RX0 142 RX0 yX0_least wsX0_least) := goodIn_app (goodIn_of _ (by decide +kernel)) ggX0_leastSum_X0_least
theorem dX0_leastSum_0 : decode cX0_leastSum 0 = .ok (.aload_n 0, 1) := by decide +kernel
theorem dX0_leastSum_1 : decode cX0_leastSum 1 = .ok (.iload_n 1, 1) := by decide +kernel
theorem dX0_leastSum_2 : decode cX0_leastSum 2 = .ok (.iload_n 2, 1) := by decide +kernel
theorem dX0_leastSum_3 : decode cX0_leastSum 3 = .ok (.invokevirtual 107, 3) := by decide +kernel
theorem dX0_leastSum_6 : decode cX0_leastSum 6 = .ok (.aload_n 0, 1) := by decide +kernel
theorem dX0_leastSum_7 : decode cX0_leastSum 7 = .ok (.invokevirtual 139, 3) := by decide +kernel
theorem dX0_leastSum_10 : decode cX0_leastSum 10 = .ok (.aload_n 0, 1) := by decide +kernel
theorem dX0_leastSum_11 : decode cX0_leastSum 11 = .ok (.iload_n 1, 1) := by decide +kernel
theorem dX0_leastSum_12 : decode cX0_leastSum 12 = .ok (.iload_n 2, 1) := by decide +kernel
theorem dX0_leastSum_13 : decode cX0_leastSum 13 = .ok (.invokevirtual 142, 3) := by decide +kernel
theorem dX0_leastSum_16 : decode cX0_leastSum 16 = .ok (.ireturn, 1) := by decide +kernel
set_option maxRecDepth 20000 in
theorem ggX0_greatestSum_X0_checkLayers : GoodIn wsX0_greatestSum wsX0_checkLayers := goodIn_ca (goodIn_r _ [5, 6, 7, 8, 35, 36, 37, 38, 39, 40, 41, 42, 43, 44, 45, 46, 47, 48, 49] (by decide +kernel) (by decide +kernel)) (goodIn_sub (fun _ h => List.mem_cons_of_mem _ (List.mem_append_right _ h)) (by decide +kernel))
set_option maxRecDepth 20000 in
theorem gX0_greatestSum_X0_checkLayers : GoodIn wsX0_greatestSum (wsV RX0 107 RX0 yX0_checkLayers wsX0_checkLayers) := goodIn_app (goodIn_of _ (by decide +kernel)) ggX0_greatestSum_X0_checkLayers
set_option maxRecDepth 20000 in
theorem ggX0_greatestSum_X0_weighSamples : GoodIn wsX0_greatestSum wsX0_weighSamples := goodIn_r _ [12, 13, 14, 15, 16, 17, 18, 19, 20, 4, 21, 8, 22, 23, 24, 25, 26, 27, 28, 29, 30, 35, 36, 37, 38, 39, 40, 41, 42, 43, 44, 45, 46, 47, 48, 49] (by decide +kernel) (by decide +kernel)
set_option maxRecDepth 20000 in
theorem gX0_greatestSum_X0_weighSamples : GoodIn wsX0_greatestSum (wsV RX0 139 RX0 yX0_weighSamples wsX0_weighSamples) := goodIn_app (goodIn_of _ (by decide +kernel)) ggX0_greatestSum_X0_weighSamples
set_option maxRecDepth 20000 in
theorem ggX0_greatestSum_X0_greatest : GoodIn wsX0_greatestSum wsX0_greatest := goodIn_r _ [34, 22, 35, 36, 37, 38, 39, 40, 41, 42, 43, 44, 45, 46, 47, 48, 49] (by decide +kernel) (by decide +kernel)
set_option maxRecDepth 20000 in
theorem gX0_greatestSum_X0_greatest : GoodIn wsX0_greatestSum (wsV RX0 145 RX0 yX0_greatest wsX0_greatest) := goodIn_app (goodIn_of _ (by decide +kernel)) ggX0_greatestSum_X0_greatest
theorem dX0_greatestSum_0 : decode cX0_greatestSum 0 = .ok (.aload_n 0, 1) := by decide +kernel
theorem dX0_greatestSum_1 : decode cX0_greatestSum 1 = .ok (.iload_n 1, 1) := by decide +kernel
theorem dX0_greatestSum_2 : decode cX0_greatestSum 2 = .ok (.iload_n 2, 1) := by decide +kernel
theorem dX0_greatestSum_3 : decode cX0_greatestSum 3 = .ok (.invokevirtual 107, 3) := by decide +kernel
theorem dX0_greatestSum_6 : decode cX0_greatestSum 6 = .ok (.aload_n 0, 1) := by decide +kernel
theorem dX0_greatestSum_7 : decode cX0_greatestSum 7 = .ok (.invokevirtual 139, 3) := by decide +kernel
theorem dX0_greatestSum_10 : decode cX0_greatestSum 10 = .ok (.aload_n 0, 1) := by decide +kernel
theorem dX0_greatestSum_11 : decode cX0_greatestSum 11 = .ok (.iload_n 1, 1) := by decide +kernel
theorem dX0_greatestSum_12 : decode cX0_greatestSum 12 = .ok (.iload_n 2, 1) := by decide +kernel
theorem dX0_greatestSum_13 : decode cX0_greatestSum 13 = .ok (.invokevirtual 145, 3) := by decide +kernel
theorem dX0_greatestSum_16 : decode cX0_greatestSum 16 = .ok (.ireturn, 1) := by decide +kernel
set_option maxRecDepth 20000 in
theorem ggX0_doubtBehind_X0_checkLayers : GoodIn wsX0_doubtBehind wsX0_checkLayers := goodIn_ca (goodIn_r _ [5, 6, 7, 8, 44, 45, 46, 47, 48, 49, 50, 51, 52, 53, 54, 55, 56, 57, 58] (by decide +kernel) (by decide +kernel)) (goodIn_sub (fun _ h => List.mem_cons_of_mem _ (List.mem_append_right _ h)) (by decide +kernel))
set_option maxRecDepth 20000 in
theorem gX0_doubtBehind_X0_checkLayers : GoodIn wsX0_doubtBehind (wsV RX0 107 RX0 yX0_checkLayers wsX0_checkLayers) := goodIn_app (goodIn_of _ (by decide +kernel)) ggX0_doubtBehind_X0_checkLayers
set_option maxRecDepth 20000 in
theorem ggX0_doubtBehind_X0_weighSamples : GoodIn wsX0_doubtBehind wsX0_weighSamples := goodIn_r _ [12, 13, 14, 15, 16, 17, 18, 19, 20, 4, 21, 8, 22, 23, 24, 25, 26, 27, 28, 29, 30, 44, 45, 46, 47, 48, 49, 50, 51, 52, 53, 54, 55, 56, 57, 58] (by decide +kernel) (by decide +kernel)
set_option maxRecDepth 20000 in
theorem gX0_doubtBehind_X0_weighSamples : GoodIn wsX0_doubtBehind (wsV RX0 139 RX0 yX0_weighSamples wsX0_weighSamples) := goodIn_app (goodIn_of _ (by decide +kernel)) ggX0_doubtBehind_X0_weighSamples
set_option maxRecDepth 20000 in
theorem ggX0_doubtBehind_X0_doubtIfDrawn : GoodIn wsX0_doubtBehind wsX0_doubtIfDrawn := goodIn_r _ [34, 8, 35, 36, 37, 4, 38, 39, 40, 41, 42, 43, 22, 27, 28, 29, 30, 44, 45, 46, 47, 48, 49, 50, 51, 52, 53, 54, 55, 56, 57, 58] (by decide +kernel) (by decide +kernel)
set_option maxRecDepth 20000 in
theorem gX0_doubtBehind_X0_doubtIfDrawn : GoodIn wsX0_doubtBehind (wsV RX0 161 RX0 yX0_doubtIfDrawn wsX0_doubtIfDrawn) := goodIn_app (goodIn_of _ (by decide +kernel)) ggX0_doubtBehind_X0_doubtIfDrawn
theorem dX0_doubtBehind_0 : decode cX0_doubtBehind 0 = .ok (.aload_n 0, 1) := by decide +kernel
theorem dX0_doubtBehind_1 : decode cX0_doubtBehind 1 = .ok (.iload_n 1, 1) := by decide +kernel
theorem dX0_doubtBehind_2 : decode cX0_doubtBehind 2 = .ok (.iload_n 2, 1) := by decide +kernel
theorem dX0_doubtBehind_3 : decode cX0_doubtBehind 3 = .ok (.invokevirtual 107, 3) := by decide +kernel
theorem dX0_doubtBehind_6 : decode cX0_doubtBehind 6 = .ok (.aload_n 0, 1) := by decide +kernel
theorem dX0_doubtBehind_7 : decode cX0_doubtBehind 7 = .ok (.invokevirtual 139, 3) := by decide +kernel
theorem dX0_doubtBehind_10 : decode cX0_doubtBehind 10 = .ok (.aload_n 0, 1) := by decide +kernel
theorem dX0_doubtBehind_11 : decode cX0_doubtBehind 11 = .ok (.iload_n 1, 1) := by decide +kernel
theorem dX0_doubtBehind_12 : decode cX0_doubtBehind 12 = .ok (.iload_n 2, 1) := by decide +kernel
theorem dX0_doubtBehind_13 : decode cX0_doubtBehind 13 = .ok (.invokevirtual 161, 3) := by decide +kernel
theorem dX0_doubtBehind_16 : decode cX0_doubtBehind 16 = .ok (.ireturn, 1) := by decide +kernel
set_option maxRecDepth 20000 in
theorem ggX0_bestToLookAt_X0_checkNotEmpty : GoodIn wsX0_bestToLookAt wsX0_checkNotEmpty := goodIn_ca (goodIn_r _ [6, 7, 8, 1, 44, 45, 46, 47, 48, 49, 50, 51, 52, 53, 54, 55, 56, 57, 58] (by decide +kernel) (by decide +kernel)) (goodIn_sub (fun _ h => List.mem_cons_of_mem _ (List.mem_append_right _ h)) (by decide +kernel))
set_option maxRecDepth 20000 in
theorem gX0_bestToLookAt_X0_checkNotEmpty : GoodIn wsX0_bestToLookAt (wsV RX0 155 RX0 yX0_checkNotEmpty wsX0_checkNotEmpty) := goodIn_app (goodIn_of _ (by decide +kernel)) ggX0_bestToLookAt_X0_checkNotEmpty
set_option maxRecDepth 20000 in
theorem ggX0_bestToLookAt_X0_weighSamples : GoodIn wsX0_bestToLookAt wsX0_weighSamples := goodIn_r _ [12, 13, 14, 15, 16, 17, 18, 19, 20, 5, 21, 1, 22, 23, 24, 25, 26, 27, 28, 29, 30, 44, 45, 46, 47, 48, 49, 50, 51, 52, 53, 54, 55, 56, 57, 58] (by decide +kernel) (by decide +kernel)
set_option maxRecDepth 20000 in
theorem gX0_bestToLookAt_X0_weighSamples : GoodIn wsX0_bestToLookAt (wsV RX0 139 RX0 yX0_weighSamples wsX0_weighSamples) := goodIn_app (goodIn_of _ (by decide +kernel)) ggX0_bestToLookAt_X0_weighSamples
set_option maxRecDepth 20000 in
theorem ggX0_bestToLookAt_X0_doubtIfDrawn : GoodIn wsX0_bestToLookAt wsX0_doubtIfDrawn := goodIn_r _ [34, 1, 35, 36, 37, 5, 38, 39, 40, 41, 42, 43, 22, 27, 28, 29, 30, 44, 45, 46, 47, 48, 49, 50, 51, 52, 53, 54, 55, 56, 57, 58] (by decide +kernel) (by decide +kernel)
set_option maxRecDepth 20000 in
theorem gX0_bestToLookAt_X0_doubtIfDrawn : GoodIn wsX0_bestToLookAt (wsV RX0 161 RX0 yX0_doubtIfDrawn wsX0_doubtIfDrawn) := goodIn_app (goodIn_of _ (by decide +kernel)) ggX0_bestToLookAt_X0_doubtIfDrawn
theorem dX0_bestToLookAt_0 : decode cX0_bestToLookAt 0 = .ok (.aload_n 0, 1) := by decide +kernel
theorem dX0_bestToLookAt_1 : decode cX0_bestToLookAt 1 = .ok (.invokevirtual 155, 3) := by decide +kernel
theorem dX0_bestToLookAt_4 : decode cX0_bestToLookAt 4 = .ok (.aload_n 0, 1) := by decide +kernel
theorem dX0_bestToLookAt_5 : decode cX0_bestToLookAt 5 = .ok (.invokevirtual 139, 3) := by decide +kernel
theorem dX0_bestToLookAt_8 : decode cX0_bestToLookAt 8 = .ok (.iconst 0, 1) := by decide +kernel
theorem dX0_bestToLookAt_9 : decode cX0_bestToLookAt 9 = .ok (.istore_n 1, 1) := by decide +kernel
theorem dX0_bestToLookAt_10 : decode cX0_bestToLookAt 10 = .ok (.aload_n 0, 1) := by decide +kernel
theorem dX0_bestToLookAt_11 : decode cX0_bestToLookAt 11 = .ok (.iconst 0, 1) := by decide +kernel
theorem dX0_bestToLookAt_12 : decode cX0_bestToLookAt 12 = .ok (.iconst 0, 1) := by decide +kernel
theorem dX0_bestToLookAt_13 : decode cX0_bestToLookAt 13 = .ok (.invokevirtual 161, 3) := by decide +kernel
theorem dX0_bestToLookAt_16 : decode cX0_bestToLookAt 16 = .ok (.istore_n 2, 1) := by decide +kernel
theorem dX0_bestToLookAt_17 : decode cX0_bestToLookAt 17 = .ok (.iconst 1, 1) := by decide +kernel
theorem dX0_bestToLookAt_18 : decode cX0_bestToLookAt 18 = .ok (.istore_n 3, 1) := by decide +kernel
theorem dX0_bestToLookAt_19 : decode cX0_bestToLookAt 19 = .ok (.iload_n 3, 1) := by decide +kernel
theorem dX0_bestToLookAt_20 : decode cX0_bestToLookAt 20 = .ok (.aload_n 0, 1) := by decide +kernel
theorem dX0_bestToLookAt_21 : decode cX0_bestToLookAt 21 = .ok (.getfield 57, 3) := by decide +kernel
theorem dX0_bestToLookAt_24 : decode cX0_bestToLookAt 24 = .ok (.if_icmp .ge 28, 3) := by decide +kernel
theorem dX0_bestToLookAt_27 : decode cX0_bestToLookAt 27 = .ok (.aload_n 0, 1) := by decide +kernel
theorem dX0_bestToLookAt_28 : decode cX0_bestToLookAt 28 = .ok (.iload_n 3, 1) := by decide +kernel
theorem dX0_bestToLookAt_29 : decode cX0_bestToLookAt 29 = .ok (.iload_n 3, 1) := by decide +kernel
theorem dX0_bestToLookAt_30 : decode cX0_bestToLookAt 30 = .ok (.invokevirtual 161, 3) := by decide +kernel
theorem dX0_bestToLookAt_33 : decode cX0_bestToLookAt 33 = .ok (.istore 4, 2) := by decide +kernel
theorem dX0_bestToLookAt_35 : decode cX0_bestToLookAt 35 = .ok (.iload 4, 2) := by decide +kernel
theorem dX0_bestToLookAt_37 : decode cX0_bestToLookAt 37 = .ok (.iload_n 2, 1) := by decide +kernel
theorem dX0_bestToLookAt_38 : decode cX0_bestToLookAt 38 = .ok (.if_icmp .ge 8, 3) := by decide +kernel
theorem dX0_bestToLookAt_41 : decode cX0_bestToLookAt 41 = .ok (.iload 4, 2) := by decide +kernel
theorem dX0_bestToLookAt_43 : decode cX0_bestToLookAt 43 = .ok (.istore_n 2, 1) := by decide +kernel
theorem dX0_bestToLookAt_44 : decode cX0_bestToLookAt 44 = .ok (.iload_n 3, 1) := by decide +kernel
theorem dX0_bestToLookAt_45 : decode cX0_bestToLookAt 45 = .ok (.istore_n 1, 1) := by decide +kernel
theorem dX0_bestToLookAt_46 : decode cX0_bestToLookAt 46 = .ok (.iinc 3 1, 3) := by decide +kernel
theorem dX0_bestToLookAt_49 : decode cX0_bestToLookAt 49 = .ok (.goto (-30), 3) := by decide +kernel
theorem dX0_bestToLookAt_52 : decode cX0_bestToLookAt 52 = .ok (.iload_n 1, 1) := by decide +kernel
theorem dX0_bestToLookAt_53 : decode cX0_bestToLookAt 53 = .ok (.ireturn, 1) := by decide +kernel
set_option maxRecDepth 20000 in
theorem ggX0_dampnessIn_X0_checkLayer : GoodIn wsX0_dampnessIn wsX0_checkLayer := goodIn_ca (goodIn_r _ [6, 7, 8, 9, 37, 38, 39, 40, 41, 42, 43, 44, 45, 46, 47, 48, 49, 50, 51] (by decide +kernel) (by decide +kernel)) (goodIn_sub (fun _ h => List.mem_cons_of_mem _ (List.mem_append_left _ (List.mem_append_right _ h))) (by decide +kernel))
set_option maxRecDepth 20000 in
theorem gX0_dampnessIn_X0_checkLayer : GoodIn wsX0_dampnessIn (wsV RX0 128 RX0 yX0_checkLayer wsX0_checkLayer) := goodIn_app (goodIn_of _ (by decide +kernel)) ggX0_dampnessIn_X0_checkLayer
set_option maxRecDepth 20000 in
theorem ggX0_dampnessIn_X0_checkDays : GoodIn wsX0_dampnessIn wsX0_checkDays := goodIn_ca (goodIn_r _ [12, 13, 14] (by decide +kernel) (by decide +kernel)) (goodIn_sub (fun _ h => List.mem_cons_of_mem _ (List.mem_append_right _ h)) (by decide +kernel))
set_option maxRecDepth 20000 in
theorem gX0_dampnessIn_X0_checkDays : GoodIn wsX0_dampnessIn (va_wsS RX0 94 yX0_checkDays wsX0_checkDays) := goodIn_app (goodIn_of _ (by decide +kernel)) ggX0_dampnessIn_X0_checkDays
set_option maxRecDepth 20000 in
theorem ggX0_dampnessIn_X0_copyDampnessAhead : GoodIn wsX0_dampnessIn wsX0_copyDampnessAhead := goodIn_r _ [18, 9, 1, 19, 37, 38, 39, 40, 41, 42, 43, 44, 45, 46, 47, 48, 49, 50, 51] (by decide +kernel) (by decide +kernel)
set_option maxRecDepth 20000 in
theorem gX0_dampnessIn_X0_copyDampnessAhead : GoodIn wsX0_dampnessIn (wsV RX0 164 RX0 yX0_copyDampnessAhead wsX0_copyDampnessAhead) := goodIn_app (goodIn_of _ (by decide +kernel)) ggX0_dampnessIn_X0_copyDampnessAhead
set_option maxRecDepth 20000 in
theorem ggX0_dampnessIn_X0_letDaysGoBy : GoodIn wsX0_dampnessIn wsX0_letDaysGoBy := goodIn_r _ [23, 24, 25, 26, 5, 27, 9, 28, 29, 30, 31, 32, 33, 34, 35, 36, 37, 38, 39, 40, 41, 42, 43, 44, 45, 46, 47, 48, 49, 50, 51] (by decide +kernel) (by decide +kernel)
set_option maxRecDepth 20000 in
theorem gX0_dampnessIn_X0_letDaysGoBy : GoodIn wsX0_dampnessIn (wsV RX0 97 RX0 yX0_letDaysGoBy wsX0_letDaysGoBy) := goodIn_app (goodIn_of _ (by decide +kernel)) ggX0_dampnessIn_X0_letDaysGoBy
theorem dX0_dampnessIn_0 : decode cX0_dampnessIn 0 = .ok (.aload_n 0, 1) := by decide +kernel
theorem dX0_dampnessIn_1 : decode cX0_dampnessIn 1 = .ok (.iload_n 1, 1) := by decide +kernel
theorem dX0_dampnessIn_2 : decode cX0_dampnessIn 2 = .ok (.invokevirtual 128, 3) := by decide +kernel
theorem dX0_dampnessIn_5 : decode cX0_dampnessIn 5 = .ok (.iload_n 2, 1) := by decide +kernel
theorem dX0_dampnessIn_6 : decode cX0_dampnessIn 6 = .ok (.invokestatic 94, 3) := by decide +kernel
theorem dX0_dampnessIn_9 : decode cX0_dampnessIn 9 = .ok (.aload_n 0, 1) := by decide +kernel
theorem dX0_dampnessIn_10 : decode cX0_dampnessIn 10 = .ok (.invokevirtual 164, 3) := by decide +kernel
theorem dX0_dampnessIn_13 : decode cX0_dampnessIn 13 = .ok (.aload_n 0, 1) := by decide +kernel
theorem dX0_dampnessIn_14 : decode cX0_dampnessIn 14 = .ok (.aload_n 0, 1) := by decide +kernel
theorem dX0_dampnessIn_15 : decode cX0_dampnessIn 15 = .ok (.getfield 31, 3) := by decide +kernel
theorem dX0_dampnessIn_18 : decode cX0_dampnessIn 18 = .ok (.iload_n 2, 1) := by decide +kernel
theorem dX0_dampnessIn_19 : decode cX0_dampnessIn 19 = .ok (.invokevirtual 97, 3) := by decide +kernel
theorem dX0_dampnessIn_22 : decode cX0_dampnessIn 22 = .ok (.pop, 1) := by decide +kernel
theorem dX0_dampnessIn_23 : decode cX0_dampnessIn 23 = .ok (.aload_n 0, 1) := by decide +kernel
theorem dX0_dampnessIn_24 : decode cX0_dampnessIn 24 = .ok (.getfield 31, 3) := by decide +kernel
theorem dX0_dampnessIn_27 : decode cX0_dampnessIn 27 = .ok (.iload_n 1, 1) := by decide +kernel
theorem dX0_dampnessIn_28 : decode cX0_dampnessIn 28 = .ok (.iaload, 1) := by decide +kernel
theorem dX0_dampnessIn_29 : decode cX0_dampnessIn 29 = .ok (.ireturn, 1) := by decide +kernel
set_option maxRecDepth 20000 in
theorem ggX0_daysUntilEven_X0_copyDampnessAhead : GoodIn wsX0_daysUntilEven wsX0_copyDampnessAhead := goodIn_r _ [6, 7, 1, 8, 22, 23, 24, 25, 26, 27, 28, 29, 30, 31, 32, 33, 34, 35, 36] (by decide +kernel) (by decide +kernel)
set_option maxRecDepth 20000 in
theorem gX0_daysUntilEven_X0_copyDampnessAhead : GoodIn wsX0_daysUntilEven (wsV RX0 164 RX0 yX0_copyDampnessAhead wsX0_copyDampnessAhead) := goodIn_app (goodIn_of _ (by decide +kernel)) ggX0_daysUntilEven_X0_copyDampnessAhead
set_option maxRecDepth 20000 in
theorem ggX0_daysUntilEven_X0_letDayGoBy : GoodIn wsX0_daysUntilEven wsX0_letDayGoBy := goodIn_r _ [12, 7, 13, 14, 15, 16, 5, 17, 18, 19, 20, 21, 22, 23, 24, 25, 26, 27, 28, 29, 30, 31, 32, 33, 34, 35, 36] (by decide +kernel) (by decide +kernel)
set_option maxRecDepth 20000 in
theorem gX0_daysUntilEven_X0_letDayGoBy : GoodIn wsX0_daysUntilEven (wsV RX0 167 RX0 yX0_letDayGoBy wsX0_letDayGoBy) := goodIn_app (goodIn_of _ (by decide +kernel)) ggX0_daysUntilEven_X0_letDayGoBy
theorem dX0_daysUntilEven_0 : decode cX0_daysUntilEven 0 = .ok (.aload_n 0, 1) := by decide +kernel
theorem dX0_daysUntilEven_1 : decode cX0_daysUntilEven 1 = .ok (.invokevirtual 164, 3) := by decide +kernel
theorem dX0_daysUntilEven_4 : decode cX0_daysUntilEven 4 = .ok (.iconst 0, 1) := by decide +kernel
theorem dX0_daysUntilEven_5 : decode cX0_daysUntilEven 5 = .ok (.istore_n 1, 1) := by decide +kernel
theorem dX0_daysUntilEven_6 : decode cX0_daysUntilEven 6 = .ok (.iload_n 1, 1) := by decide +kernel
theorem dX0_daysUntilEven_7 : decode cX0_daysUntilEven 7 = .ok (.sipush 200, 3) := by decide +kernel
theorem dX0_daysUntilEven_10 : decode cX0_daysUntilEven 10 = .ok (.if_icmp .gt 22, 3) := by decide +kernel
theorem dX0_daysUntilEven_13 : decode cX0_daysUntilEven 13 = .ok (.aload_n 0, 1) := by decide +kernel
theorem dX0_daysUntilEven_14 : decode cX0_daysUntilEven 14 = .ok (.aload_n 0, 1) := by decide +kernel
theorem dX0_daysUntilEven_15 : decode cX0_daysUntilEven 15 = .ok (.getfield 31, 3) := by decide +kernel
theorem dX0_daysUntilEven_18 : decode cX0_daysUntilEven 18 = .ok (.invokevirtual 167, 3) := by decide +kernel
theorem dX0_daysUntilEven_21 : decode cX0_daysUntilEven 21 = .ok (.ifCond .ne 5, 3) := by decide +kernel
theorem dX0_daysUntilEven_24 : decode cX0_daysUntilEven 24 = .ok (.iload_n 1, 1) := by decide +kernel
theorem dX0_daysUntilEven_25 : decode cX0_daysUntilEven 25 = .ok (.ireturn, 1) := by decide +kernel
theorem dX0_daysUntilEven_26 : decode cX0_daysUntilEven 26 = .ok (.iinc 1 1, 3) := by decide +kernel
theorem dX0_daysUntilEven_29 : decode cX0_daysUntilEven 29 = .ok (.goto (-23), 3) := by decide +kernel
theorem dX0_daysUntilEven_32 : decode cX0_daysUntilEven 32 = .ok (.iconst (-1), 1) := by decide +kernel
theorem dX0_daysUntilEven_33 : decode cX0_daysUntilEven 33 = .ok (.ireturn, 1) := by decide +kernel
set_option maxRecDepth 20000 in
theorem ggX0_meanDampness_X0_sumNow : GoodIn wsX0_meanDampness wsX0_sumNow := goodIn_r _ [6, 7, 8, 9, 10, 11, 12, 13, 14, 15, 16, 17, 18, 19, 20, 21, 22] (by decide +kernel) (by decide +kernel)
set_option maxRecDepth 20000 in
theorem gX0_meanDampness_X0_sumNow : GoodIn wsX0_meanDampness (wsV RX0 113 RX0 yX0_sumNow wsX0_sumNow) := goodIn_app (goodIn_of _ (by decide +kernel)) ggX0_meanDampness_X0_sumNow
theorem dX0_meanDampness_0 : decode cX0_meanDampness 0 = .ok (.aload_n 0, 1) := by decide +kernel
theorem dX0_meanDampness_1 : decode cX0_meanDampness 1 = .ok (.getfield 57, 3) := by decide +kernel
theorem dX0_meanDampness_4 : decode cX0_meanDampness 4 = .ok (.ifCond .ne 5, 3) := by decide +kernel
theorem dX0_meanDampness_7 : decode cX0_meanDampness 7 = .ok (.dconst 0, 1) := by decide +kernel
theorem dX0_meanDampness_8 : decode cX0_meanDampness 8 = .ok (.dreturn, 1) := by decide +kernel
theorem dX0_meanDampness_9 : decode cX0_meanDampness 9 = .ok (.aload_n 0, 1) := by decide +kernel
theorem dX0_meanDampness_10 : decode cX0_meanDampness 10 = .ok (.iconst 0, 1) := by decide +kernel
theorem dX0_meanDampness_11 : decode cX0_meanDampness 11 = .ok (.aload_n 0, 1) := by decide +kernel
theorem dX0_meanDampness_12 : decode cX0_meanDampness 12 = .ok (.getfield 57, 3) := by decide +kernel
theorem dX0_meanDampness_15 : decode cX0_meanDampness 15 = .ok (.iconst 1, 1) := by decide +kernel
theorem dX0_meanDampness_16 : decode cX0_meanDampness 16 = .ok (.isub, 1) := by decide +kernel
theorem dX0_meanDampness_17 : decode cX0_meanDampness 17 = .ok (.invokevirtual 113, 3) := by decide +kernel
theorem dX0_meanDampness_20 : decode cX0_meanDampness 20 = .ok (.i2d, 1) := by decide +kernel
theorem dX0_meanDampness_21 : decode cX0_meanDampness 21 = .ok (.aload_n 0, 1) := by decide +kernel
theorem dX0_meanDampness_22 : decode cX0_meanDampness 22 = .ok (.getfield 57, 3) := by decide +kernel
theorem dX0_meanDampness_25 : decode cX0_meanDampness 25 = .ok (.i2d, 1) := by decide +kernel
theorem dX0_meanDampness_26 : decode cX0_meanDampness 26 = .ok (.ddiv, 1) := by decide +kernel
theorem dX0_meanDampness_27 : decode cX0_meanDampness 27 = .ok (.dreturn, 1) := by decide +kernel
set_option maxRecDepth 20000 in
theorem ggX0_digest_X0_weighSamples : GoodIn wsX0_digest wsX0_weighSamples := goodIn_r _ [12, 3, 13, 14, 15, 16, 17, 18, 19, 11, 20, 2, 21, 22, 23, 24, 25, 26, 27, 28, 29, 68, 69, 70, 71, 72, 73, 74, 75, 76, 77, 78, 79, 80, 81, 82] (by decide +kernel) (by decide +kernel)
set_option maxRecDepth 20000 in
theorem gX0_digest_X0_weighSamples : GoodIn wsX0_digest (wsV RX0 139 RX0 yX0_weighSamples wsX0_weighSamples) := goodIn_app (goodIn_of _ (by decide +kernel)) ggX0_digest_X0_weighSamples
set_option maxRecDepth 20000 in
theorem ggX0_digest_X0_digestOf : GoodIn wsX0_digest wsX0_digestOf := goodIn_r _ [32, 33] (by decide +kernel) (by decide +kernel)
set_option maxRecDepth 20000 in
theorem gX0_digest_X0_digestOf : GoodIn wsX0_digest (va_wsS RX0 173 yX0_digestOf wsX0_digestOf) := goodIn_app (goodIn_of _ (by decide +kernel)) ggX0_digest_X0_digestOf
set_option maxRecDepth 20000 in
theorem ggX0_digest_X0_doubtNow : GoodIn wsX0_digest wsX0_doubtNow := goodIn_r _ [37, 2, 38, 39, 40, 11, 41, 21, 42, 43, 44, 45, 68, 69, 70, 71, 72, 73, 74, 75, 76, 77, 78, 79, 80, 81, 82] (by decide +kernel) (by decide +kernel)
set_option maxRecDepth 20000 in
theorem gX0_digest_X0_doubtNow : GoodIn wsX0_digest (wsV RX0 158 RX0 yX0_doubtNow wsX0_doubtNow) := goodIn_app (goodIn_of _ (by decide +kernel)) ggX0_digest_X0_doubtNow
set_option maxRecDepth 20000 in
theorem ggX0_digest_X0_countSurelyDry : GoodIn wsX0_digest wsX0_countSurelyDry := goodIn_r _ [49, 2, 38, 39, 40, 11, 41, 21, 50, 51, 52, 53, 5, 68, 69, 70, 71, 72, 73, 74, 75, 76, 77, 78, 79, 80, 81, 82] (by decide +kernel) (by decide +kernel)
set_option maxRecDepth 20000 in
theorem gX0_digest_X0_countSurelyDry : GoodIn wsX0_digest (wsV RX0 148 RX0 yX0_countSurelyDry wsX0_countSurelyDry) := goodIn_app (goodIn_of _ (by decide +kernel)) ggX0_digest_X0_countSurelyDry
set_option maxRecDepth 20000 in
theorem ggX0_digest_X0_countSurelyDamp : GoodIn wsX0_digest wsX0_countSurelyDamp := goodIn_r _ [57, 2, 42, 43, 44, 11, 45, 21, 50, 51, 52, 53, 5, 68, 69, 70, 71, 72, 73, 74, 75, 76, 77, 78, 79, 80, 81, 82] (by decide +kernel) (by decide +kernel)
set_option maxRecDepth 20000 in
theorem gX0_digest_X0_countSurelyDamp : GoodIn wsX0_digest (wsV RX0 152 RX0 yX0_countSurelyDamp wsX0_countSurelyDamp) := goodIn_app (goodIn_of _ (by decide +kernel)) ggX0_digest_X0_countSurelyDamp
set_option maxRecDepth 20000 in
theorem ggX0_digest_X0_digestOfLayers : GoodIn wsX0_digest wsX0_digestOfLayers := goodIn_r _ [61, 2, 62, 63, 30, 31, 11, 32, 33, 42, 43, 44, 45, 21, 38, 39, 40, 41, 68, 69, 70, 71, 72, 73, 74, 75, 76, 77, 78, 79, 80, 81, 82] (by decide +kernel) (by decide +kernel)
set_option maxRecDepth 20000 in
theorem gX0_digest_X0_digestOfLayers : GoodIn wsX0_digest (wsV RX0 177 RX0 yX0_digestOfLayers wsX0_digestOfLayers) := goodIn_app (goodIn_of _ (by decide +kernel)) ggX0_digest_X0_digestOfLayers
set_option maxRecDepth 20000 in
theorem ggX0_digest_X0_digestOfSamples : GoodIn wsX0_digest wsX0_digestOfSamples := goodIn_r _ [67, 3, 13, 14, 15, 16, 30, 31, 11, 32, 33, 68, 69, 70, 71, 72, 73, 74, 75, 76, 77, 78, 79, 80, 81, 82] (by decide +kernel) (by decide +kernel)
set_option maxRecDepth 20000 in
theorem gX0_digest_X0_digestOfSamples : GoodIn wsX0_digest (wsV RX0 181 RX0 yX0_digestOfSamples wsX0_digestOfSamples) := goodIn_app (goodIn_of _ (by decide +kernel)) ggX0_digest_X0_digestOfSamples
theorem dX0_digest_0 : decode cX0_digest 0 = .ok (.aload_n 0, 1) := by decide +kernel
theorem dX0_digest_1 : decode cX0_digest 1 = .ok (.invokevirtual 139, 3) := by decide +kernel
theorem dX0_digest_4 : decode cX0_digest 4 = .ok (.ldc2_w 171, 3) := by decide +kernel
theorem dX0_digest_7 : decode cX0_digest 7 = .ok (.lstore_n 1, 1) := by decide +kernel
theorem dX0_digest_8 : decode cX0_digest 8 = .ok (.lload_n 1, 1) := by decide +kernel
theorem dX0_digest_9 : decode cX0_digest 9 = .ok (.aload_n 0, 1) := by decide +kernel
theorem dX0_digest_10 : decode cX0_digest 10 = .ok (.getfield 57, 3) := by decide +kernel
theorem dX0_digest_13 : decode cX0_digest 13 = .ok (.i2l, 1) := by decide +kernel
theorem dX0_digest_14 : decode cX0_digest 14 = .ok (.invokestatic 173, 3) := by decide +kernel
theorem dX0_digest_17 : decode cX0_digest 17 = .ok (.lstore_n 1, 1) := by decide +kernel
theorem dX0_digest_18 : decode cX0_digest 18 = .ok (.lload_n 1, 1) := by decide +kernel
theorem dX0_digest_19 : decode cX0_digest 19 = .ok (.aload_n 0, 1) := by decide +kernel
theorem dX0_digest_20 : decode cX0_digest 20 = .ok (.getfield 86, 3) := by decide +kernel
theorem dX0_digest_23 : decode cX0_digest 23 = .ok (.i2l, 1) := by decide +kernel
theorem dX0_digest_24 : decode cX0_digest 24 = .ok (.invokestatic 173, 3) := by decide +kernel
theorem dX0_digest_27 : decode cX0_digest 27 = .ok (.lstore_n 1, 1) := by decide +kernel
theorem dX0_digest_28 : decode cX0_digest 28 = .ok (.lload_n 1, 1) := by decide +kernel
theorem dX0_digest_29 : decode cX0_digest 29 = .ok (.aload_n 0, 1) := by decide +kernel
theorem dX0_digest_30 : decode cX0_digest 30 = .ok (.getfield 104, 3) := by decide +kernel
theorem dX0_digest_33 : decode cX0_digest 33 = .ok (.i2l, 1) := by decide +kernel
theorem dX0_digest_34 : decode cX0_digest 34 = .ok (.invokestatic 173, 3) := by decide +kernel
theorem dX0_digest_37 : decode cX0_digest 37 = .ok (.lstore_n 1, 1) := by decide +kernel
theorem dX0_digest_38 : decode cX0_digest 38 = .ok (.lload_n 1, 1) := by decide +kernel
theorem dX0_digest_39 : decode cX0_digest 39 = .ok (.aload_n 0, 1) := by decide +kernel
theorem dX0_digest_40 : decode cX0_digest 40 = .ok (.getfield 39, 3) := by decide +kernel
theorem dX0_digest_43 : decode cX0_digest 43 = .ok (.i2l, 1) := by decide +kernel
theorem dX0_digest_44 : decode cX0_digest 44 = .ok (.invokestatic 173, 3) := by decide +kernel
theorem dX0_digest_47 : decode cX0_digest 47 = .ok (.lstore_n 1, 1) := by decide +kernel
theorem dX0_digest_48 : decode cX0_digest 48 = .ok (.lload_n 1, 1) := by decide +kernel
theorem dX0_digest_49 : decode cX0_digest 49 = .ok (.aload_n 0, 1) := by decide +kernel
theorem dX0_digest_50 : decode cX0_digest 50 = .ok (.getfield 122, 3) := by decide +kernel
theorem dX0_digest_53 : decode cX0_digest 53 = .ok (.i2l, 1) := by decide +kernel
theorem dX0_digest_54 : decode cX0_digest 54 = .ok (.invokestatic 173, 3) := by decide +kernel
theorem dX0_digest_57 : decode cX0_digest 57 = .ok (.lstore_n 1, 1) := by decide +kernel
theorem dX0_digest_58 : decode cX0_digest 58 = .ok (.lload_n 1, 1) := by decide +kernel
theorem dX0_digest_59 : decode cX0_digest 59 = .ok (.aload_n 0, 1) := by decide +kernel
theorem dX0_digest_60 : decode cX0_digest 60 = .ok (.getfield 125, 3) := by decide +kernel
theorem dX0_digest_63 : decode cX0_digest 63 = .ok (.i2l, 1) := by decide +kernel
theorem dX0_digest_64 : decode cX0_digest 64 = .ok (.invokestatic 173, 3) := by decide +kernel
theorem dX0_digest_67 : decode cX0_digest 67 = .ok (.lstore_n 1, 1) := by decide +kernel
theorem dX0_digest_68 : decode cX0_digest 68 = .ok (.lload_n 1, 1) := by decide +kernel
theorem dX0_digest_69 : decode cX0_digest 69 = .ok (.aload_n 0, 1) := by decide +kernel
theorem dX0_digest_70 : decode cX0_digest 70 = .ok (.invokevirtual 158, 3) := by decide +kernel
theorem dX0_digest_73 : decode cX0_digest 73 = .ok (.i2l, 1) := by decide +kernel
theorem dX0_digest_74 : decode cX0_digest 74 = .ok (.invokestatic 173, 3) := by decide +kernel
theorem dX0_digest_77 : decode cX0_digest 77 = .ok (.lstore_n 1, 1) := by decide +kernel
theorem dX0_digest_78 : decode cX0_digest 78 = .ok (.lload_n 1, 1) := by decide +kernel
theorem dX0_digest_79 : decode cX0_digest 79 = .ok (.aload_n 0, 1) := by decide +kernel
theorem dX0_digest_80 : decode cX0_digest 80 = .ok (.invokevirtual 148, 3) := by decide +kernel
theorem dX0_digest_83 : decode cX0_digest 83 = .ok (.i2l, 1) := by decide +kernel
theorem dX0_digest_84 : decode cX0_digest 84 = .ok (.invokestatic 173, 3) := by decide +kernel
theorem dX0_digest_87 : decode cX0_digest 87 = .ok (.lstore_n 1, 1) := by decide +kernel
theorem dX0_digest_88 : decode cX0_digest 88 = .ok (.lload_n 1, 1) := by decide +kernel
theorem dX0_digest_89 : decode cX0_digest 89 = .ok (.aload_n 0, 1) := by decide +kernel
theorem dX0_digest_90 : decode cX0_digest 90 = .ok (.invokevirtual 152, 3) := by decide +kernel
theorem dX0_digest_93 : decode cX0_digest 93 = .ok (.i2l, 1) := by decide +kernel
theorem dX0_digest_94 : decode cX0_digest 94 = .ok (.invokestatic 173, 3) := by decide +kernel
theorem dX0_digest_97 : decode cX0_digest 97 = .ok (.lstore_n 1, 1) := by decide +kernel
theorem dX0_digest_98 : decode cX0_digest 98 = .ok (.aload_n 0, 1) := by decide +kernel
theorem dX0_digest_99 : decode cX0_digest 99 = .ok (.lload_n 1, 1) := by decide +kernel
theorem dX0_digest_100 : decode cX0_digest 100 = .ok (.invokevirtual 177, 3) := by decide +kernel
theorem dX0_digest_103 : decode cX0_digest 103 = .ok (.lstore_n 1, 1) := by decide +kernel
theorem dX0_digest_104 : decode cX0_digest 104 = .ok (.aload_n 0, 1) := by decide +kernel
theorem dX0_digest_105 : decode cX0_digest 105 = .ok (.lload_n 1, 1) := by decide +kernel
theorem dX0_digest_106 : decode cX0_digest 106 = .ok (.invokevirtual 181, 3) := by decide +kernel
theorem dX0_digest_109 : decode cX0_digest 109 = .ok (.lreturn, 1) := by decide +kernel
theorem dX0_isKind_0 : decode cX0_isKind 0 = .ok (.iload_n 0, 1) := by decide +kernel
theorem dX0_isKind_1 : decode cX0_isKind 1 = .ok (.ifCond .lt 12, 3) := by decide +kernel
theorem dX0_isKind_4 : decode cX0_isKind 4 = .ok (.iload_n 0, 1) := by decide +kernel
theorem dX0_isKind_5 : decode cX0_isKind 5 = .ok (.iconst 4, 1) := by decide +kernel
theorem dX0_isKind_6 : decode cX0_isKind 6 = .ok (.if_icmp .gt 7, 3) := by decide +kernel
theorem dX0_isKind_9 : decode cX0_isKind 9 = .ok (.iconst 1, 1) := by decide +kernel
theorem dX0_isKind_10 : decode cX0_isKind 10 = .ok (.goto 4, 3) := by decide +kernel
theorem dX0_isKind_13 : decode cX0_isKind 13 = .ok (.iconst 0, 1) := by decide +kernel
theorem dX0_isKind_14 : decode cX0_isKind 14 = .ok (.ireturn, 1) := by decide +kernel
theorem dX0_isDampness_0 : decode cX0_isDampness 0 = .ok (.iload_n 0, 1) := by decide +kernel
theorem dX0_isDampness_1 : decode cX0_isDampness 1 = .ok (.ifCond .lt 13, 3) := by decide +kernel
theorem dX0_isDampness_4 : decode cX0_isDampness 4 = .ok (.iload_n 0, 1) := by decide +kernel
theorem dX0_isDampness_5 : decode cX0_isDampness 5 = .ok (.bipush 40, 2) := by decide +kernel
theorem dX0_isDampness_7 : decode cX0_isDampness 7 = .ok (.if_icmp .gt 7, 3) := by decide +kernel
theorem dX0_isDampness_10 : decode cX0_isDampness 10 = .ok (.iconst 1, 1) := by decide +kernel
theorem dX0_isDampness_11 : decode cX0_isDampness 11 = .ok (.goto 4, 3) := by decide +kernel
theorem dX0_isDampness_14 : decode cX0_isDampness 14 = .ok (.iconst 0, 1) := by decide +kernel
theorem dX0_isDampness_15 : decode cX0_isDampness 15 = .ok (.ireturn, 1) := by decide +kernel
theorem dX0_checkDays_0 : decode cX0_checkDays 0 = .ok (.iload_n 0, 1) := by decide +kernel
theorem dX0_checkDays_1 : decode cX0_checkDays 1 = .ok (.iconst 1, 1) := by decide +kernel
theorem dX0_checkDays_2 : decode cX0_checkDays 2 = .ok (.if_icmp .lt 9, 3) := by decide +kernel
theorem dX0_checkDays_5 : decode cX0_checkDays 5 = .ok (.iload_n 0, 1) := by decide +kernel
theorem dX0_checkDays_6 : decode cX0_checkDays 6 = .ok (.bipush 50, 2) := by decide +kernel
theorem dX0_checkDays_8 : decode cX0_checkDays 8 = .ok (.if_icmp .le 13, 3) := by decide +kernel
theorem dX0_checkDays_11 : decode cX0_checkDays 11 = .ok (.new 50, 3) := by decide +kernel
theorem dX0_checkDays_14 : decode cX0_checkDays 14 = .ok (.dup, 1) := by decide +kernel
theorem dX0_checkDays_15 : decode cX0_checkDays 15 = .ok (.ldc 184, 2) := by decide +kernel
theorem dX0_checkDays_17 : decode cX0_checkDays 17 = .ok (.invokespecial 54, 3) := by decide +kernel
theorem dX0_checkDays_20 : decode cX0_checkDays 20 = .ok (.athrow, 1) := by decide +kernel
theorem dX0_checkDays_21 : decode cX0_checkDays 21 = .ok (.return_, 1) := by decide +kernel
theorem dX0_checkLayer_0 : decode cX0_checkLayer 0 = .ok (.iload_n 1, 1) := by decide +kernel
theorem dX0_checkLayer_1 : decode cX0_checkLayer 1 = .ok (.ifCond .lt 11, 3) := by decide +kernel
theorem dX0_checkLayer_4 : decode cX0_checkLayer 4 = .ok (.iload_n 1, 1) := by decide +kernel
theorem dX0_checkLayer_5 : decode cX0_checkLayer 5 = .ok (.aload_n 0, 1) := by decide +kernel
theorem dX0_checkLayer_6 : decode cX0_checkLayer 6 = .ok (.getfield 57, 3) := by decide +kernel
theorem dX0_checkLayer_9 : decode cX0_checkLayer 9 = .ok (.if_icmp .lt 13, 3) := by decide +kernel
theorem dX0_checkLayer_12 : decode cX0_checkLayer 12 = .ok (.new 134, 3) := by decide +kernel
theorem dX0_checkLayer_15 : decode cX0_checkLayer 15 = .ok (.dup, 1) := by decide +kernel
theorem dX0_checkLayer_16 : decode cX0_checkLayer 16 = .ok (.ldc 186, 2) := by decide +kernel
theorem dX0_checkLayer_18 : decode cX0_checkLayer 18 = .ok (.invokespecial 138, 3) := by decide +kernel
theorem dX0_checkLayer_21 : decode cX0_checkLayer 21 = .ok (.athrow, 1) := by decide +kernel
theorem dX0_checkLayer_22 : decode cX0_checkLayer 22 = .ok (.return_, 1) := by decide +kernel
theorem dX0_checkLayers_0 : decode cX0_checkLayers 0 = .ok (.iload_n 1, 1) := by decide +kernel
theorem dX0_checkLayers_1 : decode cX0_checkLayers 1 = .ok (.ifCond .lt 16, 3) := by decide +kernel
theorem dX0_checkLayers_4 : decode cX0_checkLayers 4 = .ok (.iload_n 2, 1) := by decide +kernel
theorem dX0_checkLayers_5 : decode cX0_checkLayers 5 = .ok (.aload_n 0, 1) := by decide +kernel
theorem dX0_checkLayers_6 : decode cX0_checkLayers 6 = .ok (.getfield 57, 3) := by decide +kernel
theorem dX0_checkLayers_9 : decode cX0_checkLayers 9 = .ok (.if_icmp .ge 8, 3) := by decide +kernel
theorem dX0_checkLayers_12 : decode cX0_checkLayers 12 = .ok (.iload_n 1, 1) := by decide +kernel
theorem dX0_checkLayers_13 : decode cX0_checkLayers 13 = .ok (.iload_n 2, 1) := by decide +kernel
theorem dX0_checkLayers_14 : decode cX0_checkLayers 14 = .ok (.if_icmp .le 13, 3) := by decide +kernel
theorem dX0_checkLayers_17 : decode cX0_checkLayers 17 = .ok (.new 134, 3) := by decide +kernel
theorem dX0_checkLayers_20 : decode cX0_checkLayers 20 = .ok (.dup, 1) := by decide +kernel
theorem dX0_checkLayers_21 : decode cX0_checkLayers 21 = .ok (.ldc 188, 2) := by decide +kernel
theorem dX0_checkLayers_23 : decode cX0_checkLayers 23 = .ok (.invokespecial 138, 3) := by decide +kernel
theorem dX0_checkLayers_26 : decode cX0_checkLayers 26 = .ok (.athrow, 1) := by decide +kernel
theorem dX0_checkLayers_27 : decode cX0_checkLayers 27 = .ok (.return_, 1) := by decide +kernel
theorem dX0_checkSample_0 : decode cX0_checkSample 0 = .ok (.iload_n 1, 1) := by decide +kernel
theorem dX0_checkSample_1 : decode cX0_checkSample 1 = .ok (.ifCond .lt 11, 3) := by decide +kernel
theorem dX0_checkSample_4 : decode cX0_checkSample 4 = .ok (.iload_n 1, 1) := by decide +kernel
theorem dX0_checkSample_5 : decode cX0_checkSample 5 = .ok (.aload_n 0, 1) := by decide +kernel
theorem dX0_checkSample_6 : decode cX0_checkSample 6 = .ok (.getfield 86, 3) := by decide +kernel
theorem dX0_checkSample_9 : decode cX0_checkSample 9 = .ok (.if_icmp .lt 13, 3) := by decide +kernel
theorem dX0_checkSample_12 : decode cX0_checkSample 12 = .ok (.new 134, 3) := by decide +kernel
theorem dX0_checkSample_15 : decode cX0_checkSample 15 = .ok (.dup, 1) := by decide +kernel
theorem dX0_checkSample_16 : decode cX0_checkSample 16 = .ok (.ldc 190, 2) := by decide +kernel
theorem dX0_checkSample_18 : decode cX0_checkSample 18 = .ok (.invokespecial 138, 3) := by decide +kernel
theorem dX0_checkSample_21 : decode cX0_checkSample 21 = .ok (.athrow, 1) := by decide +kernel
theorem dX0_checkSample_22 : decode cX0_checkSample 22 = .ok (.return_, 1) := by decide +kernel
theorem dX0_checkNotEmpty_0 : decode cX0_checkNotEmpty 0 = .ok (.aload_n 0, 1) := by decide +kernel
theorem dX0_checkNotEmpty_1 : decode cX0_checkNotEmpty 1 = .ok (.getfield 57, 3) := by decide +kernel
theorem dX0_checkNotEmpty_4 : decode cX0_checkNotEmpty 4 = .ok (.ifCond .ne 13, 3) := by decide +kernel
theorem dX0_checkNotEmpty_7 : decode cX0_checkNotEmpty 7 = .ok (.new 60, 3) := by decide +kernel
theorem dX0_checkNotEmpty_10 : decode cX0_checkNotEmpty 10 = .ok (.dup, 1) := by decide +kernel
theorem dX0_checkNotEmpty_11 : decode cX0_checkNotEmpty 11 = .ok (.ldc 69, 2) := by decide +kernel
theorem dX0_checkNotEmpty_13 : decode cX0_checkNotEmpty 13 = .ok (.invokespecial 64, 3) := by decide +kernel
theorem dX0_checkNotEmpty_16 : decode cX0_checkNotEmpty 16 = .ok (.athrow, 1) := by decide +kernel
theorem dX0_checkNotEmpty_17 : decode cX0_checkNotEmpty 17 = .ok (.return_, 1) := by decide +kernel
theorem dX0_isDamp_0 : decode cX0_isDamp 0 = .ok (.iload_n 1, 1) := by decide +kernel
theorem dX0_isDamp_1 : decode cX0_isDamp 1 = .ok (.aload_n 0, 1) := by decide +kernel
theorem dX0_isDamp_2 : decode cX0_isDamp 2 = .ok (.getfield 39, 3) := by decide +kernel
theorem dX0_isDamp_5 : decode cX0_isDamp 5 = .ok (.if_icmp .le 7, 3) := by decide +kernel
theorem dX0_isDamp_8 : decode cX0_isDamp 8 = .ok (.iconst 1, 1) := by decide +kernel
theorem dX0_isDamp_9 : decode cX0_isDamp 9 = .ok (.goto 4, 3) := by decide +kernel
theorem dX0_isDamp_12 : decode cX0_isDamp 12 = .ok (.iconst 0, 1) := by decide +kernel
theorem dX0_isDamp_13 : decode cX0_isDamp 13 = .ok (.ireturn, 1) := by decide +kernel
theorem dX0_putOnTop_0 : decode cX0_putOnTop 0 = .ok (.aload_n 0, 1) := by decide +kernel
theorem dX0_putOnTop_1 : decode cX0_putOnTop 1 = .ok (.getfield 57, 3) := by decide +kernel
theorem dX0_putOnTop_4 : decode cX0_putOnTop 4 = .ok (.istore_n 3, 1) := by decide +kernel
theorem dX0_putOnTop_5 : decode cX0_putOnTop 5 = .ok (.aload_n 0, 1) := by decide +kernel
theorem dX0_putOnTop_6 : decode cX0_putOnTop 6 = .ok (.getfield 9, 3) := by decide +kernel
theorem dX0_putOnTop_9 : decode cX0_putOnTop 9 = .ok (.iload_n 3, 1) := by decide +kernel
theorem dX0_putOnTop_10 : decode cX0_putOnTop 10 = .ok (.iload_n 1, 1) := by decide +kernel
theorem dX0_putOnTop_11 : decode cX0_putOnTop 11 = .ok (.iastore, 1) := by decide +kernel
theorem dX0_putOnTop_12 : decode cX0_putOnTop 12 = .ok (.aload_n 0, 1) := by decide +kernel
theorem dX0_putOnTop_13 : decode cX0_putOnTop 13 = .ok (.getfield 13, 3) := by decide +kernel
theorem dX0_putOnTop_16 : decode cX0_putOnTop 16 = .ok (.iload_n 3, 1) := by decide +kernel
theorem dX0_putOnTop_17 : decode cX0_putOnTop 17 = .ok (.iload_n 2, 1) := by decide +kernel
theorem dX0_putOnTop_18 : decode cX0_putOnTop 18 = .ok (.iastore, 1) := by decide +kernel
theorem dX0_putOnTop_19 : decode cX0_putOnTop 19 = .ok (.aload_n 0, 1) := by decide +kernel
theorem dX0_putOnTop_20 : decode cX0_putOnTop 20 = .ok (.dup, 1) := by decide +kernel
theorem dX0_putOnTop_21 : decode cX0_putOnTop 21 = .ok (.getfield 57, 3) := by decide +kernel
theorem dX0_putOnTop_24 : decode cX0_putOnTop 24 = .ok (.iconst 1, 1) := by decide +kernel
theorem dX0_putOnTop_25 : decode cX0_putOnTop 25 = .ok (.iadd, 1) := by decide +kernel
theorem dX0_putOnTop_26 : decode cX0_putOnTop 26 = .ok (.putfield 57, 3) := by decide +kernel
theorem dX0_putOnTop_29 : decode cX0_putOnTop 29 = .ok (.iload_n 3, 1) := by decide +kernel
theorem dX0_putOnTop_30 : decode cX0_putOnTop 30 = .ok (.ireturn, 1) := by decide +kernel
set_option maxRecDepth 20000 in
theorem ggX0_countOut_X0_isDamp : GoodIn wsX0_countOut wsX0_isDamp := goodIn_r _ [7, 8, 9, 10, 11, 12, 13, 14, 15, 16, 17, 18, 19, 20, 21, 22, 23] (by decide +kernel) (by decide +kernel)
set_option maxRecDepth 20000 in
theorem gX0_countOut_X0_isDamp : GoodIn wsX0_countOut (wsV RX0 131 RX0 yX0_isDamp wsX0_isDamp) := goodIn_app (goodIn_of _ (by decide +kernel)) ggX0_countOut_X0_isDamp
theorem dX0_countOut_0 : decode cX0_countOut 0 = .ok (.aload_n 0, 1) := by decide +kernel
theorem dX0_countOut_1 : decode cX0_countOut 1 = .ok (.iload_n 1, 1) := by decide +kernel
theorem dX0_countOut_2 : decode cX0_countOut 2 = .ok (.invokevirtual 131, 3) := by decide +kernel
theorem dX0_countOut_5 : decode cX0_countOut 5 = .ok (.ifCond .eq 16, 3) := by decide +kernel
theorem dX0_countOut_8 : decode cX0_countOut 8 = .ok (.aload_n 0, 1) := by decide +kernel
theorem dX0_countOut_9 : decode cX0_countOut 9 = .ok (.dup, 1) := by decide +kernel
theorem dX0_countOut_10 : decode cX0_countOut 10 = .ok (.getfield 125, 3) := by decide +kernel
theorem dX0_countOut_13 : decode cX0_countOut 13 = .ok (.iconst 1, 1) := by decide +kernel
theorem dX0_countOut_14 : decode cX0_countOut 14 = .ok (.iadd, 1) := by decide +kernel
theorem dX0_countOut_15 : decode cX0_countOut 15 = .ok (.putfield 125, 3) := by decide +kernel
theorem dX0_countOut_18 : decode cX0_countOut 18 = .ok (.goto 13, 3) := by decide +kernel
theorem dX0_countOut_21 : decode cX0_countOut 21 = .ok (.aload_n 0, 1) := by decide +kernel
theorem dX0_countOut_22 : decode cX0_countOut 22 = .ok (.dup, 1) := by decide +kernel
theorem dX0_countOut_23 : decode cX0_countOut 23 = .ok (.getfield 122, 3) := by decide +kernel
theorem dX0_countOut_26 : decode cX0_countOut 26 = .ok (.iconst 1, 1) := by decide +kernel
theorem dX0_countOut_27 : decode cX0_countOut 27 = .ok (.iadd, 1) := by decide +kernel
theorem dX0_countOut_28 : decode cX0_countOut 28 = .ok (.putfield 122, 3) := by decide +kernel
theorem dX0_countOut_31 : decode cX0_countOut 31 = .ok (.return_, 1) := by decide +kernel
theorem dX0_lowerLayers_0 : decode cX0_lowerLayers 0 = .ok (.iconst 1, 1) := by decide +kernel
theorem dX0_lowerLayers_1 : decode cX0_lowerLayers 1 = .ok (.istore_n 1, 1) := by decide +kernel
theorem dX0_lowerLayers_2 : decode cX0_lowerLayers 2 = .ok (.iload_n 1, 1) := by decide +kernel
theorem dX0_lowerLayers_3 : decode cX0_lowerLayers 3 = .ok (.aload_n 0, 1) := by decide +kernel
theorem dX0_lowerLayers_4 : decode cX0_lowerLayers 4 = .ok (.getfield 57, 3) := by decide +kernel
theorem dX0_lowerLayers_7 : decode cX0_lowerLayers 7 = .ok (.if_icmp .ge 37, 3) := by decide +kernel
theorem dX0_lowerLayers_10 : decode cX0_lowerLayers 10 = .ok (.aload_n 0, 1) := by decide +kernel
theorem dX0_lowerLayers_11 : decode cX0_lowerLayers 11 = .ok (.getfield 9, 3) := by decide +kernel
theorem dX0_lowerLayers_14 : decode cX0_lowerLayers 14 = .ok (.iload_n 1, 1) := by decide +kernel
theorem dX0_lowerLayers_15 : decode cX0_lowerLayers 15 = .ok (.iconst 1, 1) := by decide +kernel
theorem dX0_lowerLayers_16 : decode cX0_lowerLayers 16 = .ok (.isub, 1) := by decide +kernel
theorem dX0_lowerLayers_17 : decode cX0_lowerLayers 17 = .ok (.aload_n 0, 1) := by decide +kernel
theorem dX0_lowerLayers_18 : decode cX0_lowerLayers 18 = .ok (.getfield 9, 3) := by decide +kernel
theorem dX0_lowerLayers_21 : decode cX0_lowerLayers 21 = .ok (.iload_n 1, 1) := by decide +kernel
theorem dX0_lowerLayers_22 : decode cX0_lowerLayers 22 = .ok (.iaload, 1) := by decide +kernel
theorem dX0_lowerLayers_23 : decode cX0_lowerLayers 23 = .ok (.iastore, 1) := by decide +kernel
theorem dX0_lowerLayers_24 : decode cX0_lowerLayers 24 = .ok (.aload_n 0, 1) := by decide +kernel
theorem dX0_lowerLayers_25 : decode cX0_lowerLayers 25 = .ok (.getfield 13, 3) := by decide +kernel
theorem dX0_lowerLayers_28 : decode cX0_lowerLayers 28 = .ok (.iload_n 1, 1) := by decide +kernel
theorem dX0_lowerLayers_29 : decode cX0_lowerLayers 29 = .ok (.iconst 1, 1) := by decide +kernel
theorem dX0_lowerLayers_30 : decode cX0_lowerLayers 30 = .ok (.isub, 1) := by decide +kernel
theorem dX0_lowerLayers_31 : decode cX0_lowerLayers 31 = .ok (.aload_n 0, 1) := by decide +kernel
theorem dX0_lowerLayers_32 : decode cX0_lowerLayers 32 = .ok (.getfield 13, 3) := by decide +kernel
theorem dX0_lowerLayers_35 : decode cX0_lowerLayers 35 = .ok (.iload_n 1, 1) := by decide +kernel
theorem dX0_lowerLayers_36 : decode cX0_lowerLayers 36 = .ok (.iaload, 1) := by decide +kernel
theorem dX0_lowerLayers_37 : decode cX0_lowerLayers 37 = .ok (.iastore, 1) := by decide +kernel
theorem dX0_lowerLayers_38 : decode cX0_lowerLayers 38 = .ok (.iinc 1 1, 3) := by decide +kernel
theorem dX0_lowerLayers_41 : decode cX0_lowerLayers 41 = .ok (.goto (-39), 3) := by decide +kernel
theorem dX0_lowerLayers_44 : decode cX0_lowerLayers 44 = .ok (.aload_n 0, 1) := by decide +kernel
theorem dX0_lowerLayers_45 : decode cX0_lowerLayers 45 = .ok (.dup, 1) := by decide +kernel
theorem dX0_lowerLayers_46 : decode cX0_lowerLayers 46 = .ok (.getfield 57, 3) := by decide +kernel
theorem dX0_lowerLayers_49 : decode cX0_lowerLayers 49 = .ok (.iconst 1, 1) := by decide +kernel
theorem dX0_lowerLayers_50 : decode cX0_lowerLayers 50 = .ok (.isub, 1) := by decide +kernel
theorem dX0_lowerLayers_51 : decode cX0_lowerLayers 51 = .ok (.putfield 57, 3) := by decide +kernel
theorem dX0_lowerLayers_54 : decode cX0_lowerLayers 54 = .ok (.return_, 1) := by decide +kernel
theorem dX0_sumNow_0 : decode cX0_sumNow 0 = .ok (.iconst 0, 1) := by decide +kernel
theorem dX0_sumNow_1 : decode cX0_sumNow 1 = .ok (.istore_n 3, 1) := by decide +kernel
theorem dX0_sumNow_2 : decode cX0_sumNow 2 = .ok (.iload_n 1, 1) := by decide +kernel
theorem dX0_sumNow_3 : decode cX0_sumNow 3 = .ok (.istore 4, 2) := by decide +kernel
theorem dX0_sumNow_5 : decode cX0_sumNow 5 = .ok (.iload 4, 2) := by decide +kernel
theorem dX0_sumNow_7 : decode cX0_sumNow 7 = .ok (.iload_n 2, 1) := by decide +kernel
theorem dX0_sumNow_8 : decode cX0_sumNow 8 = .ok (.if_icmp .gt 19, 3) := by decide +kernel
theorem dX0_sumNow_11 : decode cX0_sumNow 11 = .ok (.iload_n 3, 1) := by decide +kernel
theorem dX0_sumNow_12 : decode cX0_sumNow 12 = .ok (.aload_n 0, 1) := by decide +kernel
theorem dX0_sumNow_13 : decode cX0_sumNow 13 = .ok (.getfield 13, 3) := by decide +kernel
theorem dX0_sumNow_16 : decode cX0_sumNow 16 = .ok (.iload 4, 2) := by decide +kernel
theorem dX0_sumNow_18 : decode cX0_sumNow 18 = .ok (.iaload, 1) := by decide +kernel
theorem dX0_sumNow_19 : decode cX0_sumNow 19 = .ok (.iadd, 1) := by decide +kernel
theorem dX0_sumNow_20 : decode cX0_sumNow 20 = .ok (.istore_n 3, 1) := by decide +kernel
theorem dX0_sumNow_21 : decode cX0_sumNow 21 = .ok (.iinc 4 1, 3) := by decide +kernel
theorem dX0_sumNow_24 : decode cX0_sumNow 24 = .ok (.goto (-19), 3) := by decide +kernel
theorem dX0_sumNow_27 : decode cX0_sumNow 27 = .ok (.iload_n 3, 1) := by decide +kernel
theorem dX0_sumNow_28 : decode cX0_sumNow 28 = .ok (.ireturn, 1) := by decide +kernel
theorem dX0_moveSample_0 : decode cX0_moveSample 0 = .ok (.aload_n 0, 1) := by decide +kernel
theorem dX0_moveSample_1 : decode cX0_moveSample 1 = .ok (.getfield 16, 3) := by decide +kernel
theorem dX0_moveSample_4 : decode cX0_moveSample 4 = .ok (.iload_n 2, 1) := by decide +kernel
theorem dX0_moveSample_5 : decode cX0_moveSample 5 = .ok (.aload_n 0, 1) := by decide +kernel
theorem dX0_moveSample_6 : decode cX0_moveSample 6 = .ok (.getfield 16, 3) := by decide +kernel
theorem dX0_moveSample_9 : decode cX0_moveSample 9 = .ok (.iload_n 1, 1) := by decide +kernel
theorem dX0_moveSample_10 : decode cX0_moveSample 10 = .ok (.iaload, 1) := by decide +kernel
theorem dX0_moveSample_11 : decode cX0_moveSample 11 = .ok (.iastore, 1) := by decide +kernel
theorem dX0_moveSample_12 : decode cX0_moveSample 12 = .ok (.aload_n 0, 1) := by decide +kernel
theorem dX0_moveSample_13 : decode cX0_moveSample 13 = .ok (.getfield 19, 3) := by decide +kernel
theorem dX0_moveSample_16 : decode cX0_moveSample 16 = .ok (.iload_n 2, 1) := by decide +kernel
theorem dX0_moveSample_17 : decode cX0_moveSample 17 = .ok (.aload_n 0, 1) := by decide +kernel
theorem dX0_moveSample_18 : decode cX0_moveSample 18 = .ok (.getfield 19, 3) := by decide +kernel
theorem dX0_moveSample_21 : decode cX0_moveSample 21 = .ok (.iload_n 1, 1) := by decide +kernel
theorem dX0_moveSample_22 : decode cX0_moveSample 22 = .ok (.iaload, 1) := by decide +kernel
theorem dX0_moveSample_23 : decode cX0_moveSample 23 = .ok (.iastore, 1) := by decide +kernel
theorem dX0_moveSample_24 : decode cX0_moveSample 24 = .ok (.aload_n 0, 1) := by decide +kernel
theorem dX0_moveSample_25 : decode cX0_moveSample 25 = .ok (.getfield 22, 3) := by decide +kernel
theorem dX0_moveSample_28 : decode cX0_moveSample 28 = .ok (.iload_n 2, 1) := by decide +kernel
theorem dX0_moveSample_29 : decode cX0_moveSample 29 = .ok (.aload_n 0, 1) := by decide +kernel
theorem dX0_moveSample_30 : decode cX0_moveSample 30 = .ok (.getfield 22, 3) := by decide +kernel
theorem dX0_moveSample_33 : decode cX0_moveSample 33 = .ok (.iload_n 1, 1) := by decide +kernel
theorem dX0_moveSample_34 : decode cX0_moveSample 34 = .ok (.iaload, 1) := by decide +kernel
theorem dX0_moveSample_35 : decode cX0_moveSample 35 = .ok (.iastore, 1) := by decide +kernel
theorem dX0_moveSample_36 : decode cX0_moveSample 36 = .ok (.aload_n 0, 1) := by decide +kernel
theorem dX0_moveSample_37 : decode cX0_moveSample 37 = .ok (.getfield 25, 3) := by decide +kernel
theorem dX0_moveSample_40 : decode cX0_moveSample 40 = .ok (.iload_n 2, 1) := by decide +kernel
theorem dX0_moveSample_41 : decode cX0_moveSample 41 = .ok (.aload_n 0, 1) := by decide +kernel
theorem dX0_moveSample_42 : decode cX0_moveSample 42 = .ok (.getfield 25, 3) := by decide +kernel
theorem dX0_moveSample_45 : decode cX0_moveSample 45 = .ok (.iload_n 1, 1) := by decide +kernel
theorem dX0_moveSample_46 : decode cX0_moveSample 46 = .ok (.iaload, 1) := by decide +kernel
theorem dX0_moveSample_47 : decode cX0_moveSample 47 = .ok (.iastore, 1) := by decide +kernel
theorem dX0_moveSample_48 : decode cX0_moveSample 48 = .ok (.return_, 1) := by decide +kernel
set_option maxRecDepth 20000 in
theorem ggX0_cutLowestOffSamples_X0_dropSamplesOfLowest : GoodIn wsX0_cutLowestOffSamples wsX0_dropSamplesOfLowest := goodIn_r _ [9, 1, 2, 10, 11, 12, 8, 13, 3, 4, 14, 15, 16, 17, 18, 19, 20, 21, 22, 23, 24, 25, 26, 27, 28, 29] (by decide +kernel) (by decide +kernel)
set_option maxRecDepth 20000 in
theorem gX0_cutLowestOffSamples_X0_dropSamplesOfLowest : GoodIn wsX0_cutLowestOffSamples (wsV RX0 89 RX0 yX0_dropSamplesOfLowest wsX0_dropSamplesOfLowest) := goodIn_app (goodIn_of _ (by decide +kernel)) ggX0_cutLowestOffSamples_X0_dropSamplesOfLowest
theorem dX0_cutLowestOffSamples_0 : decode cX0_cutLowestOffSamples 0 = .ok (.iconst 0, 1) := by decide +kernel
theorem dX0_cutLowestOffSamples_1 : decode cX0_cutLowestOffSamples 1 = .ok (.istore_n 2, 1) := by decide +kernel
theorem dX0_cutLowestOffSamples_2 : decode cX0_cutLowestOffSamples 2 = .ok (.iload_n 2, 1) := by decide +kernel
theorem dX0_cutLowestOffSamples_3 : decode cX0_cutLowestOffSamples 3 = .ok (.aload_n 0, 1) := by decide +kernel
theorem dX0_cutLowestOffSamples_4 : decode cX0_cutLowestOffSamples 4 = .ok (.getfield 86, 3) := by decide +kernel
theorem dX0_cutLowestOffSamples_7 : decode cX0_cutLowestOffSamples 7 = .ok (.if_icmp .ge 44, 3) := by decide +kernel
theorem dX0_cutLowestOffSamples_10 : decode cX0_cutLowestOffSamples 10 = .ok (.aload_n 0, 1) := by decide +kernel
theorem dX0_cutLowestOffSamples_11 : decode cX0_cutLowestOffSamples 11 = .ok (.getfield 16, 3) := by decide +kernel
theorem dX0_cutLowestOffSamples_14 : decode cX0_cutLowestOffSamples 14 = .ok (.iload_n 2, 1) := by decide +kernel
theorem dX0_cutLowestOffSamples_15 : decode cX0_cutLowestOffSamples 15 = .ok (.iaload, 1) := by decide +kernel
theorem dX0_cutLowestOffSamples_16 : decode cX0_cutLowestOffSamples 16 = .ok (.ifCond .ne 29, 3) := by decide +kernel
theorem dX0_cutLowestOffSamples_19 : decode cX0_cutLowestOffSamples 19 = .ok (.aload_n 0, 1) := by decide +kernel
theorem dX0_cutLowestOffSamples_20 : decode cX0_cutLowestOffSamples 20 = .ok (.getfield 19, 3) := by decide +kernel
theorem dX0_cutLowestOffSamples_23 : decode cX0_cutLowestOffSamples 23 = .ok (.iload_n 2, 1) := by decide +kernel
theorem dX0_cutLowestOffSamples_24 : decode cX0_cutLowestOffSamples 24 = .ok (.iaload, 1) := by decide +kernel
theorem dX0_cutLowestOffSamples_25 : decode cX0_cutLowestOffSamples 25 = .ok (.ifCond .le 20, 3) := by decide +kernel
theorem dX0_cutLowestOffSamples_28 : decode cX0_cutLowestOffSamples 28 = .ok (.aload_n 0, 1) := by decide +kernel
theorem dX0_cutLowestOffSamples_29 : decode cX0_cutLowestOffSamples 29 = .ok (.getfield 16, 3) := by decide +kernel
theorem dX0_cutLowestOffSamples_32 : decode cX0_cutLowestOffSamples 32 = .ok (.iload_n 2, 1) := by decide +kernel
theorem dX0_cutLowestOffSamples_33 : decode cX0_cutLowestOffSamples 33 = .ok (.iconst 1, 1) := by decide +kernel
theorem dX0_cutLowestOffSamples_34 : decode cX0_cutLowestOffSamples 34 = .ok (.iastore, 1) := by decide +kernel
theorem dX0_cutLowestOffSamples_35 : decode cX0_cutLowestOffSamples 35 = .ok (.aload_n 0, 1) := by decide +kernel
theorem dX0_cutLowestOffSamples_36 : decode cX0_cutLowestOffSamples 36 = .ok (.getfield 22, 3) := by decide +kernel
theorem dX0_cutLowestOffSamples_39 : decode cX0_cutLowestOffSamples 39 = .ok (.iload_n 2, 1) := by decide +kernel
theorem dX0_cutLowestOffSamples_40 : decode cX0_cutLowestOffSamples 40 = .ok (.dup2, 1) := by decide +kernel
theorem dX0_cutLowestOffSamples_41 : decode cX0_cutLowestOffSamples 41 = .ok (.iaload, 1) := by decide +kernel
theorem dX0_cutLowestOffSamples_42 : decode cX0_cutLowestOffSamples 42 = .ok (.iload_n 1, 1) := by decide +kernel
theorem dX0_cutLowestOffSamples_43 : decode cX0_cutLowestOffSamples 43 = .ok (.isub, 1) := by decide +kernel
theorem dX0_cutLowestOffSamples_44 : decode cX0_cutLowestOffSamples 44 = .ok (.iastore, 1) := by decide +kernel
theorem dX0_cutLowestOffSamples_45 : decode cX0_cutLowestOffSamples 45 = .ok (.iinc 2 1, 3) := by decide +kernel
theorem dX0_cutLowestOffSamples_48 : decode cX0_cutLowestOffSamples 48 = .ok (.goto (-46), 3) := by decide +kernel
theorem dX0_cutLowestOffSamples_51 : decode cX0_cutLowestOffSamples 51 = .ok (.aload_n 0, 1) := by decide +kernel
theorem dX0_cutLowestOffSamples_52 : decode cX0_cutLowestOffSamples 52 = .ok (.invokevirtual 89, 3) := by decide +kernel
theorem dX0_cutLowestOffSamples_55 : decode cX0_cutLowestOffSamples 55 = .ok (.return_, 1) := by decide +kernel
set_option maxRecDepth 20000 in
theorem ggX0_dropSamplesOfLowest_X0_moveSample : GoodIn wsX0_dropSamplesOfLowest wsX0_moveSample := goodIn_r _ [7, 2, 8, 9, 10, 11, 12, 13, 14, 15, 16, 17, 18, 19, 20, 21, 22, 23, 24, 25] (by decide +kernel) (by decide +kernel)
set_option maxRecDepth 20000 in
theorem gX0_dropSamplesOfLowest_X0_moveSample : GoodIn wsX0_dropSamplesOfLowest (wsV RX0 119 RX0 yX0_moveSample wsX0_moveSample) := goodIn_app (goodIn_of _ (by decide +kernel)) ggX0_dropSamplesOfLowest_X0_moveSample
theorem dX0_dropSamplesOfLowest_0 : decode cX0_dropSamplesOfLowest 0 = .ok (.iconst 0, 1) := by decide +kernel
theorem dX0_dropSamplesOfLowest_1 : decode cX0_dropSamplesOfLowest 1 = .ok (.istore_n 1, 1) := by decide +kernel
theorem dX0_dropSamplesOfLowest_2 : decode cX0_dropSamplesOfLowest 2 = .ok (.iconst 0, 1) := by decide +kernel
theorem dX0_dropSamplesOfLowest_3 : decode cX0_dropSamplesOfLowest 3 = .ok (.istore_n 2, 1) := by decide +kernel
theorem dX0_dropSamplesOfLowest_4 : decode cX0_dropSamplesOfLowest 4 = .ok (.iload_n 2, 1) := by decide +kernel
theorem dX0_dropSamplesOfLowest_5 : decode cX0_dropSamplesOfLowest 5 = .ok (.aload_n 0, 1) := by decide +kernel
theorem dX0_dropSamplesOfLowest_6 : decode cX0_dropSamplesOfLowest 6 = .ok (.getfield 86, 3) := by decide +kernel
theorem dX0_dropSamplesOfLowest_9 : decode cX0_dropSamplesOfLowest 9 = .ok (.if_icmp .ge 27, 3) := by decide +kernel
theorem dX0_dropSamplesOfLowest_12 : decode cX0_dropSamplesOfLowest 12 = .ok (.aload_n 0, 1) := by decide +kernel
theorem dX0_dropSamplesOfLowest_13 : decode cX0_dropSamplesOfLowest 13 = .ok (.getfield 16, 3) := by decide +kernel
theorem dX0_dropSamplesOfLowest_16 : decode cX0_dropSamplesOfLowest 16 = .ok (.iload_n 2, 1) := by decide +kernel
theorem dX0_dropSamplesOfLowest_17 : decode cX0_dropSamplesOfLowest 17 = .ok (.iaload, 1) := by decide +kernel
theorem dX0_dropSamplesOfLowest_18 : decode cX0_dropSamplesOfLowest 18 = .ok (.ifCond .le 12, 3) := by decide +kernel
theorem dX0_dropSamplesOfLowest_21 : decode cX0_dropSamplesOfLowest 21 = .ok (.aload_n 0, 1) := by decide +kernel
theorem dX0_dropSamplesOfLowest_22 : decode cX0_dropSamplesOfLowest 22 = .ok (.iload_n 2, 1) := by decide +kernel
theorem dX0_dropSamplesOfLowest_23 : decode cX0_dropSamplesOfLowest 23 = .ok (.iload_n 1, 1) := by decide +kernel
theorem dX0_dropSamplesOfLowest_24 : decode cX0_dropSamplesOfLowest 24 = .ok (.invokevirtual 119, 3) := by decide +kernel
theorem dX0_dropSamplesOfLowest_27 : decode cX0_dropSamplesOfLowest 27 = .ok (.iinc 1 1, 3) := by decide +kernel
theorem dX0_dropSamplesOfLowest_30 : decode cX0_dropSamplesOfLowest 30 = .ok (.iinc 2 1, 3) := by decide +kernel
theorem dX0_dropSamplesOfLowest_33 : decode cX0_dropSamplesOfLowest 33 = .ok (.goto (-29), 3) := by decide +kernel
theorem dX0_dropSamplesOfLowest_36 : decode cX0_dropSamplesOfLowest 36 = .ok (.aload_n 0, 1) := by decide +kernel
theorem dX0_dropSamplesOfLowest_37 : decode cX0_dropSamplesOfLowest 37 = .ok (.iload_n 1, 1) := by decide +kernel
theorem dX0_dropSamplesOfLowest_38 : decode cX0_dropSamplesOfLowest 38 = .ok (.putfield 86, 3) := by decide +kernel
theorem dX0_dropSamplesOfLowest_41 : decode cX0_dropSamplesOfLowest 41 = .ok (.return_, 1) := by decide +kernel
theorem dX0_lowerSamples_0 : decode cX0_lowerSamples 0 = .ok (.iconst 0, 1) := by decide +kernel
theorem dX0_lowerSamples_1 : decode cX0_lowerSamples 1 = .ok (.istore_n 1, 1) := by decide +kernel
theorem dX0_lowerSamples_2 : decode cX0_lowerSamples 2 = .ok (.iload_n 1, 1) := by decide +kernel
theorem dX0_lowerSamples_3 : decode cX0_lowerSamples 3 = .ok (.aload_n 0, 1) := by decide +kernel
theorem dX0_lowerSamples_4 : decode cX0_lowerSamples 4 = .ok (.getfield 86, 3) := by decide +kernel
theorem dX0_lowerSamples_7 : decode cX0_lowerSamples 7 = .ok (.if_icmp .ge 29, 3) := by decide +kernel
theorem dX0_lowerSamples_10 : decode cX0_lowerSamples 10 = .ok (.aload_n 0, 1) := by decide +kernel
theorem dX0_lowerSamples_11 : decode cX0_lowerSamples 11 = .ok (.getfield 16, 3) := by decide +kernel
theorem dX0_lowerSamples_14 : decode cX0_lowerSamples 14 = .ok (.iload_n 1, 1) := by decide +kernel
theorem dX0_lowerSamples_15 : decode cX0_lowerSamples 15 = .ok (.dup2, 1) := by decide +kernel
theorem dX0_lowerSamples_16 : decode cX0_lowerSamples 16 = .ok (.iaload, 1) := by decide +kernel
theorem dX0_lowerSamples_17 : decode cX0_lowerSamples 17 = .ok (.iconst 1, 1) := by decide +kernel
theorem dX0_lowerSamples_18 : decode cX0_lowerSamples 18 = .ok (.isub, 1) := by decide +kernel
theorem dX0_lowerSamples_19 : decode cX0_lowerSamples 19 = .ok (.iastore, 1) := by decide +kernel
theorem dX0_lowerSamples_20 : decode cX0_lowerSamples 20 = .ok (.aload_n 0, 1) := by decide +kernel
theorem dX0_lowerSamples_21 : decode cX0_lowerSamples 21 = .ok (.getfield 19, 3) := by decide +kernel
theorem dX0_lowerSamples_24 : decode cX0_lowerSamples 24 = .ok (.iload_n 1, 1) := by decide +kernel
theorem dX0_lowerSamples_25 : decode cX0_lowerSamples 25 = .ok (.dup2, 1) := by decide +kernel
theorem dX0_lowerSamples_26 : decode cX0_lowerSamples 26 = .ok (.iaload, 1) := by decide +kernel
theorem dX0_lowerSamples_27 : decode cX0_lowerSamples 27 = .ok (.iconst 1, 1) := by decide +kernel
theorem dX0_lowerSamples_28 : decode cX0_lowerSamples 28 = .ok (.isub, 1) := by decide +kernel
theorem dX0_lowerSamples_29 : decode cX0_lowerSamples 29 = .ok (.iastore, 1) := by decide +kernel
theorem dX0_lowerSamples_30 : decode cX0_lowerSamples 30 = .ok (.iinc 1 1, 3) := by decide +kernel
theorem dX0_lowerSamples_33 : decode cX0_lowerSamples 33 = .ok (.goto (-31), 3) := by decide +kernel
theorem dX0_lowerSamples_36 : decode cX0_lowerSamples 36 = .ok (.return_, 1) := by decide +kernel
theorem dX0_addDoubt_0 : decode cX0_addDoubt 0 = .ok (.iconst 0, 1) := by decide +kernel
theorem dX0_addDoubt_1 : decode cX0_addDoubt 1 = .ok (.istore_n 2, 1) := by decide +kernel
theorem dX0_addDoubt_2 : decode cX0_addDoubt 2 = .ok (.iload_n 2, 1) := by decide +kernel
theorem dX0_addDoubt_3 : decode cX0_addDoubt 3 = .ok (.aload_n 0, 1) := by decide +kernel
theorem dX0_addDoubt_4 : decode cX0_addDoubt 4 = .ok (.getfield 86, 3) := by decide +kernel
theorem dX0_addDoubt_7 : decode cX0_addDoubt 7 = .ok (.if_icmp .ge 35, 3) := by decide +kernel
theorem dX0_addDoubt_10 : decode cX0_addDoubt 10 = .ok (.aload_n 0, 1) := by decide +kernel
theorem dX0_addDoubt_11 : decode cX0_addDoubt 11 = .ok (.getfield 25, 3) := by decide +kernel
theorem dX0_addDoubt_14 : decode cX0_addDoubt 14 = .ok (.iload_n 2, 1) := by decide +kernel
theorem dX0_addDoubt_15 : decode cX0_addDoubt 15 = .ok (.dup2, 1) := by decide +kernel
theorem dX0_addDoubt_16 : decode cX0_addDoubt 16 = .ok (.iaload, 1) := by decide +kernel
theorem dX0_addDoubt_17 : decode cX0_addDoubt 17 = .ok (.iload_n 1, 1) := by decide +kernel
theorem dX0_addDoubt_18 : decode cX0_addDoubt 18 = .ok (.aload_n 0, 1) := by decide +kernel
theorem dX0_addDoubt_19 : decode cX0_addDoubt 19 = .ok (.getfield 19, 3) := by decide +kernel
theorem dX0_addDoubt_22 : decode cX0_addDoubt 22 = .ok (.iload_n 2, 1) := by decide +kernel
theorem dX0_addDoubt_23 : decode cX0_addDoubt 23 = .ok (.iaload, 1) := by decide +kernel
theorem dX0_addDoubt_24 : decode cX0_addDoubt 24 = .ok (.aload_n 0, 1) := by decide +kernel
theorem dX0_addDoubt_25 : decode cX0_addDoubt 25 = .ok (.getfield 16, 3) := by decide +kernel
theorem dX0_addDoubt_28 : decode cX0_addDoubt 28 = .ok (.iload_n 2, 1) := by decide +kernel
theorem dX0_addDoubt_29 : decode cX0_addDoubt 29 = .ok (.iaload, 1) := by decide +kernel
theorem dX0_addDoubt_30 : decode cX0_addDoubt 30 = .ok (.isub, 1) := by decide +kernel
theorem dX0_addDoubt_31 : decode cX0_addDoubt 31 = .ok (.iconst 1, 1) := by decide +kernel
theorem dX0_addDoubt_32 : decode cX0_addDoubt 32 = .ok (.iadd, 1) := by decide +kernel
theorem dX0_addDoubt_33 : decode cX0_addDoubt 33 = .ok (.imul, 1) := by decide +kernel
theorem dX0_addDoubt_34 : decode cX0_addDoubt 34 = .ok (.iadd, 1) := by decide +kernel
theorem dX0_addDoubt_35 : decode cX0_addDoubt 35 = .ok (.iastore, 1) := by decide +kernel
theorem dX0_addDoubt_36 : decode cX0_addDoubt 36 = .ok (.iinc 2 1, 3) := by decide +kernel
theorem dX0_addDoubt_39 : decode cX0_addDoubt 39 = .ok (.goto (-37), 3) := by decide +kernel
theorem dX0_addDoubt_42 : decode cX0_addDoubt 42 = .ok (.return_, 1) := by decide +kernel
theorem dX0_copyDampnessAhead_0 : decode cX0_copyDampnessAhead 0 = .ok (.iconst 0, 1) := by decide +kernel
theorem dX0_copyDampnessAhead_1 : decode cX0_copyDampnessAhead 1 = .ok (.istore_n 1, 1) := by decide +kernel
theorem dX0_copyDampnessAhead_2 : decode cX0_copyDampnessAhead 2 = .ok (.iload_n 1, 1) := by decide +kernel
theorem dX0_copyDampnessAhead_3 : decode cX0_copyDampnessAhead 3 = .ok (.aload_n 0, 1) := by decide +kernel
theorem dX0_copyDampnessAhead_4 : decode cX0_copyDampnessAhead 4 = .ok (.getfield 57, 3) := by decide +kernel
theorem dX0_copyDampnessAhead_7 : decode cX0_copyDampnessAhead 7 = .ok (.if_icmp .ge 21, 3) := by decide +kernel
theorem dX0_copyDampnessAhead_10 : decode cX0_copyDampnessAhead 10 = .ok (.aload_n 0, 1) := by decide +kernel
theorem dX0_copyDampnessAhead_11 : decode cX0_copyDampnessAhead 11 = .ok (.getfield 31, 3) := by decide +kernel
theorem dX0_copyDampnessAhead_14 : decode cX0_copyDampnessAhead 14 = .ok (.iload_n 1, 1) := by decide +kernel
theorem dX0_copyDampnessAhead_15 : decode cX0_copyDampnessAhead 15 = .ok (.aload_n 0, 1) := by decide +kernel
theorem dX0_copyDampnessAhead_16 : decode cX0_copyDampnessAhead 16 = .ok (.getfield 13, 3) := by decide +kernel
theorem dX0_copyDampnessAhead_19 : decode cX0_copyDampnessAhead 19 = .ok (.iload_n 1, 1) := by decide +kernel
theorem dX0_copyDampnessAhead_20 : decode cX0_copyDampnessAhead 20 = .ok (.iaload, 1) := by decide +kernel
theorem dX0_copyDampnessAhead_21 : decode cX0_copyDampnessAhead 21 = .ok (.iastore, 1) := by decide +kernel
theorem dX0_copyDampnessAhead_22 : decode cX0_copyDampnessAhead 22 = .ok (.iinc 1 1, 3) := by decide +kernel
theorem dX0_copyDampnessAhead_25 : decode cX0_copyDampnessAhead 25 = .ok (.goto (-23), 3) := by decide +kernel
theorem dX0_copyDampnessAhead_28 : decode cX0_copyDampnessAhead 28 = .ok (.return_, 1) := by decide +kernel
set_option maxRecDepth 20000 in
theorem ggX0_letDaysGoBy_X0_letDayGoBy : GoodIn wsX0_letDaysGoBy wsX0_letDayGoBy := goodIn_r _ [5, 6, 7, 8, 9, 10, 4, 11, 12, 13, 14, 15, 16, 17, 18, 19, 20, 21, 22, 23, 24, 25, 26, 27, 28, 29, 30] (by decide +kernel) (by decide +kernel)
set_option maxRecDepth 20000 in
theorem gX0_letDaysGoBy_X0_letDayGoBy : GoodIn wsX0_letDaysGoBy (wsV RX0 167 RX0 yX0_letDayGoBy wsX0_letDayGoBy) := goodIn_app (goodIn_of _ (by decide +kernel)) ggX0_letDaysGoBy_X0_letDayGoBy
theorem dX0_letDaysGoBy_0 : decode cX0_letDaysGoBy 0 = .ok (.iconst 0, 1) := by decide +kernel
theorem dX0_letDaysGoBy_1 : decode cX0_letDaysGoBy 1 = .ok (.istore_n 3, 1) := by decide +kernel
theorem dX0_letDaysGoBy_2 : decode cX0_letDaysGoBy 2 = .ok (.iconst 0, 1) := by decide +kernel
theorem dX0_letDaysGoBy_3 : decode cX0_letDaysGoBy 3 = .ok (.istore 4, 2) := by decide +kernel
theorem dX0_letDaysGoBy_5 : decode cX0_letDaysGoBy 5 = .ok (.iload 4, 2) := by decide +kernel
theorem dX0_letDaysGoBy_7 : decode cX0_letDaysGoBy 7 = .ok (.iload_n 2, 1) := by decide +kernel
theorem dX0_letDaysGoBy_8 : decode cX0_letDaysGoBy 8 = .ok (.if_icmp .ge 17, 3) := by decide +kernel
theorem dX0_letDaysGoBy_11 : decode cX0_letDaysGoBy 11 = .ok (.iload_n 3, 1) := by decide +kernel
theorem dX0_letDaysGoBy_12 : decode cX0_letDaysGoBy 12 = .ok (.aload_n 0, 1) := by decide +kernel
theorem dX0_letDaysGoBy_13 : decode cX0_letDaysGoBy 13 = .ok (.aload_n 1, 1) := by decide +kernel
theorem dX0_letDaysGoBy_14 : decode cX0_letDaysGoBy 14 = .ok (.invokevirtual 167, 3) := by decide +kernel
theorem dX0_letDaysGoBy_17 : decode cX0_letDaysGoBy 17 = .ok (.iadd, 1) := by decide +kernel
theorem dX0_letDaysGoBy_18 : decode cX0_letDaysGoBy 18 = .ok (.istore_n 3, 1) := by decide +kernel
theorem dX0_letDaysGoBy_19 : decode cX0_letDaysGoBy 19 = .ok (.iinc 4 1, 3) := by decide +kernel
theorem dX0_letDaysGoBy_22 : decode cX0_letDaysGoBy 22 = .ok (.goto (-17), 3) := by decide +kernel
theorem dX0_letDaysGoBy_25 : decode cX0_letDaysGoBy 25 = .ok (.iload_n 3, 1) := by decide +kernel
theorem dX0_letDaysGoBy_26 : decode cX0_letDaysGoBy 26 = .ok (.ireturn, 1) := by decide +kernel
set_option maxRecDepth 20000 in
theorem ggX0_letDayGoBy_X0_turnOf : GoodIn wsX0_letDayGoBy wsX0_turnOf := goodIn_r _ [7, 8, 9, 10, 6, 11, 1, 12, 13, 14, 15, 16, 17, 18, 19, 20, 21, 22, 23, 24, 25, 26] (by decide +kernel) (by decide +kernel)
set_option maxRecDepth 20000 in
theorem gX0_letDayGoBy_X0_turnOf : GoodIn wsX0_letDayGoBy (wsV RX0 192 RX0 yX0_turnOf wsX0_turnOf) := goodIn_app (goodIn_of _ (by decide +kernel)) ggX0_letDayGoBy_X0_turnOf
theorem dX0_letDayGoBy_0 : decode cX0_letDayGoBy 0 = .ok (.iconst 0, 1) := by decide +kernel
theorem dX0_letDayGoBy_1 : decode cX0_letDayGoBy 1 = .ok (.istore_n 2, 1) := by decide +kernel
theorem dX0_letDayGoBy_2 : decode cX0_letDayGoBy 2 = .ok (.iload_n 2, 1) := by decide +kernel
theorem dX0_letDayGoBy_3 : decode cX0_letDayGoBy 3 = .ok (.aload_n 0, 1) := by decide +kernel
theorem dX0_letDayGoBy_4 : decode cX0_letDayGoBy 4 = .ok (.getfield 57, 3) := by decide +kernel
theorem dX0_letDayGoBy_7 : decode cX0_letDayGoBy 7 = .ok (.if_icmp .ge 21, 3) := by decide +kernel
theorem dX0_letDayGoBy_10 : decode cX0_letDayGoBy 10 = .ok (.aload_n 0, 1) := by decide +kernel
theorem dX0_letDayGoBy_11 : decode cX0_letDayGoBy 11 = .ok (.getfield 28, 3) := by decide +kernel
theorem dX0_letDayGoBy_14 : decode cX0_letDayGoBy 14 = .ok (.iload_n 2, 1) := by decide +kernel
theorem dX0_letDayGoBy_15 : decode cX0_letDayGoBy 15 = .ok (.aload_n 0, 1) := by decide +kernel
theorem dX0_letDayGoBy_16 : decode cX0_letDayGoBy 16 = .ok (.aload_n 1, 1) := by decide +kernel
theorem dX0_letDayGoBy_17 : decode cX0_letDayGoBy 17 = .ok (.iload_n 2, 1) := by decide +kernel
theorem dX0_letDayGoBy_18 : decode cX0_letDayGoBy 18 = .ok (.invokevirtual 192, 3) := by decide +kernel
theorem dX0_letDayGoBy_21 : decode cX0_letDayGoBy 21 = .ok (.iastore, 1) := by decide +kernel
theorem dX0_letDayGoBy_22 : decode cX0_letDayGoBy 22 = .ok (.iinc 2 1, 3) := by decide +kernel
theorem dX0_letDayGoBy_25 : decode cX0_letDayGoBy 25 = .ok (.goto (-23), 3) := by decide +kernel
theorem dX0_letDayGoBy_28 : decode cX0_letDayGoBy 28 = .ok (.iconst 0, 1) := by decide +kernel
theorem dX0_letDayGoBy_29 : decode cX0_letDayGoBy 29 = .ok (.istore_n 2, 1) := by decide +kernel
theorem dX0_letDayGoBy_30 : decode cX0_letDayGoBy 30 = .ok (.iconst 0, 1) := by decide +kernel
theorem dX0_letDayGoBy_31 : decode cX0_letDayGoBy 31 = .ok (.istore_n 3, 1) := by decide +kernel
theorem dX0_letDayGoBy_32 : decode cX0_letDayGoBy 32 = .ok (.iload_n 3, 1) := by decide +kernel
theorem dX0_letDayGoBy_33 : decode cX0_letDayGoBy 33 = .ok (.aload_n 0, 1) := by decide +kernel
theorem dX0_letDayGoBy_34 : decode cX0_letDayGoBy 34 = .ok (.getfield 57, 3) := by decide +kernel
theorem dX0_letDayGoBy_37 : decode cX0_letDayGoBy 37 = .ok (.if_icmp .ge 33, 3) := by decide +kernel
theorem dX0_letDayGoBy_40 : decode cX0_letDayGoBy 40 = .ok (.aload_n 0, 1) := by decide +kernel
theorem dX0_letDayGoBy_41 : decode cX0_letDayGoBy 41 = .ok (.getfield 28, 3) := by decide +kernel
theorem dX0_letDayGoBy_44 : decode cX0_letDayGoBy 44 = .ok (.iload_n 3, 1) := by decide +kernel
theorem dX0_letDayGoBy_45 : decode cX0_letDayGoBy 45 = .ok (.iaload, 1) := by decide +kernel
theorem dX0_letDayGoBy_46 : decode cX0_letDayGoBy 46 = .ok (.ifCond .eq 18, 3) := by decide +kernel
theorem dX0_letDayGoBy_49 : decode cX0_letDayGoBy 49 = .ok (.aload_n 1, 1) := by decide +kernel
theorem dX0_letDayGoBy_50 : decode cX0_letDayGoBy 50 = .ok (.iload_n 3, 1) := by decide +kernel
theorem dX0_letDayGoBy_51 : decode cX0_letDayGoBy 51 = .ok (.dup2, 1) := by decide +kernel
theorem dX0_letDayGoBy_52 : decode cX0_letDayGoBy 52 = .ok (.iaload, 1) := by decide +kernel
theorem dX0_letDayGoBy_53 : decode cX0_letDayGoBy 53 = .ok (.aload_n 0, 1) := by decide +kernel
theorem dX0_letDayGoBy_54 : decode cX0_letDayGoBy 54 = .ok (.getfield 28, 3) := by decide +kernel
theorem dX0_letDayGoBy_57 : decode cX0_letDayGoBy 57 = .ok (.iload_n 3, 1) := by decide +kernel
theorem dX0_letDayGoBy_58 : decode cX0_letDayGoBy 58 = .ok (.iaload, 1) := by decide +kernel
theorem dX0_letDayGoBy_59 : decode cX0_letDayGoBy 59 = .ok (.iadd, 1) := by decide +kernel
theorem dX0_letDayGoBy_60 : decode cX0_letDayGoBy 60 = .ok (.iastore, 1) := by decide +kernel
theorem dX0_letDayGoBy_61 : decode cX0_letDayGoBy 61 = .ok (.iinc 2 1, 3) := by decide +kernel
theorem dX0_letDayGoBy_64 : decode cX0_letDayGoBy 64 = .ok (.iinc 3 1, 3) := by decide +kernel
theorem dX0_letDayGoBy_67 : decode cX0_letDayGoBy 67 = .ok (.goto (-35), 3) := by decide +kernel
theorem dX0_letDayGoBy_70 : decode cX0_letDayGoBy 70 = .ok (.iload_n 2, 1) := by decide +kernel
theorem dX0_letDayGoBy_71 : decode cX0_letDayGoBy 71 = .ok (.ireturn, 1) := by decide +kernel
set_option maxRecDepth 20000 in
theorem ggX0_turnOf_X0_pullOf : GoodIn wsX0_turnOf wsX0_pullOf := goodIn_r _ [5, 6, 7, 8, 9, 10, 11, 12, 13, 14, 15, 16, 17, 18, 19, 20, 21] (by decide +kernel) (by decide +kernel)
set_option maxRecDepth 20000 in
theorem gX0_turnOf_X0_pullOf : GoodIn wsX0_turnOf (wsV RX0 195 RX0 yX0_pullOf wsX0_pullOf) := goodIn_app (goodIn_of _ (by decide +kernel)) ggX0_turnOf_X0_pullOf
theorem dX0_turnOf_0 : decode cX0_turnOf 0 = .ok (.aload_n 0, 1) := by decide +kernel
theorem dX0_turnOf_1 : decode cX0_turnOf 1 = .ok (.aload_n 1, 1) := by decide +kernel
theorem dX0_turnOf_2 : decode cX0_turnOf 2 = .ok (.iload_n 2, 1) := by decide +kernel
theorem dX0_turnOf_3 : decode cX0_turnOf 3 = .ok (.iload_n 2, 1) := by decide +kernel
theorem dX0_turnOf_4 : decode cX0_turnOf 4 = .ok (.iconst 1, 1) := by decide +kernel
theorem dX0_turnOf_5 : decode cX0_turnOf 5 = .ok (.isub, 1) := by decide +kernel
theorem dX0_turnOf_6 : decode cX0_turnOf 6 = .ok (.invokevirtual 195, 3) := by decide +kernel
theorem dX0_turnOf_9 : decode cX0_turnOf 9 = .ok (.aload_n 0, 1) := by decide +kernel
theorem dX0_turnOf_10 : decode cX0_turnOf 10 = .ok (.aload_n 1, 1) := by decide +kernel
theorem dX0_turnOf_11 : decode cX0_turnOf 11 = .ok (.iload_n 2, 1) := by decide +kernel
theorem dX0_turnOf_12 : decode cX0_turnOf 12 = .ok (.iload_n 2, 1) := by decide +kernel
theorem dX0_turnOf_13 : decode cX0_turnOf 13 = .ok (.iconst 1, 1) := by decide +kernel
theorem dX0_turnOf_14 : decode cX0_turnOf 14 = .ok (.iadd, 1) := by decide +kernel
theorem dX0_turnOf_15 : decode cX0_turnOf 15 = .ok (.invokevirtual 195, 3) := by decide +kernel
theorem dX0_turnOf_18 : decode cX0_turnOf 18 = .ok (.iadd, 1) := by decide +kernel
theorem dX0_turnOf_19 : decode cX0_turnOf 19 = .ok (.istore_n 3, 1) := by decide +kernel
theorem dX0_turnOf_20 : decode cX0_turnOf 20 = .ok (.iload_n 3, 1) := by decide +kernel
theorem dX0_turnOf_21 : decode cX0_turnOf 21 = .ok (.ifCond .le 5, 3) := by decide +kernel
theorem dX0_turnOf_24 : decode cX0_turnOf 24 = .ok (.iconst 1, 1) := by decide +kernel
theorem dX0_turnOf_25 : decode cX0_turnOf 25 = .ok (.ireturn, 1) := by decide +kernel
theorem dX0_turnOf_26 : decode cX0_turnOf 26 = .ok (.iload_n 3, 1) := by decide +kernel
theorem dX0_turnOf_27 : decode cX0_turnOf 27 = .ok (.ifCond .ge 7, 3) := by decide +kernel
theorem dX0_turnOf_30 : decode cX0_turnOf 30 = .ok (.iconst (-1), 1) := by decide +kernel
theorem dX0_turnOf_31 : decode cX0_turnOf 31 = .ok (.goto 4, 3) := by decide +kernel
theorem dX0_turnOf_34 : decode cX0_turnOf 34 = .ok (.iconst 0, 1) := by decide +kernel
theorem dX0_turnOf_35 : decode cX0_turnOf 35 = .ok (.ireturn, 1) := by decide +kernel
theorem dX0_pullOf_0 : decode cX0_pullOf 0 = .ok (.iload_n 3, 1) := by decide +kernel
theorem dX0_pullOf_1 : decode cX0_pullOf 1 = .ok (.ifCond .lt 11, 3) := by decide +kernel
theorem dX0_pullOf_4 : decode cX0_pullOf 4 = .ok (.iload_n 3, 1) := by decide +kernel
theorem dX0_pullOf_5 : decode cX0_pullOf 5 = .ok (.aload_n 0, 1) := by decide +kernel
theorem dX0_pullOf_6 : decode cX0_pullOf 6 = .ok (.getfield 57, 3) := by decide +kernel
theorem dX0_pullOf_9 : decode cX0_pullOf 9 = .ok (.if_icmp .lt 5, 3) := by decide +kernel
theorem dX0_pullOf_12 : decode cX0_pullOf 12 = .ok (.iconst 0, 1) := by decide +kernel
theorem dX0_pullOf_13 : decode cX0_pullOf 13 = .ok (.ireturn, 1) := by decide +kernel
theorem dX0_pullOf_14 : decode cX0_pullOf 14 = .ok (.aload_n 1, 1) := by decide +kernel
theorem dX0_pullOf_15 : decode cX0_pullOf 15 = .ok (.iload_n 3, 1) := by decide +kernel
theorem dX0_pullOf_16 : decode cX0_pullOf 16 = .ok (.iaload, 1) := by decide +kernel
theorem dX0_pullOf_17 : decode cX0_pullOf 17 = .ok (.aload_n 1, 1) := by decide +kernel
theorem dX0_pullOf_18 : decode cX0_pullOf 18 = .ok (.iload_n 2, 1) := by decide +kernel
theorem dX0_pullOf_19 : decode cX0_pullOf 19 = .ok (.iaload, 1) := by decide +kernel
theorem dX0_pullOf_20 : decode cX0_pullOf 20 = .ok (.isub, 1) := by decide +kernel
theorem dX0_pullOf_21 : decode cX0_pullOf 21 = .ok (.istore 4, 2) := by decide +kernel
theorem dX0_pullOf_23 : decode cX0_pullOf 23 = .ok (.iload 4, 2) := by decide +kernel
theorem dX0_pullOf_25 : decode cX0_pullOf 25 = .ok (.iconst 2, 1) := by decide +kernel
theorem dX0_pullOf_26 : decode cX0_pullOf 26 = .ok (.if_icmp .lt 5, 3) := by decide +kernel
theorem dX0_pullOf_29 : decode cX0_pullOf 29 = .ok (.iconst 1, 1) := by decide +kernel
theorem dX0_pullOf_30 : decode cX0_pullOf 30 = .ok (.ireturn, 1) := by decide +kernel
theorem dX0_pullOf_31 : decode cX0_pullOf 31 = .ok (.iload 4, 2) := by decide +kernel
theorem dX0_pullOf_33 : decode cX0_pullOf 33 = .ok (.bipush (-2), 2) := by decide +kernel
theorem dX0_pullOf_35 : decode cX0_pullOf 35 = .ok (.if_icmp .gt 7, 3) := by decide +kernel
theorem dX0_pullOf_38 : decode cX0_pullOf 38 = .ok (.iconst (-1), 1) := by decide +kernel
theorem dX0_pullOf_39 : decode cX0_pullOf 39 = .ok (.goto 4, 3) := by decide +kernel
theorem dX0_pullOf_42 : decode cX0_pullOf 42 = .ok (.iconst 0, 1) := by decide +kernel
theorem dX0_pullOf_43 : decode cX0_pullOf 43 = .ok (.ireturn, 1) := by decide +kernel
set_option maxRecDepth 20000 in
theorem ggX0_weighSamples_X0_weighNothing : GoodIn wsX0_weighSamples wsX0_weighNothing := goodIn_r _ [10, 11, 12, 21, 22, 23, 24, 25, 26, 27, 28, 29, 30, 31, 32, 33, 34, 35] (by decide +kernel) (by decide +kernel)
set_option maxRecDepth 20000 in
theorem gX0_weighSamples_X0_weighNothing : GoodIn wsX0_weighSamples (wsV RX0 199 RX0 yX0_weighNothing wsX0_weighNothing) := goodIn_app (goodIn_of _ (by decide +kernel)) ggX0_weighSamples_X0_weighNothing
set_option maxRecDepth 20000 in
theorem ggX0_weighSamples_X0_heed : GoodIn wsX0_weighSamples wsX0_heed := goodIn_r _ [16, 12, 11, 17, 18, 19, 20, 21, 22, 23, 24, 25, 26, 27, 28, 29, 30, 31, 32, 33, 34, 35] (by decide +kernel) (by decide +kernel)
set_option maxRecDepth 20000 in
theorem gX0_weighSamples_X0_heed : GoodIn wsX0_weighSamples (wsV RX0 202 RX0 yX0_heed wsX0_heed) := goodIn_app (goodIn_of _ (by decide +kernel)) ggX0_weighSamples_X0_heed
theorem dX0_weighSamples_0 : decode cX0_weighSamples 0 = .ok (.aload_n 0, 1) := by decide +kernel
theorem dX0_weighSamples_1 : decode cX0_weighSamples 1 = .ok (.invokevirtual 199, 3) := by decide +kernel
theorem dX0_weighSamples_4 : decode cX0_weighSamples 4 = .ok (.iconst 0, 1) := by decide +kernel
theorem dX0_weighSamples_5 : decode cX0_weighSamples 5 = .ok (.istore_n 1, 1) := by decide +kernel
theorem dX0_weighSamples_6 : decode cX0_weighSamples 6 = .ok (.iload_n 1, 1) := by decide +kernel
theorem dX0_weighSamples_7 : decode cX0_weighSamples 7 = .ok (.aload_n 0, 1) := by decide +kernel
theorem dX0_weighSamples_8 : decode cX0_weighSamples 8 = .ok (.getfield 86, 3) := by decide +kernel
theorem dX0_weighSamples_11 : decode cX0_weighSamples 11 = .ok (.if_icmp .ge 63, 3) := by decide +kernel
theorem dX0_weighSamples_14 : decode cX0_weighSamples 14 = .ok (.aload_n 0, 1) := by decide +kernel
theorem dX0_weighSamples_15 : decode cX0_weighSamples 15 = .ok (.getfield 16, 3) := by decide +kernel
theorem dX0_weighSamples_18 : decode cX0_weighSamples 18 = .ok (.iload_n 1, 1) := by decide +kernel
theorem dX0_weighSamples_19 : decode cX0_weighSamples 19 = .ok (.iaload, 1) := by decide +kernel
theorem dX0_weighSamples_20 : decode cX0_weighSamples 20 = .ok (.istore_n 2, 1) := by decide +kernel
theorem dX0_weighSamples_21 : decode cX0_weighSamples 21 = .ok (.aload_n 0, 1) := by decide +kernel
theorem dX0_weighSamples_22 : decode cX0_weighSamples 22 = .ok (.getfield 19, 3) := by decide +kernel
theorem dX0_weighSamples_25 : decode cX0_weighSamples 25 = .ok (.iload_n 1, 1) := by decide +kernel
theorem dX0_weighSamples_26 : decode cX0_weighSamples 26 = .ok (.iaload, 1) := by decide +kernel
theorem dX0_weighSamples_27 : decode cX0_weighSamples 27 = .ok (.iconst 1, 1) := by decide +kernel
theorem dX0_weighSamples_28 : decode cX0_weighSamples 28 = .ok (.iadd, 1) := by decide +kernel
theorem dX0_weighSamples_29 : decode cX0_weighSamples 29 = .ok (.istore_n 3, 1) := by decide +kernel
theorem dX0_weighSamples_30 : decode cX0_weighSamples 30 = .ok (.aload_n 0, 1) := by decide +kernel
theorem dX0_weighSamples_31 : decode cX0_weighSamples 31 = .ok (.iload_n 2, 1) := by decide +kernel
theorem dX0_weighSamples_32 : decode cX0_weighSamples 32 = .ok (.iload_n 3, 1) := by decide +kernel
theorem dX0_weighSamples_33 : decode cX0_weighSamples 33 = .ok (.aload_n 0, 1) := by decide +kernel
theorem dX0_weighSamples_34 : decode cX0_weighSamples 34 = .ok (.getfield 22, 3) := by decide +kernel
theorem dX0_weighSamples_37 : decode cX0_weighSamples 37 = .ok (.iload_n 1, 1) := by decide +kernel
theorem dX0_weighSamples_38 : decode cX0_weighSamples 38 = .ok (.iaload, 1) := by decide +kernel
theorem dX0_weighSamples_39 : decode cX0_weighSamples 39 = .ok (.aload_n 0, 1) := by decide +kernel
theorem dX0_weighSamples_40 : decode cX0_weighSamples 40 = .ok (.getfield 25, 3) := by decide +kernel
theorem dX0_weighSamples_43 : decode cX0_weighSamples 43 = .ok (.iload_n 1, 1) := by decide +kernel
theorem dX0_weighSamples_44 : decode cX0_weighSamples 44 = .ok (.iaload, 1) := by decide +kernel
theorem dX0_weighSamples_45 : decode cX0_weighSamples 45 = .ok (.iadd, 1) := by decide +kernel
theorem dX0_weighSamples_46 : decode cX0_weighSamples 46 = .ok (.invokevirtual 202, 3) := by decide +kernel
theorem dX0_weighSamples_49 : decode cX0_weighSamples 49 = .ok (.aload_n 0, 1) := by decide +kernel
theorem dX0_weighSamples_50 : decode cX0_weighSamples 50 = .ok (.iload_n 3, 1) := by decide +kernel
theorem dX0_weighSamples_51 : decode cX0_weighSamples 51 = .ok (.iload_n 2, 1) := by decide +kernel
theorem dX0_weighSamples_52 : decode cX0_weighSamples 52 = .ok (.aload_n 0, 1) := by decide +kernel
theorem dX0_weighSamples_53 : decode cX0_weighSamples 53 = .ok (.getfield 25, 3) := by decide +kernel
theorem dX0_weighSamples_56 : decode cX0_weighSamples 56 = .ok (.iload_n 1, 1) := by decide +kernel
theorem dX0_weighSamples_57 : decode cX0_weighSamples 57 = .ok (.iaload, 1) := by decide +kernel
theorem dX0_weighSamples_58 : decode cX0_weighSamples 58 = .ok (.aload_n 0, 1) := by decide +kernel
theorem dX0_weighSamples_59 : decode cX0_weighSamples 59 = .ok (.getfield 22, 3) := by decide +kernel
theorem dX0_weighSamples_62 : decode cX0_weighSamples 62 = .ok (.iload_n 1, 1) := by decide +kernel
theorem dX0_weighSamples_63 : decode cX0_weighSamples 63 = .ok (.iaload, 1) := by decide +kernel
theorem dX0_weighSamples_64 : decode cX0_weighSamples 64 = .ok (.isub, 1) := by decide +kernel
theorem dX0_weighSamples_65 : decode cX0_weighSamples 65 = .ok (.invokevirtual 202, 3) := by decide +kernel
theorem dX0_weighSamples_68 : decode cX0_weighSamples 68 = .ok (.iinc 1 1, 3) := by decide +kernel
theorem dX0_weighSamples_71 : decode cX0_weighSamples 71 = .ok (.goto (-65), 3) := by decide +kernel
theorem dX0_weighSamples_74 : decode cX0_weighSamples 74 = .ok (.return_, 1) := by decide +kernel
theorem dX0_weighNothing_0 : decode cX0_weighNothing 0 = .ok (.iconst 0, 1) := by decide +kernel
theorem dX0_weighNothing_1 : decode cX0_weighNothing 1 = .ok (.istore_n 1, 1) := by decide +kernel
theorem dX0_weighNothing_2 : decode cX0_weighNothing 2 = .ok (.iload_n 1, 1) := by decide +kernel
theorem dX0_weighNothing_3 : decode cX0_weighNothing 3 = .ok (.aload_n 0, 1) := by decide +kernel
theorem dX0_weighNothing_4 : decode cX0_weighNothing 4 = .ok (.getfield 57, 3) := by decide +kernel
theorem dX0_weighNothing_7 : decode cX0_weighNothing 7 = .ok (.if_icmp .gt 48, 3) := by decide +kernel
theorem dX0_weighNothing_10 : decode cX0_weighNothing 10 = .ok (.iconst 0, 1) := by decide +kernel
theorem dX0_weighNothing_11 : decode cX0_weighNothing 11 = .ok (.istore_n 2, 1) := by decide +kernel
theorem dX0_weighNothing_12 : decode cX0_weighNothing 12 = .ok (.iload_n 2, 1) := by decide +kernel
theorem dX0_weighNothing_13 : decode cX0_weighNothing 13 = .ok (.aload_n 0, 1) := by decide +kernel
theorem dX0_weighNothing_14 : decode cX0_weighNothing 14 = .ok (.getfield 57, 3) := by decide +kernel
theorem dX0_weighNothing_17 : decode cX0_weighNothing 17 = .ok (.if_icmp .gt 32, 3) := by decide +kernel
theorem dX0_weighNothing_20 : decode cX0_weighNothing 20 = .ok (.aload_n 0, 1) := by decide +kernel
theorem dX0_weighNothing_21 : decode cX0_weighNothing 21 = .ok (.getfield 36, 3) := by decide +kernel
theorem dX0_weighNothing_24 : decode cX0_weighNothing 24 = .ok (.iload_n 1, 1) := by decide +kernel
theorem dX0_weighNothing_25 : decode cX0_weighNothing 25 = .ok (.aaload, 1) := by decide +kernel
theorem dX0_weighNothing_26 : decode cX0_weighNothing 26 = .ok (.iload_n 2, 1) := by decide +kernel
theorem dX0_weighNothing_27 : decode cX0_weighNothing 27 = .ok (.iload_n 2, 1) := by decide +kernel
theorem dX0_weighNothing_28 : decode cX0_weighNothing 28 = .ok (.iload_n 1, 1) := by decide +kernel
theorem dX0_weighNothing_29 : decode cX0_weighNothing 29 = .ok (.if_icmp .le 12, 3) := by decide +kernel
theorem dX0_weighNothing_32 : decode cX0_weighNothing 32 = .ok (.iload_n 2, 1) := by decide +kernel
theorem dX0_weighNothing_33 : decode cX0_weighNothing 33 = .ok (.iload_n 1, 1) := by decide +kernel
theorem dX0_weighNothing_34 : decode cX0_weighNothing 34 = .ok (.isub, 1) := by decide +kernel
theorem dX0_weighNothing_35 : decode cX0_weighNothing 35 = .ok (.bipush 40, 2) := by decide +kernel
theorem dX0_weighNothing_37 : decode cX0_weighNothing 37 = .ok (.imul, 1) := by decide +kernel
theorem dX0_weighNothing_38 : decode cX0_weighNothing 38 = .ok (.goto 4, 3) := by decide +kernel
theorem dX0_weighNothing_41 : decode cX0_weighNothing 41 = .ok (.iconst 0, 1) := by decide +kernel
theorem dX0_weighNothing_42 : decode cX0_weighNothing 42 = .ok (.iastore, 1) := by decide +kernel
theorem dX0_weighNothing_43 : decode cX0_weighNothing 43 = .ok (.iinc 2 1, 3) := by decide +kernel
theorem dX0_weighNothing_46 : decode cX0_weighNothing 46 = .ok (.goto (-34), 3) := by decide +kernel
theorem dX0_weighNothing_49 : decode cX0_weighNothing 49 = .ok (.iinc 1 1, 3) := by decide +kernel
theorem dX0_weighNothing_52 : decode cX0_weighNothing 52 = .ok (.goto (-50), 3) := by decide +kernel
theorem dX0_weighNothing_55 : decode cX0_weighNothing 55 = .ok (.return_, 1) := by decide +kernel
theorem dX0_heed_0 : decode cX0_heed 0 = .ok (.iload_n 3, 1) := by decide +kernel
theorem dX0_heed_1 : decode cX0_heed 1 = .ok (.aload_n 0, 1) := by decide +kernel
theorem dX0_heed_2 : decode cX0_heed 2 = .ok (.getfield 36, 3) := by decide +kernel
theorem dX0_heed_5 : decode cX0_heed 5 = .ok (.iload_n 1, 1) := by decide +kernel
theorem dX0_heed_6 : decode cX0_heed 6 = .ok (.aaload, 1) := by decide +kernel
theorem dX0_heed_7 : decode cX0_heed 7 = .ok (.iload_n 2, 1) := by decide +kernel
theorem dX0_heed_8 : decode cX0_heed 8 = .ok (.iaload, 1) := by decide +kernel
theorem dX0_heed_9 : decode cX0_heed 9 = .ok (.if_icmp .lt 4, 3) := by decide +kernel
theorem dX0_heed_12 : decode cX0_heed 12 = .ok (.return_, 1) := by decide +kernel
theorem dX0_heed_13 : decode cX0_heed 13 = .ok (.iconst 0, 1) := by decide +kernel
theorem dX0_heed_14 : decode cX0_heed 14 = .ok (.istore 4, 2) := by decide +kernel
theorem dX0_heed_16 : decode cX0_heed 16 = .ok (.iload 4, 2) := by decide +kernel
theorem dX0_heed_18 : decode cX0_heed 18 = .ok (.aload_n 0, 1) := by decide +kernel
theorem dX0_heed_19 : decode cX0_heed 19 = .ok (.getfield 57, 3) := by decide +kernel
theorem dX0_heed_22 : decode cX0_heed 22 = .ok (.if_icmp .gt 71, 3) := by decide +kernel
theorem dX0_heed_25 : decode cX0_heed 25 = .ok (.iconst 0, 1) := by decide +kernel
theorem dX0_heed_26 : decode cX0_heed 26 = .ok (.istore 5, 2) := by decide +kernel
theorem dX0_heed_28 : decode cX0_heed 28 = .ok (.iload 5, 2) := by decide +kernel
theorem dX0_heed_30 : decode cX0_heed 30 = .ok (.aload_n 0, 1) := by decide +kernel
theorem dX0_heed_31 : decode cX0_heed 31 = .ok (.getfield 57, 3) := by decide +kernel
theorem dX0_heed_34 : decode cX0_heed 34 = .ok (.if_icmp .gt 53, 3) := by decide +kernel
theorem dX0_heed_37 : decode cX0_heed 37 = .ok (.aload_n 0, 1) := by decide +kernel
theorem dX0_heed_38 : decode cX0_heed 38 = .ok (.getfield 36, 3) := by decide +kernel
theorem dX0_heed_41 : decode cX0_heed 41 = .ok (.iload 4, 2) := by decide +kernel
theorem dX0_heed_43 : decode cX0_heed 43 = .ok (.aaload, 1) := by decide +kernel
theorem dX0_heed_44 : decode cX0_heed 44 = .ok (.iload 5, 2) := by decide +kernel
theorem dX0_heed_46 : decode cX0_heed 46 = .ok (.aload_n 0, 1) := by decide +kernel
theorem dX0_heed_47 : decode cX0_heed 47 = .ok (.getfield 36, 3) := by decide +kernel
theorem dX0_heed_50 : decode cX0_heed 50 = .ok (.iload 4, 2) := by decide +kernel
theorem dX0_heed_52 : decode cX0_heed 52 = .ok (.aaload, 1) := by decide +kernel
theorem dX0_heed_53 : decode cX0_heed 53 = .ok (.iload 5, 2) := by decide +kernel
theorem dX0_heed_55 : decode cX0_heed 55 = .ok (.iaload, 1) := by decide +kernel
theorem dX0_heed_56 : decode cX0_heed 56 = .ok (.aload_n 0, 1) := by decide +kernel
theorem dX0_heed_57 : decode cX0_heed 57 = .ok (.getfield 36, 3) := by decide +kernel
theorem dX0_heed_60 : decode cX0_heed 60 = .ok (.iload 4, 2) := by decide +kernel
theorem dX0_heed_62 : decode cX0_heed 62 = .ok (.aaload, 1) := by decide +kernel
theorem dX0_heed_63 : decode cX0_heed 63 = .ok (.iload_n 1, 1) := by decide +kernel
theorem dX0_heed_64 : decode cX0_heed 64 = .ok (.iaload, 1) := by decide +kernel
theorem dX0_heed_65 : decode cX0_heed 65 = .ok (.iload_n 3, 1) := by decide +kernel
theorem dX0_heed_66 : decode cX0_heed 66 = .ok (.iadd, 1) := by decide +kernel
theorem dX0_heed_67 : decode cX0_heed 67 = .ok (.aload_n 0, 1) := by decide +kernel
theorem dX0_heed_68 : decode cX0_heed 68 = .ok (.getfield 36, 3) := by decide +kernel
theorem dX0_heed_71 : decode cX0_heed 71 = .ok (.iload_n 2, 1) := by decide +kernel
theorem dX0_heed_72 : decode cX0_heed 72 = .ok (.aaload, 1) := by decide +kernel
theorem dX0_heed_73 : decode cX0_heed 73 = .ok (.iload 5, 2) := by decide +kernel
theorem dX0_heed_75 : decode cX0_heed 75 = .ok (.iaload, 1) := by decide +kernel
theorem dX0_heed_76 : decode cX0_heed 76 = .ok (.iadd, 1) := by decide +kernel
theorem dX0_heed_77 : decode cX0_heed 77 = .ok (.invokestatic 206, 3) := by decide +kernel
theorem dX0_heed_80 : decode cX0_heed 80 = .ok (.iastore, 1) := by decide +kernel
theorem dX0_heed_81 : decode cX0_heed 81 = .ok (.iinc 5 1, 3) := by decide +kernel
theorem dX0_heed_84 : decode cX0_heed 84 = .ok (.goto (-56), 3) := by decide +kernel
theorem dX0_heed_87 : decode cX0_heed 87 = .ok (.iinc 4 1, 3) := by decide +kernel
theorem dX0_heed_90 : decode cX0_heed 90 = .ok (.goto (-74), 3) := by decide +kernel
theorem dX0_heed_93 : decode cX0_heed 93 = .ok (.return_, 1) := by decide +kernel
theorem dX0_least_0 : decode cX0_least 0 = .ok (.aload_n 0, 1) := by decide +kernel
theorem dX0_least_1 : decode cX0_least 1 = .ok (.getfield 36, 3) := by decide +kernel
theorem dX0_least_4 : decode cX0_least 4 = .ok (.iload_n 2, 1) := by decide +kernel
theorem dX0_least_5 : decode cX0_least 5 = .ok (.iconst 1, 1) := by decide +kernel
theorem dX0_least_6 : decode cX0_least 6 = .ok (.iadd, 1) := by decide +kernel
theorem dX0_least_7 : decode cX0_least 7 = .ok (.aaload, 1) := by decide +kernel
theorem dX0_least_8 : decode cX0_least 8 = .ok (.iload_n 1, 1) := by decide +kernel
theorem dX0_least_9 : decode cX0_least 9 = .ok (.iaload, 1) := by decide +kernel
theorem dX0_least_10 : decode cX0_least 10 = .ok (.ineg, 1) := by decide +kernel
theorem dX0_least_11 : decode cX0_least 11 = .ok (.ireturn, 1) := by decide +kernel
theorem dX0_greatest_0 : decode cX0_greatest 0 = .ok (.aload_n 0, 1) := by decide +kernel
theorem dX0_greatest_1 : decode cX0_greatest 1 = .ok (.getfield 36, 3) := by decide +kernel
theorem dX0_greatest_4 : decode cX0_greatest 4 = .ok (.iload_n 1, 1) := by decide +kernel
theorem dX0_greatest_5 : decode cX0_greatest 5 = .ok (.aaload, 1) := by decide +kernel
theorem dX0_greatest_6 : decode cX0_greatest 6 = .ok (.iload_n 2, 1) := by decide +kernel
theorem dX0_greatest_7 : decode cX0_greatest 7 = .ok (.iconst 1, 1) := by decide +kernel
theorem dX0_greatest_8 : decode cX0_greatest 8 = .ok (.iadd, 1) := by decide +kernel
theorem dX0_greatest_9 : decode cX0_greatest 9 = .ok (.iaload, 1) := by decide +kernel
theorem dX0_greatest_10 : decode cX0_greatest 10 = .ok (.ireturn, 1) := by decide +kernel
set_option maxRecDepth 20000 in
theorem ggX0_countSurelyDry_X0_greatest : GoodIn wsX0_countSurelyDry wsX0_greatest := goodIn_r _ [6, 7, 13, 14, 15, 16, 17, 18, 19, 20, 21, 22, 23, 24, 25, 26, 27] (by decide +kernel) (by decide +kernel)
set_option maxRecDepth 20000 in
theorem gX0_countSurelyDry_X0_greatest : GoodIn wsX0_countSurelyDry (wsV RX0 145 RX0 yX0_greatest wsX0_greatest) := goodIn_app (goodIn_of _ (by decide +kernel)) ggX0_countSurelyDry_X0_greatest
set_option maxRecDepth 20000 in
theorem ggX0_countSurelyDry_X0_isDamp : GoodIn wsX0_countSurelyDry wsX0_isDamp := goodIn_r _ [11, 12, 13, 14, 15, 16, 17, 18, 19, 20, 21, 22, 23, 24, 25, 26, 27] (by decide +kernel) (by decide +kernel)
set_option maxRecDepth 20000 in
theorem gX0_countSurelyDry_X0_isDamp : GoodIn wsX0_countSurelyDry (wsV RX0 131 RX0 yX0_isDamp wsX0_isDamp) := goodIn_app (goodIn_of _ (by decide +kernel)) ggX0_countSurelyDry_X0_isDamp
theorem dX0_countSurelyDry_0 : decode cX0_countSurelyDry 0 = .ok (.iconst 0, 1) := by decide +kernel
theorem dX0_countSurelyDry_1 : decode cX0_countSurelyDry 1 = .ok (.istore_n 1, 1) := by decide +kernel
theorem dX0_countSurelyDry_2 : decode cX0_countSurelyDry 2 = .ok (.iconst 0, 1) := by decide +kernel
theorem dX0_countSurelyDry_3 : decode cX0_countSurelyDry 3 = .ok (.istore_n 2, 1) := by decide +kernel
theorem dX0_countSurelyDry_4 : decode cX0_countSurelyDry 4 = .ok (.iload_n 2, 1) := by decide +kernel
theorem dX0_countSurelyDry_5 : decode cX0_countSurelyDry 5 = .ok (.aload_n 0, 1) := by decide +kernel
theorem dX0_countSurelyDry_6 : decode cX0_countSurelyDry 6 = .ok (.getfield 57, 3) := by decide +kernel
theorem dX0_countSurelyDry_9 : decode cX0_countSurelyDry 9 = .ok (.if_icmp .ge 25, 3) := by decide +kernel
theorem dX0_countSurelyDry_12 : decode cX0_countSurelyDry 12 = .ok (.aload_n 0, 1) := by decide +kernel
theorem dX0_countSurelyDry_13 : decode cX0_countSurelyDry 13 = .ok (.aload_n 0, 1) := by decide +kernel
theorem dX0_countSurelyDry_14 : decode cX0_countSurelyDry 14 = .ok (.iload_n 2, 1) := by decide +kernel
theorem dX0_countSurelyDry_15 : decode cX0_countSurelyDry 15 = .ok (.iload_n 2, 1) := by decide +kernel
theorem dX0_countSurelyDry_16 : decode cX0_countSurelyDry 16 = .ok (.invokevirtual 145, 3) := by decide +kernel
theorem dX0_countSurelyDry_19 : decode cX0_countSurelyDry 19 = .ok (.invokevirtual 131, 3) := by decide +kernel
theorem dX0_countSurelyDry_22 : decode cX0_countSurelyDry 22 = .ok (.ifCond .ne 6, 3) := by decide +kernel
theorem dX0_countSurelyDry_25 : decode cX0_countSurelyDry 25 = .ok (.iinc 1 1, 3) := by decide +kernel
theorem dX0_countSurelyDry_28 : decode cX0_countSurelyDry 28 = .ok (.iinc 2 1, 3) := by decide +kernel
theorem dX0_countSurelyDry_31 : decode cX0_countSurelyDry 31 = .ok (.goto (-27), 3) := by decide +kernel
theorem dX0_countSurelyDry_34 : decode cX0_countSurelyDry 34 = .ok (.iload_n 1, 1) := by decide +kernel
theorem dX0_countSurelyDry_35 : decode cX0_countSurelyDry 35 = .ok (.ireturn, 1) := by decide +kernel
set_option maxRecDepth 20000 in
theorem ggX0_countSurelyDamp_X0_least : GoodIn wsX0_countSurelyDamp wsX0_least := goodIn_r _ [6, 7, 13, 14, 15, 16, 17, 18, 19, 20, 21, 22, 23, 24, 25, 26, 27] (by decide +kernel) (by decide +kernel)
set_option maxRecDepth 20000 in
theorem gX0_countSurelyDamp_X0_least : GoodIn wsX0_countSurelyDamp (wsV RX0 142 RX0 yX0_least wsX0_least) := goodIn_app (goodIn_of _ (by decide +kernel)) ggX0_countSurelyDamp_X0_least
set_option maxRecDepth 20000 in
theorem ggX0_countSurelyDamp_X0_isDamp : GoodIn wsX0_countSurelyDamp wsX0_isDamp := goodIn_r _ [11, 12, 13, 14, 15, 16, 17, 18, 19, 20, 21, 22, 23, 24, 25, 26, 27] (by decide +kernel) (by decide +kernel)
set_option maxRecDepth 20000 in
theorem gX0_countSurelyDamp_X0_isDamp : GoodIn wsX0_countSurelyDamp (wsV RX0 131 RX0 yX0_isDamp wsX0_isDamp) := goodIn_app (goodIn_of _ (by decide +kernel)) ggX0_countSurelyDamp_X0_isDamp
theorem dX0_countSurelyDamp_0 : decode cX0_countSurelyDamp 0 = .ok (.iconst 0, 1) := by decide +kernel
theorem dX0_countSurelyDamp_1 : decode cX0_countSurelyDamp 1 = .ok (.istore_n 1, 1) := by decide +kernel
theorem dX0_countSurelyDamp_2 : decode cX0_countSurelyDamp 2 = .ok (.iconst 0, 1) := by decide +kernel
theorem dX0_countSurelyDamp_3 : decode cX0_countSurelyDamp 3 = .ok (.istore_n 2, 1) := by decide +kernel
theorem dX0_countSurelyDamp_4 : decode cX0_countSurelyDamp 4 = .ok (.iload_n 2, 1) := by decide +kernel
theorem dX0_countSurelyDamp_5 : decode cX0_countSurelyDamp 5 = .ok (.aload_n 0, 1) := by decide +kernel
theorem dX0_countSurelyDamp_6 : decode cX0_countSurelyDamp 6 = .ok (.getfield 57, 3) := by decide +kernel
theorem dX0_countSurelyDamp_9 : decode cX0_countSurelyDamp 9 = .ok (.if_icmp .ge 25, 3) := by decide +kernel
theorem dX0_countSurelyDamp_12 : decode cX0_countSurelyDamp 12 = .ok (.aload_n 0, 1) := by decide +kernel
theorem dX0_countSurelyDamp_13 : decode cX0_countSurelyDamp 13 = .ok (.aload_n 0, 1) := by decide +kernel
theorem dX0_countSurelyDamp_14 : decode cX0_countSurelyDamp 14 = .ok (.iload_n 2, 1) := by decide +kernel
theorem dX0_countSurelyDamp_15 : decode cX0_countSurelyDamp 15 = .ok (.iload_n 2, 1) := by decide +kernel
theorem dX0_countSurelyDamp_16 : decode cX0_countSurelyDamp 16 = .ok (.invokevirtual 142, 3) := by decide +kernel
theorem dX0_countSurelyDamp_19 : decode cX0_countSurelyDamp 19 = .ok (.invokevirtual 131, 3) := by decide +kernel
theorem dX0_countSurelyDamp_22 : decode cX0_countSurelyDamp 22 = .ok (.ifCond .eq 6, 3) := by decide +kernel
theorem dX0_countSurelyDamp_25 : decode cX0_countSurelyDamp 25 = .ok (.iinc 1 1, 3) := by decide +kernel
theorem dX0_countSurelyDamp_28 : decode cX0_countSurelyDamp 28 = .ok (.iinc 2 1, 3) := by decide +kernel
theorem dX0_countSurelyDamp_31 : decode cX0_countSurelyDamp 31 = .ok (.goto (-27), 3) := by decide +kernel
theorem dX0_countSurelyDamp_34 : decode cX0_countSurelyDamp 34 = .ok (.iload_n 1, 1) := by decide +kernel
theorem dX0_countSurelyDamp_35 : decode cX0_countSurelyDamp 35 = .ok (.ireturn, 1) := by decide +kernel
set_option maxRecDepth 20000 in
theorem ggX0_doubtNow_X0_greatest : GoodIn wsX0_doubtNow wsX0_greatest := goodIn_r _ [6, 7, 12, 13, 14, 15, 16, 17, 18, 19, 20, 21, 22, 23, 24, 25, 26] (by decide +kernel) (by decide +kernel)
set_option maxRecDepth 20000 in
theorem gX0_doubtNow_X0_greatest : GoodIn wsX0_doubtNow (wsV RX0 145 RX0 yX0_greatest wsX0_greatest) := goodIn_app (goodIn_of _ (by decide +kernel)) ggX0_doubtNow_X0_greatest
set_option maxRecDepth 20000 in
theorem ggX0_doubtNow_X0_least : GoodIn wsX0_doubtNow wsX0_least := goodIn_r _ [11, 7, 12, 13, 14, 15, 16, 17, 18, 19, 20, 21, 22, 23, 24, 25, 26] (by decide +kernel) (by decide +kernel)
set_option maxRecDepth 20000 in
theorem gX0_doubtNow_X0_least : GoodIn wsX0_doubtNow (wsV RX0 142 RX0 yX0_least wsX0_least) := goodIn_app (goodIn_of _ (by decide +kernel)) ggX0_doubtNow_X0_least
theorem dX0_doubtNow_0 : decode cX0_doubtNow 0 = .ok (.iconst 0, 1) := by decide +kernel
theorem dX0_doubtNow_1 : decode cX0_doubtNow 1 = .ok (.istore_n 1, 1) := by decide +kernel
theorem dX0_doubtNow_2 : decode cX0_doubtNow 2 = .ok (.iconst 0, 1) := by decide +kernel
theorem dX0_doubtNow_3 : decode cX0_doubtNow 3 = .ok (.istore_n 2, 1) := by decide +kernel
theorem dX0_doubtNow_4 : decode cX0_doubtNow 4 = .ok (.iload_n 2, 1) := by decide +kernel
theorem dX0_doubtNow_5 : decode cX0_doubtNow 5 = .ok (.aload_n 0, 1) := by decide +kernel
theorem dX0_doubtNow_6 : decode cX0_doubtNow 6 = .ok (.getfield 57, 3) := by decide +kernel
theorem dX0_doubtNow_9 : decode cX0_doubtNow 9 = .ok (.if_icmp .ge 25, 3) := by decide +kernel
theorem dX0_doubtNow_12 : decode cX0_doubtNow 12 = .ok (.iload_n 1, 1) := by decide +kernel
theorem dX0_doubtNow_13 : decode cX0_doubtNow 13 = .ok (.aload_n 0, 1) := by decide +kernel
theorem dX0_doubtNow_14 : decode cX0_doubtNow 14 = .ok (.iload_n 2, 1) := by decide +kernel
theorem dX0_doubtNow_15 : decode cX0_doubtNow 15 = .ok (.iload_n 2, 1) := by decide +kernel
theorem dX0_doubtNow_16 : decode cX0_doubtNow 16 = .ok (.invokevirtual 145, 3) := by decide +kernel
theorem dX0_doubtNow_19 : decode cX0_doubtNow 19 = .ok (.aload_n 0, 1) := by decide +kernel
theorem dX0_doubtNow_20 : decode cX0_doubtNow 20 = .ok (.iload_n 2, 1) := by decide +kernel
theorem dX0_doubtNow_21 : decode cX0_doubtNow 21 = .ok (.iload_n 2, 1) := by decide +kernel
theorem dX0_doubtNow_22 : decode cX0_doubtNow 22 = .ok (.invokevirtual 142, 3) := by decide +kernel
theorem dX0_doubtNow_25 : decode cX0_doubtNow 25 = .ok (.isub, 1) := by decide +kernel
theorem dX0_doubtNow_26 : decode cX0_doubtNow 26 = .ok (.iadd, 1) := by decide +kernel
theorem dX0_doubtNow_27 : decode cX0_doubtNow 27 = .ok (.istore_n 1, 1) := by decide +kernel
theorem dX0_doubtNow_28 : decode cX0_doubtNow 28 = .ok (.iinc 2 1, 3) := by decide +kernel
theorem dX0_doubtNow_31 : decode cX0_doubtNow 31 = .ok (.goto (-27), 3) := by decide +kernel
theorem dX0_doubtNow_34 : decode cX0_doubtNow 34 = .ok (.iload_n 1, 1) := by decide +kernel
theorem dX0_doubtNow_35 : decode cX0_doubtNow 35 = .ok (.ireturn, 1) := by decide +kernel
set_option maxRecDepth 20000 in
theorem ggX0_doubtIfDrawn_X0_sumNow : GoodIn wsX0_doubtIfDrawn wsX0_sumNow := goodIn_r _ [6, 7, 17, 18, 19, 20, 21, 22, 23, 24, 25, 26, 27, 28, 29, 30, 31] (by decide +kernel) (by decide +kernel)
set_option maxRecDepth 20000 in
theorem gX0_doubtIfDrawn_X0_sumNow : GoodIn wsX0_doubtIfDrawn (wsV RX0 113 RX0 yX0_sumNow wsX0_sumNow) := goodIn_app (goodIn_of _ (by decide +kernel)) ggX0_doubtIfDrawn_X0_sumNow
set_option maxRecDepth 20000 in
theorem ggX0_doubtIfDrawn_X0_mostIfTold : GoodIn wsX0_doubtIfDrawn wsX0_mostIfTold := goodIn_r _ [11, 12, 13, 14, 15, 16, 17, 18, 19, 20, 21, 22, 23, 24, 25, 26, 27, 28, 29, 30, 31] (by decide +kernel) (by decide +kernel)
set_option maxRecDepth 20000 in
theorem gX0_doubtIfDrawn_X0_mostIfTold : GoodIn wsX0_doubtIfDrawn (wsV RX0 211 RX0 yX0_mostIfTold wsX0_mostIfTold) := goodIn_app (goodIn_of _ (by decide +kernel)) ggX0_doubtIfDrawn_X0_mostIfTold
theorem dX0_doubtIfDrawn_0 : decode cX0_doubtIfDrawn 0 = .ok (.aload_n 0, 1) := by decide +kernel
theorem dX0_doubtIfDrawn_1 : decode cX0_doubtIfDrawn 1 = .ok (.iload_n 1, 1) := by decide +kernel
theorem dX0_doubtIfDrawn_2 : decode cX0_doubtIfDrawn 2 = .ok (.iload_n 2, 1) := by decide +kernel
theorem dX0_doubtIfDrawn_3 : decode cX0_doubtIfDrawn 3 = .ok (.invokevirtual 113, 3) := by decide +kernel
theorem dX0_doubtIfDrawn_6 : decode cX0_doubtIfDrawn 6 = .ok (.istore_n 3, 1) := by decide +kernel
theorem dX0_doubtIfDrawn_7 : decode cX0_doubtIfDrawn 7 = .ok (.iconst 0, 1) := by decide +kernel
theorem dX0_doubtIfDrawn_8 : decode cX0_doubtIfDrawn 8 = .ok (.istore 4, 2) := by decide +kernel
theorem dX0_doubtIfDrawn_10 : decode cX0_doubtIfDrawn 10 = .ok (.iconst 0, 1) := by decide +kernel
theorem dX0_doubtIfDrawn_11 : decode cX0_doubtIfDrawn 11 = .ok (.istore 5, 2) := by decide +kernel
theorem dX0_doubtIfDrawn_13 : decode cX0_doubtIfDrawn 13 = .ok (.iload 5, 2) := by decide +kernel
theorem dX0_doubtIfDrawn_15 : decode cX0_doubtIfDrawn 15 = .ok (.aload_n 0, 1) := by decide +kernel
theorem dX0_doubtIfDrawn_16 : decode cX0_doubtIfDrawn 16 = .ok (.getfield 57, 3) := by decide +kernel
theorem dX0_doubtIfDrawn_19 : decode cX0_doubtIfDrawn 19 = .ok (.if_icmp .ge 45, 3) := by decide +kernel
theorem dX0_doubtIfDrawn_22 : decode cX0_doubtIfDrawn 22 = .ok (.iload 4, 2) := by decide +kernel
theorem dX0_doubtIfDrawn_24 : decode cX0_doubtIfDrawn 24 = .ok (.aload_n 0, 1) := by decide +kernel
theorem dX0_doubtIfDrawn_25 : decode cX0_doubtIfDrawn 25 = .ok (.iload 5, 2) := by decide +kernel
theorem dX0_doubtIfDrawn_27 : decode cX0_doubtIfDrawn 27 = .ok (.iload 5, 2) := by decide +kernel
theorem dX0_doubtIfDrawn_29 : decode cX0_doubtIfDrawn 29 = .ok (.iconst 1, 1) := by decide +kernel
theorem dX0_doubtIfDrawn_30 : decode cX0_doubtIfDrawn 30 = .ok (.iadd, 1) := by decide +kernel
theorem dX0_doubtIfDrawn_31 : decode cX0_doubtIfDrawn 31 = .ok (.iload_n 1, 1) := by decide +kernel
theorem dX0_doubtIfDrawn_32 : decode cX0_doubtIfDrawn 32 = .ok (.iload_n 2, 1) := by decide +kernel
theorem dX0_doubtIfDrawn_33 : decode cX0_doubtIfDrawn 33 = .ok (.iconst 1, 1) := by decide +kernel
theorem dX0_doubtIfDrawn_34 : decode cX0_doubtIfDrawn 34 = .ok (.iadd, 1) := by decide +kernel
theorem dX0_doubtIfDrawn_35 : decode cX0_doubtIfDrawn 35 = .ok (.iload_n 3, 1) := by decide +kernel
theorem dX0_doubtIfDrawn_36 : decode cX0_doubtIfDrawn 36 = .ok (.invokevirtual 211, 3) := by decide +kernel
theorem dX0_doubtIfDrawn_39 : decode cX0_doubtIfDrawn 39 = .ok (.aload_n 0, 1) := by decide +kernel
theorem dX0_doubtIfDrawn_40 : decode cX0_doubtIfDrawn 40 = .ok (.iload 5, 2) := by decide +kernel
theorem dX0_doubtIfDrawn_42 : decode cX0_doubtIfDrawn 42 = .ok (.iconst 1, 1) := by decide +kernel
theorem dX0_doubtIfDrawn_43 : decode cX0_doubtIfDrawn 43 = .ok (.iadd, 1) := by decide +kernel
theorem dX0_doubtIfDrawn_44 : decode cX0_doubtIfDrawn 44 = .ok (.iload 5, 2) := by decide +kernel
theorem dX0_doubtIfDrawn_46 : decode cX0_doubtIfDrawn 46 = .ok (.iload_n 1, 1) := by decide +kernel
theorem dX0_doubtIfDrawn_47 : decode cX0_doubtIfDrawn 47 = .ok (.iload_n 2, 1) := by decide +kernel
theorem dX0_doubtIfDrawn_48 : decode cX0_doubtIfDrawn 48 = .ok (.iconst 1, 1) := by decide +kernel
theorem dX0_doubtIfDrawn_49 : decode cX0_doubtIfDrawn 49 = .ok (.iadd, 1) := by decide +kernel
theorem dX0_doubtIfDrawn_50 : decode cX0_doubtIfDrawn 50 = .ok (.iload_n 3, 1) := by decide +kernel
theorem dX0_doubtIfDrawn_51 : decode cX0_doubtIfDrawn 51 = .ok (.invokevirtual 211, 3) := by decide +kernel
theorem dX0_doubtIfDrawn_54 : decode cX0_doubtIfDrawn 54 = .ok (.iadd, 1) := by decide +kernel
theorem dX0_doubtIfDrawn_55 : decode cX0_doubtIfDrawn 55 = .ok (.iadd, 1) := by decide +kernel
theorem dX0_doubtIfDrawn_56 : decode cX0_doubtIfDrawn 56 = .ok (.istore 4, 2) := by decide +kernel
theorem dX0_doubtIfDrawn_58 : decode cX0_doubtIfDrawn 58 = .ok (.iinc 5 1, 3) := by decide +kernel
theorem dX0_doubtIfDrawn_61 : decode cX0_doubtIfDrawn 61 = .ok (.goto (-48), 3) := by decide +kernel
theorem dX0_doubtIfDrawn_64 : decode cX0_doubtIfDrawn 64 = .ok (.iload 4, 2) := by decide +kernel
theorem dX0_doubtIfDrawn_66 : decode cX0_doubtIfDrawn 66 = .ok (.ireturn, 1) := by decide +kernel
theorem dX0_mostIfTold_0 : decode cX0_mostIfTold 0 = .ok (.aload_n 0, 1) := by decide +kernel
theorem dX0_mostIfTold_1 : decode cX0_mostIfTold 1 = .ok (.getfield 36, 3) := by decide +kernel
theorem dX0_mostIfTold_4 : decode cX0_mostIfTold 4 = .ok (.iload_n 1, 1) := by decide +kernel
theorem dX0_mostIfTold_5 : decode cX0_mostIfTold 5 = .ok (.aaload, 1) := by decide +kernel
theorem dX0_mostIfTold_6 : decode cX0_mostIfTold 6 = .ok (.iload_n 3, 1) := by decide +kernel
theorem dX0_mostIfTold_7 : decode cX0_mostIfTold 7 = .ok (.iaload, 1) := by decide +kernel
theorem dX0_mostIfTold_8 : decode cX0_mostIfTold 8 = .ok (.iload 5, 2) := by decide +kernel
theorem dX0_mostIfTold_10 : decode cX0_mostIfTold 10 = .ok (.iadd, 1) := by decide +kernel
theorem dX0_mostIfTold_11 : decode cX0_mostIfTold 11 = .ok (.aload_n 0, 1) := by decide +kernel
theorem dX0_mostIfTold_12 : decode cX0_mostIfTold 12 = .ok (.getfield 36, 3) := by decide +kernel
theorem dX0_mostIfTold_15 : decode cX0_mostIfTold 15 = .ok (.iload 4, 2) := by decide +kernel
theorem dX0_mostIfTold_17 : decode cX0_mostIfTold 17 = .ok (.aaload, 1) := by decide +kernel
theorem dX0_mostIfTold_18 : decode cX0_mostIfTold 18 = .ok (.iload_n 2, 1) := by decide +kernel
theorem dX0_mostIfTold_19 : decode cX0_mostIfTold 19 = .ok (.iaload, 1) := by decide +kernel
theorem dX0_mostIfTold_20 : decode cX0_mostIfTold 20 = .ok (.iadd, 1) := by decide +kernel
theorem dX0_mostIfTold_21 : decode cX0_mostIfTold 21 = .ok (.istore 6, 2) := by decide +kernel
theorem dX0_mostIfTold_23 : decode cX0_mostIfTold 23 = .ok (.aload_n 0, 1) := by decide +kernel
theorem dX0_mostIfTold_24 : decode cX0_mostIfTold 24 = .ok (.getfield 36, 3) := by decide +kernel
theorem dX0_mostIfTold_27 : decode cX0_mostIfTold 27 = .ok (.iload_n 1, 1) := by decide +kernel
theorem dX0_mostIfTold_28 : decode cX0_mostIfTold 28 = .ok (.aaload, 1) := by decide +kernel
theorem dX0_mostIfTold_29 : decode cX0_mostIfTold 29 = .ok (.iload 4, 2) := by decide +kernel
theorem dX0_mostIfTold_31 : decode cX0_mostIfTold 31 = .ok (.iaload, 1) := by decide +kernel
theorem dX0_mostIfTold_32 : decode cX0_mostIfTold 32 = .ok (.iload 5, 2) := by decide +kernel
theorem dX0_mostIfTold_34 : decode cX0_mostIfTold 34 = .ok (.isub, 1) := by decide +kernel
theorem dX0_mostIfTold_35 : decode cX0_mostIfTold 35 = .ok (.aload_n 0, 1) := by decide +kernel
theorem dX0_mostIfTold_36 : decode cX0_mostIfTold 36 = .ok (.getfield 36, 3) := by decide +kernel
theorem dX0_mostIfTold_39 : decode cX0_mostIfTold 39 = .ok (.iload_n 3, 1) := by decide +kernel
theorem dX0_mostIfTold_40 : decode cX0_mostIfTold 40 = .ok (.aaload, 1) := by decide +kernel
theorem dX0_mostIfTold_41 : decode cX0_mostIfTold 41 = .ok (.iload_n 2, 1) := by decide +kernel
theorem dX0_mostIfTold_42 : decode cX0_mostIfTold 42 = .ok (.iaload, 1) := by decide +kernel
theorem dX0_mostIfTold_43 : decode cX0_mostIfTold 43 = .ok (.iadd, 1) := by decide +kernel
theorem dX0_mostIfTold_44 : decode cX0_mostIfTold 44 = .ok (.istore 7, 2) := by decide +kernel
theorem dX0_mostIfTold_46 : decode cX0_mostIfTold 46 = .ok (.aload_n 0, 1) := by decide +kernel
theorem dX0_mostIfTold_47 : decode cX0_mostIfTold 47 = .ok (.getfield 36, 3) := by decide +kernel
theorem dX0_mostIfTold_50 : decode cX0_mostIfTold 50 = .ok (.iload_n 1, 1) := by decide +kernel
theorem dX0_mostIfTold_51 : decode cX0_mostIfTold 51 = .ok (.aaload, 1) := by decide +kernel
theorem dX0_mostIfTold_52 : decode cX0_mostIfTold 52 = .ok (.iload_n 2, 1) := by decide +kernel
theorem dX0_mostIfTold_53 : decode cX0_mostIfTold 53 = .ok (.iaload, 1) := by decide +kernel
theorem dX0_mostIfTold_54 : decode cX0_mostIfTold 54 = .ok (.iload 6, 2) := by decide +kernel
theorem dX0_mostIfTold_56 : decode cX0_mostIfTold 56 = .ok (.iload 7, 2) := by decide +kernel
theorem dX0_mostIfTold_58 : decode cX0_mostIfTold 58 = .ok (.invokestatic 206, 3) := by decide +kernel
theorem dX0_mostIfTold_61 : decode cX0_mostIfTold 61 = .ok (.invokestatic 206, 3) := by decide +kernel
theorem dX0_mostIfTold_64 : decode cX0_mostIfTold 64 = .ok (.ireturn, 1) := by decide +kernel
theorem dX0_digestOf_0 : decode cX0_digestOf 0 = .ok (.lload_n 0, 1) := by decide +kernel
theorem dX0_digestOf_1 : decode cX0_digestOf 1 = .ok (.ldc2_w 215, 3) := by decide +kernel
theorem dX0_digestOf_4 : decode cX0_digestOf 4 = .ok (.lmul, 1) := by decide +kernel
theorem dX0_digestOf_5 : decode cX0_digestOf 5 = .ok (.lload_n 2, 1) := by decide +kernel
theorem dX0_digestOf_6 : decode cX0_digestOf 6 = .ok (.ladd, 1) := by decide +kernel
theorem dX0_digestOf_7 : decode cX0_digestOf 7 = .ok (.lreturn, 1) := by decide +kernel
set_option maxRecDepth 20000 in
theorem ggX0_digestOfLayers_X0_digestOf : GoodIn wsX0_digestOfLayers wsX0_digestOf := goodIn_r _ [7, 8] (by decide +kernel) (by decide +kernel)
set_option maxRecDepth 20000 in
theorem gX0_digestOfLayers_X0_digestOf : GoodIn wsX0_digestOfLayers (va_wsS RX0 173 yX0_digestOf wsX0_digestOf) := goodIn_app (goodIn_of _ (by decide +kernel)) ggX0_digestOfLayers_X0_digestOf
set_option maxRecDepth 20000 in
theorem ggX0_digestOfLayers_X0_least : GoodIn wsX0_digestOfLayers wsX0_least := goodIn_r _ [12, 13, 18, 19, 20, 21, 22, 23, 24, 25, 26, 27, 28, 29, 30, 31, 32] (by decide +kernel) (by decide +kernel)
set_option maxRecDepth 20000 in
theorem gX0_digestOfLayers_X0_least : GoodIn wsX0_digestOfLayers (wsV RX0 142 RX0 yX0_least wsX0_least) := goodIn_app (goodIn_of _ (by decide +kernel)) ggX0_digestOfLayers_X0_least
set_option maxRecDepth 20000 in
theorem ggX0_digestOfLayers_X0_greatest : GoodIn wsX0_digestOfLayers wsX0_greatest := goodIn_r _ [17, 13, 18, 19, 20, 21, 22, 23, 24, 25, 26, 27, 28, 29, 30, 31, 32] (by decide +kernel) (by decide +kernel)
set_option maxRecDepth 20000 in
theorem gX0_digestOfLayers_X0_greatest : GoodIn wsX0_digestOfLayers (wsV RX0 145 RX0 yX0_greatest wsX0_greatest) := goodIn_app (goodIn_of _ (by decide +kernel)) ggX0_digestOfLayers_X0_greatest
theorem dX0_digestOfLayers_0 : decode cX0_digestOfLayers 0 = .ok (.lload_n 1, 1) := by decide +kernel
theorem dX0_digestOfLayers_1 : decode cX0_digestOfLayers 1 = .ok (.lstore_n 3, 1) := by decide +kernel
theorem dX0_digestOfLayers_2 : decode cX0_digestOfLayers 2 = .ok (.iconst 0, 1) := by decide +kernel
theorem dX0_digestOfLayers_3 : decode cX0_digestOfLayers 3 = .ok (.istore 5, 2) := by decide +kernel
theorem dX0_digestOfLayers_5 : decode cX0_digestOfLayers 5 = .ok (.iload 5, 2) := by decide +kernel
theorem dX0_digestOfLayers_7 : decode cX0_digestOfLayers 7 = .ok (.aload_n 0, 1) := by decide +kernel
theorem dX0_digestOfLayers_8 : decode cX0_digestOfLayers 8 = .ok (.getfield 57, 3) := by decide +kernel
theorem dX0_digestOfLayers_11 : decode cX0_digestOfLayers 11 = .ok (.if_icmp .ge 63, 3) := by decide +kernel
theorem dX0_digestOfLayers_14 : decode cX0_digestOfLayers 14 = .ok (.lload_n 3, 1) := by decide +kernel
theorem dX0_digestOfLayers_15 : decode cX0_digestOfLayers 15 = .ok (.aload_n 0, 1) := by decide +kernel
theorem dX0_digestOfLayers_16 : decode cX0_digestOfLayers 16 = .ok (.getfield 9, 3) := by decide +kernel
theorem dX0_digestOfLayers_19 : decode cX0_digestOfLayers 19 = .ok (.iload 5, 2) := by decide +kernel
theorem dX0_digestOfLayers_21 : decode cX0_digestOfLayers 21 = .ok (.iaload, 1) := by decide +kernel
theorem dX0_digestOfLayers_22 : decode cX0_digestOfLayers 22 = .ok (.i2l, 1) := by decide +kernel
theorem dX0_digestOfLayers_23 : decode cX0_digestOfLayers 23 = .ok (.invokestatic 173, 3) := by decide +kernel
theorem dX0_digestOfLayers_26 : decode cX0_digestOfLayers 26 = .ok (.lstore_n 3, 1) := by decide +kernel
theorem dX0_digestOfLayers_27 : decode cX0_digestOfLayers 27 = .ok (.lload_n 3, 1) := by decide +kernel
theorem dX0_digestOfLayers_28 : decode cX0_digestOfLayers 28 = .ok (.aload_n 0, 1) := by decide +kernel
theorem dX0_digestOfLayers_29 : decode cX0_digestOfLayers 29 = .ok (.getfield 13, 3) := by decide +kernel
theorem dX0_digestOfLayers_32 : decode cX0_digestOfLayers 32 = .ok (.iload 5, 2) := by decide +kernel
theorem dX0_digestOfLayers_34 : decode cX0_digestOfLayers 34 = .ok (.iaload, 1) := by decide +kernel
theorem dX0_digestOfLayers_35 : decode cX0_digestOfLayers 35 = .ok (.i2l, 1) := by decide +kernel
theorem dX0_digestOfLayers_36 : decode cX0_digestOfLayers 36 = .ok (.invokestatic 173, 3) := by decide +kernel
theorem dX0_digestOfLayers_39 : decode cX0_digestOfLayers 39 = .ok (.lstore_n 3, 1) := by decide +kernel
theorem dX0_digestOfLayers_40 : decode cX0_digestOfLayers 40 = .ok (.lload_n 3, 1) := by decide +kernel
theorem dX0_digestOfLayers_41 : decode cX0_digestOfLayers 41 = .ok (.aload_n 0, 1) := by decide +kernel
theorem dX0_digestOfLayers_42 : decode cX0_digestOfLayers 42 = .ok (.iload 5, 2) := by decide +kernel
theorem dX0_digestOfLayers_44 : decode cX0_digestOfLayers 44 = .ok (.iload 5, 2) := by decide +kernel
theorem dX0_digestOfLayers_46 : decode cX0_digestOfLayers 46 = .ok (.invokevirtual 142, 3) := by decide +kernel
theorem dX0_digestOfLayers_49 : decode cX0_digestOfLayers 49 = .ok (.i2l, 1) := by decide +kernel
theorem dX0_digestOfLayers_50 : decode cX0_digestOfLayers 50 = .ok (.invokestatic 173, 3) := by decide +kernel
theorem dX0_digestOfLayers_53 : decode cX0_digestOfLayers 53 = .ok (.lstore_n 3, 1) := by decide +kernel
theorem dX0_digestOfLayers_54 : decode cX0_digestOfLayers 54 = .ok (.lload_n 3, 1) := by decide +kernel
theorem dX0_digestOfLayers_55 : decode cX0_digestOfLayers 55 = .ok (.aload_n 0, 1) := by decide +kernel
theorem dX0_digestOfLayers_56 : decode cX0_digestOfLayers 56 = .ok (.iload 5, 2) := by decide +kernel
theorem dX0_digestOfLayers_58 : decode cX0_digestOfLayers 58 = .ok (.iload 5, 2) := by decide +kernel
theorem dX0_digestOfLayers_60 : decode cX0_digestOfLayers 60 = .ok (.invokevirtual 145, 3) := by decide +kernel
theorem dX0_digestOfLayers_63 : decode cX0_digestOfLayers 63 = .ok (.i2l, 1) := by decide +kernel
theorem dX0_digestOfLayers_64 : decode cX0_digestOfLayers 64 = .ok (.invokestatic 173, 3) := by decide +kernel
theorem dX0_digestOfLayers_67 : decode cX0_digestOfLayers 67 = .ok (.lstore_n 3, 1) := by decide +kernel
theorem dX0_digestOfLayers_68 : decode cX0_digestOfLayers 68 = .ok (.iinc 5 1, 3) := by decide +kernel
theorem dX0_digestOfLayers_71 : decode cX0_digestOfLayers 71 = .ok (.goto (-66), 3) := by decide +kernel
theorem dX0_digestOfLayers_74 : decode cX0_digestOfLayers 74 = .ok (.lload_n 3, 1) := by decide +kernel
theorem dX0_digestOfLayers_75 : decode cX0_digestOfLayers 75 = .ok (.lreturn, 1) := by decide +kernel
set_option maxRecDepth 20000 in
theorem ggX0_digestOfSamples_X0_digestOf : GoodIn wsX0_digestOfSamples wsX0_digestOf := goodIn_r _ [9, 10] (by decide +kernel) (by decide +kernel)
set_option maxRecDepth 20000 in
theorem gX0_digestOfSamples_X0_digestOf : GoodIn wsX0_digestOfSamples (va_wsS RX0 173 yX0_digestOf wsX0_digestOf) := goodIn_app (goodIn_of _ (by decide +kernel)) ggX0_digestOfSamples_X0_digestOf
theorem dX0_digestOfSamples_0 : decode cX0_digestOfSamples 0 = .ok (.lload_n 1, 1) := by decide +kernel
theorem dX0_digestOfSamples_1 : decode cX0_digestOfSamples 1 = .ok (.lstore_n 3, 1) := by decide +kernel
theorem dX0_digestOfSamples_2 : decode cX0_digestOfSamples 2 = .ok (.iconst 0, 1) := by decide +kernel
theorem dX0_digestOfSamples_3 : decode cX0_digestOfSamples 3 = .ok (.istore 5, 2) := by decide +kernel
theorem dX0_digestOfSamples_5 : decode cX0_digestOfSamples 5 = .ok (.iload 5, 2) := by decide +kernel
theorem dX0_digestOfSamples_7 : decode cX0_digestOfSamples 7 = .ok (.aload_n 0, 1) := by decide +kernel
theorem dX0_digestOfSamples_8 : decode cX0_digestOfSamples 8 = .ok (.getfield 86, 3) := by decide +kernel
theorem dX0_digestOfSamples_11 : decode cX0_digestOfSamples 11 = .ok (.if_icmp .ge 61, 3) := by decide +kernel
theorem dX0_digestOfSamples_14 : decode cX0_digestOfSamples 14 = .ok (.lload_n 3, 1) := by decide +kernel
theorem dX0_digestOfSamples_15 : decode cX0_digestOfSamples 15 = .ok (.aload_n 0, 1) := by decide +kernel
theorem dX0_digestOfSamples_16 : decode cX0_digestOfSamples 16 = .ok (.getfield 16, 3) := by decide +kernel
theorem dX0_digestOfSamples_19 : decode cX0_digestOfSamples 19 = .ok (.iload 5, 2) := by decide +kernel
theorem dX0_digestOfSamples_21 : decode cX0_digestOfSamples 21 = .ok (.iaload, 1) := by decide +kernel
theorem dX0_digestOfSamples_22 : decode cX0_digestOfSamples 22 = .ok (.i2l, 1) := by decide +kernel
theorem dX0_digestOfSamples_23 : decode cX0_digestOfSamples 23 = .ok (.invokestatic 173, 3) := by decide +kernel
theorem dX0_digestOfSamples_26 : decode cX0_digestOfSamples 26 = .ok (.lstore_n 3, 1) := by decide +kernel
theorem dX0_digestOfSamples_27 : decode cX0_digestOfSamples 27 = .ok (.lload_n 3, 1) := by decide +kernel
theorem dX0_digestOfSamples_28 : decode cX0_digestOfSamples 28 = .ok (.aload_n 0, 1) := by decide +kernel
theorem dX0_digestOfSamples_29 : decode cX0_digestOfSamples 29 = .ok (.getfield 19, 3) := by decide +kernel
theorem dX0_digestOfSamples_32 : decode cX0_digestOfSamples 32 = .ok (.iload 5, 2) := by decide +kernel
theorem dX0_digestOfSamples_34 : decode cX0_digestOfSamples 34 = .ok (.iaload, 1) := by decide +kernel
theorem dX0_digestOfSamples_35 : decode cX0_digestOfSamples 35 = .ok (.i2l, 1) := by decide +kernel
theorem dX0_digestOfSamples_36 : decode cX0_digestOfSamples 36 = .ok (.invokestatic 173, 3) := by decide +kernel
theorem dX0_digestOfSamples_39 : decode cX0_digestOfSamples 39 = .ok (.lstore_n 3, 1) := by decide +kernel
theorem dX0_digestOfSamples_40 : decode cX0_digestOfSamples 40 = .ok (.lload_n 3, 1) := by decide +kernel
theorem dX0_digestOfSamples_41 : decode cX0_digestOfSamples 41 = .ok (.aload_n 0, 1) := by decide +kernel
theorem dX0_digestOfSamples_42 : decode cX0_digestOfSamples 42 = .ok (.getfield 22, 3) := by decide +kernel
theorem dX0_digestOfSamples_45 : decode cX0_digestOfSamples 45 = .ok (.iload 5, 2) := by decide +kernel
theorem dX0_digestOfSamples_47 : decode cX0_digestOfSamples 47 = .ok (.iaload, 1) := by decide +kernel
theorem dX0_digestOfSamples_48 : decode cX0_digestOfSamples 48 = .ok (.i2l, 1) := by decide +kernel
theorem dX0_digestOfSamples_49 : decode cX0_digestOfSamples 49 = .ok (.invokestatic 173, 3) := by decide +kernel
theorem dX0_digestOfSamples_52 : decode cX0_digestOfSamples 52 = .ok (.lstore_n 3, 1) := by decide +kernel
theorem dX0_digestOfSamples_53 : decode cX0_digestOfSamples 53 = .ok (.lload_n 3, 1) := by decide +kernel
theorem dX0_digestOfSamples_54 : decode cX0_digestOfSamples 54 = .ok (.aload_n 0, 1) := by decide +kernel
theorem dX0_digestOfSamples_55 : decode cX0_digestOfSamples 55 = .ok (.getfield 25, 3) := by decide +kernel
theorem dX0_digestOfSamples_58 : decode cX0_digestOfSamples 58 = .ok (.iload 5, 2) := by decide +kernel
theorem dX0_digestOfSamples_60 : decode cX0_digestOfSamples 60 = .ok (.iaload, 1) := by decide +kernel
theorem dX0_digestOfSamples_61 : decode cX0_digestOfSamples 61 = .ok (.i2l, 1) := by decide +kernel
theorem dX0_digestOfSamples_62 : decode cX0_digestOfSamples 62 = .ok (.invokestatic 173, 3) := by decide +kernel
theorem dX0_digestOfSamples_65 : decode cX0_digestOfSamples 65 = .ok (.lstore_n 3, 1) := by decide +kernel
theorem dX0_digestOfSamples_66 : decode cX0_digestOfSamples 66 = .ok (.iinc 5 1, 3) := by decide +kernel
theorem dX0_digestOfSamples_69 : decode cX0_digestOfSamples 69 = .ok (.goto (-64), 3) := by decide +kernel
theorem dX0_digestOfSamples_72 : decode cX0_digestOfSamples 72 = .ok (.lload_n 3, 1) := by decide +kernel
theorem dX0_digestOfSamples_73 : decode cX0_digestOfSamples 73 = .ok (.lreturn, 1) := by decide +kernel
