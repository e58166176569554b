theorem dX7_smallestCover_15 : decode cX7_smallestCover 15 = .ok (.if_icmp .ge 22, 3) := by decide +kernel
theorem dX7_smallestCover_18 : decode cX7_smallestCover 18 = .ok (.iload 5, 2) := by decide +kernel
theorem dX7_smallestCover_20 : decode cX7_smallestCover 20 = .ok (.ifCond .le 17, 3) := by decide +kernel
theorem dX7_smallestCover_23 : decode cX7_smallestCover 23 = .ok (.lload_n 3, 1) := by decide +kernel
theorem dX7_smallestCover_24 : decode cX7_smallestCover 24 = .ok (.aload_n 1, 1) := by decide +kernel
theorem dX7_smallestCover_25 : decode cX7_smallestCover 25 = .ok (.iload_n 2, 1) := by decide +kernel
theorem dX7_smallestCover_26 : decode cX7_smallestCover 26 = .ok (.laload, 1) := by decide +kernel
theorem dX7_smallestCover_27 : decode cX7_smallestCover 27 = .ok (.ldc2_w 279, 3) := by decide +kernel
theorem dX7_smallestCover_30 : decode cX7_smallestCover 30 = .ok (.lxor, 1) := by decide +kernel
theorem dX7_smallestCover_31 : decode cX7_smallestCover 31 = .ok (.land, 1) := by decide +kernel
theorem dX7_smallestCover_32 : decode cX7_smallestCover 32 = .ok (.lconst 0, 1) := by decide +kernel
theorem dX7_smallestCover_33 : decode cX7_smallestCover 33 = .ok (.lcmp, 1) := by decide +kernel
theorem dX7_smallestCover_34 : decode cX7_smallestCover 34 = .ok (.ifCond .eq 5, 3) := by decide +kernel
theorem dX7_smallestCover_37 : decode cX7_smallestCover 37 = .ok (.iconst (-1), 1) := by decide +kernel
theorem dX7_smallestCover_38 : decode cX7_smallestCover 38 = .ok (.ireturn, 1) := by decide +kernel
theorem dX7_smallestCover_39 : decode cX7_smallestCover 39 = .ok (.aload_n 0, 1) := by decide +kernel
theorem dX7_smallestCover_40 : decode cX7_smallestCover 40 = .ok (.aload_n 1, 1) := by decide +kernel
theorem dX7_smallestCover_41 : decode cX7_smallestCover 41 = .ok (.iload_n 2, 1) := by decide +kernel
theorem dX7_smallestCover_42 : decode cX7_smallestCover 42 = .ok (.iconst 1, 1) := by decide +kernel
theorem dX7_smallestCover_43 : decode cX7_smallestCover 43 = .ok (.isub, 1) := by decide +kernel
theorem dX7_smallestCover_44 : decode cX7_smallestCover 44 = .ok (.lload_n 3, 1) := by decide +kernel
theorem dX7_smallestCover_45 : decode cX7_smallestCover 45 = .ok (.iload 5, 2) := by decide +kernel
theorem dX7_smallestCover_47 : decode cX7_smallestCover 47 = .ok (.invokestatic 225, 3) := by decide +kernel
theorem dX7_smallestCover_50 : decode cX7_smallestCover 50 = .ok (.istore 6, 2) := by decide +kernel
theorem dX7_smallestCover_52 : decode cX7_smallestCover 52 = .ok (.iload 6, 2) := by decide +kernel
theorem dX7_smallestCover_54 : decode cX7_smallestCover 54 = .ok (.ifCond .ge 13, 3) := by decide +kernel
theorem dX7_smallestCover_57 : decode cX7_smallestCover 57 = .ok (.lload_n 3, 1) := by decide +kernel
theorem dX7_smallestCover_58 : decode cX7_smallestCover 58 = .ok (.aload_n 0, 1) := by decide +kernel
theorem dX7_smallestCover_59 : decode cX7_smallestCover 59 = .ok (.iload_n 2, 1) := by decide +kernel
theorem dX7_smallestCover_60 : decode cX7_smallestCover 60 = .ok (.laload, 1) := by decide +kernel
theorem dX7_smallestCover_61 : decode cX7_smallestCover 61 = .ok (.land, 1) := by decide +kernel
theorem dX7_smallestCover_62 : decode cX7_smallestCover 62 = .ok (.lconst 0, 1) := by decide +kernel
theorem dX7_smallestCover_63 : decode cX7_smallestCover 63 = .ok (.lcmp, 1) := by decide +kernel
theorem dX7_smallestCover_64 : decode cX7_smallestCover 64 = .ok (.ifCond .ne 6, 3) := by decide +kernel
theorem dX7_smallestCover_67 : decode cX7_smallestCover 67 = .ok (.iload 6, 2) := by decide +kernel
theorem dX7_smallestCover_69 : decode cX7_smallestCover 69 = .ok (.ireturn, 1) := by decide +kernel
theorem dX7_smallestCover_70 : decode cX7_smallestCover 70 = .ok (.aload_n 0, 1) := by decide +kernel
theorem dX7_smallestCover_71 : decode cX7_smallestCover 71 = .ok (.aload_n 1, 1) := by decide +kernel
theorem dX7_smallestCover_72 : decode cX7_smallestCover 72 = .ok (.iload_n 2, 1) := by decide +kernel
theorem dX7_smallestCover_73 : decode cX7_smallestCover 73 = .ok (.iconst 1, 1) := by decide +kernel
theorem dX7_smallestCover_74 : decode cX7_smallestCover 74 = .ok (.isub, 1) := by decide +kernel
theorem dX7_smallestCover_75 : decode cX7_smallestCover 75 = .ok (.lload_n 3, 1) := by decide +kernel
theorem dX7_smallestCover_76 : decode cX7_smallestCover 76 = .ok (.aload_n 0, 1) := by decide +kernel
theorem dX7_smallestCover_77 : decode cX7_smallestCover 77 = .ok (.iload_n 2, 1) := by decide +kernel
theorem dX7_smallestCover_78 : decode cX7_smallestCover 78 = .ok (.laload, 1) := by decide +kernel
theorem dX7_smallestCover_79 : decode cX7_smallestCover 79 = .ok (.ldc2_w 279, 3) := by decide +kernel
theorem dX7_smallestCover_82 : decode cX7_smallestCover 82 = .ok (.lxor, 1) := by decide +kernel
theorem dX7_smallestCover_83 : decode cX7_smallestCover 83 = .ok (.land, 1) := by decide +kernel
theorem dX7_smallestCover_84 : decode cX7_smallestCover 84 = .ok (.iload 5, 2) := by decide +kernel
theorem dX7_smallestCover_86 : decode cX7_smallestCover 86 = .ok (.iconst 1, 1) := by decide +kernel
theorem dX7_smallestCover_87 : decode cX7_smallestCover 87 = .ok (.isub, 1) := by decide +kernel
theorem dX7_smallestCover_88 : decode cX7_smallestCover 88 = .ok (.invokestatic 225, 3) := by decide +kernel
theorem dX7_smallestCover_91 : decode cX7_smallestCover 91 = .ok (.istore 7, 2) := by decide +kernel
theorem dX7_smallestCover_93 : decode cX7_smallestCover 93 = .ok (.iload 7, 2) := by decide +kernel
theorem dX7_smallestCover_95 : decode cX7_smallestCover 95 = .ok (.ifCond .ge 7, 3) := by decide +kernel
theorem dX7_smallestCover_98 : decode cX7_smallestCover 98 = .ok (.iconst (-1), 1) := by decide +kernel
theorem dX7_smallestCover_99 : decode cX7_smallestCover 99 = .ok (.goto 9, 3) := by decide +kernel
theorem dX7_smallestCover_102 : decode cX7_smallestCover 102 = .ok (.iload 7, 2) := by decide +kernel
theorem dX7_smallestCover_104 : decode cX7_smallestCover 104 = .ok (.iconst 1, 1) := by decide +kernel
theorem dX7_smallestCover_105 : decode cX7_smallestCover 105 = .ok (.iload_n 2, 1) := by decide +kernel
theorem dX7_smallestCover_106 : decode cX7_smallestCover 106 = .ok (.ishl, 1) := by decide +kernel
theorem dX7_smallestCover_107 : decode cX7_smallestCover 107 = .ok (.ior, 1) := by decide +kernel
theorem dX7_smallestCover_108 : decode cX7_smallestCover 108 = .ok (.ireturn, 1) := by decide +kernel
set_option maxRecDepth 20000 in
theorem ggX7_listFitting_X7_refreshTestRows : GoodIn wsX7_listFitting wsX7_refreshTestRows := goodIn_r _ [8, 9, 10, 11, 1, 2, 12, 13, 14, 15, 16, 17, 18, 19, 20, 21, 22, 23, 24, 25, 26, 27, 28, 29, 30, 31, 32, 33, 34, 35, 36, 37, 38, 39, 40, 41, 42, 43, 44, 45, 46, 47, 48, 49, 50, 51, 52, 53, 54, 55, 56, 57, 58, 59, 60, 61, 62, 63, 64, 65, 66, 67, 68, 69, 70, 71, 72, 73, 74, 75, 76, 77, 78, 79, 80, 81, 93, 94, 95, 96, 97, 98, 99, 100, 101, 102, 103, 104, 107, 108, 109, 110, 111, 105, 106, 112, 113, 114, 115, 116, 117, 118, 119, 120, 121, 122, 123, 124, 125, 126, 127, 128, 129, 130, 131, 132] (by decide +kernel) (by decide +kernel)
set_option maxRecDepth 20000 in
theorem gX7_listFitting_X7_refreshTestRows : GoodIn wsX7_listFitting (wsV RX7 177 RX7 yX7_refreshTestRows wsX7_refreshTestRows) := goodIn_app (goodIn_of _ (by decide +kernel)) ggX7_listFitting_X7_refreshTestRows
set_option maxRecDepth 20000 in
theorem ggX7_listFitting_X0_faultCount : GoodIn wsX7_listFitting wsX0_faultCount := goodIn_r _ [38, 39, 40, 112, 113, 114, 115, 116, 117, 118, 119, 120, 121, 122, 123, 124, 125] (by decide +kernel) (by decide +kernel)
set_option maxRecDepth 20000 in
theorem gX7_listFitting_X0_faultCount : GoodIn wsX7_listFitting (wsV RX7 115 RX0 yX0_faultCount wsX0_faultCount) := goodIn_app (goodIn_of _ (by decide +kernel)) ggX7_listFitting_X0_faultCount
set_option maxRecDepth 20000 in
theorem ggX7_listFitting_X7_fits : GoodIn wsX7_listFitting wsX7_fits := goodIn_r _ [86, 1, 2, 87, 10, 13, 88, 89, 90, 91, 92, 65, 66, 31, 67, 68, 93, 94, 95, 96, 97, 98, 99, 100, 101, 102, 103, 104, 105, 106, 112, 113, 114, 115, 116, 117, 118, 119, 120, 121, 122, 123, 124, 125, 128, 129, 130, 131, 132, 107, 108, 109, 110, 111] (by decide +kernel) (by decide +kernel)
set_option maxRecDepth 20000 in
theorem gX7_listFitting_X7_fits : GoodIn wsX7_listFitting (wsV RX7 337 RX7 yX7_fits wsX7_fits) := goodIn_app (goodIn_of _ (by decide +kernel)) ggX7_listFitting_X7_fits
theorem dX7_listFitting_0 : decode cX7_listFitting 0 = .ok (.aload_n 0, 1) := by decide +kernel
theorem dX7_listFitting_1 : decode cX7_listFitting 1 = .ok (.invokevirtual 177, 3) := by decide +kernel
theorem dX7_listFitting_4 : decode cX7_listFitting 4 = .ok (.aload_n 0, 1) := by decide +kernel
theorem dX7_listFitting_5 : decode cX7_listFitting 5 = .ok (.getfield 19, 3) := by decide +kernel
theorem dX7_listFitting_8 : decode cX7_listFitting 8 = .ok (.getfield 97, 3) := by decide +kernel
theorem dX7_listFitting_11 : decode cX7_listFitting 11 = .ok (.invokevirtual 115, 3) := by decide +kernel
theorem dX7_listFitting_14 : decode cX7_listFitting 14 = .ok (.istore_n 1, 1) := by decide +kernel
theorem dX7_listFitting_15 : decode cX7_listFitting 15 = .ok (.iconst 0, 1) := by decide +kernel
theorem dX7_listFitting_16 : decode cX7_listFitting 16 = .ok (.istore_n 2, 1) := by decide +kernel
theorem dX7_listFitting_17 : decode cX7_listFitting 17 = .ok (.iconst (-1), 1) := by decide +kernel
theorem dX7_listFitting_18 : decode cX7_listFitting 18 = .ok (.istore_n 3, 1) := by decide +kernel
theorem dX7_listFitting_19 : decode cX7_listFitting 19 = .ok (.iload_n 3, 1) := by decide +kernel
theorem dX7_listFitting_20 : decode cX7_listFitting 20 = .ok (.iload_n 1, 1) := by decide +kernel
theorem dX7_listFitting_21 : decode cX7_listFitting 21 = .ok (.if_icmp .ge 27, 3) := by decide +kernel
theorem dX7_listFitting_24 : decode cX7_listFitting 24 = .ok (.aload_n 0, 1) := by decide +kernel
theorem dX7_listFitting_25 : decode cX7_listFitting 25 = .ok (.iload_n 3, 1) := by decide +kernel
theorem dX7_listFitting_26 : decode cX7_listFitting 26 = .ok (.invokevirtual 337, 3) := by decide +kernel
theorem dX7_listFitting_29 : decode cX7_listFitting 29 = .ok (.ifCond .eq 13, 3) := by decide +kernel
theorem dX7_listFitting_32 : decode cX7_listFitting 32 = .ok (.aload_n 0, 1) := by decide +kernel
theorem dX7_listFitting_33 : decode cX7_listFitting 33 = .ok (.getfield 49, 3) := by decide +kernel
theorem dX7_listFitting_36 : decode cX7_listFitting 36 = .ok (.iload_n 2, 1) := by decide +kernel
theorem dX7_listFitting_37 : decode cX7_listFitting 37 = .ok (.iload_n 3, 1) := by decide +kernel
theorem dX7_listFitting_38 : decode cX7_listFitting 38 = .ok (.iastore, 1) := by decide +kernel
theorem dX7_listFitting_39 : decode cX7_listFitting 39 = .ok (.iinc 2 1, 3) := by decide +kernel
theorem dX7_listFitting_42 : decode cX7_listFitting 42 = .ok (.iinc 3 1, 3) := by decide +kernel
theorem dX7_listFitting_45 : decode cX7_listFitting 45 = .ok (.goto (-26), 3) := by decide +kernel
theorem dX7_listFitting_48 : decode cX7_listFitting 48 = .ok (.iload_n 2, 1) := by decide +kernel
theorem dX7_listFitting_49 : decode cX7_listFitting 49 = .ok (.ireturn, 1) := by decide +kernel
set_option maxRecDepth 20000 in
theorem ggX7_fits_X3_rowOf : GoodIn wsX7_fits wsX3_rowOf := goodIn_r _ [14, 15, 49, 50, 51, 52, 53] (by decide +kernel) (by decide +kernel)
set_option maxRecDepth 20000 in
theorem gX7_fits_X3_rowOf : GoodIn wsX7_fits (wsV RX7 340 RX3 yX3_rowOf wsX3_rowOf) := goodIn_app (goodIn_of _ (by decide +kernel)) ggX7_fits_X3_rowOf
theorem dX7_fits_0 : decode cX7_fits 0 = .ok (.iconst 0, 1) := by decide +kernel
theorem dX7_fits_1 : decode cX7_fits 1 = .ok (.istore_n 2, 1) := by decide +kernel
theorem dX7_fits_2 : decode cX7_fits 2 = .ok (.iload_n 2, 1) := by decide +kernel
theorem dX7_fits_3 : decode cX7_fits 3 = .ok (.aload_n 0, 1) := by decide +kernel
theorem dX7_fits_4 : decode cX7_fits 4 = .ok (.getfield 19, 3) := by decide +kernel
theorem dX7_fits_7 : decode cX7_fits 7 = .ok (.getfield 97, 3) := by decide +kernel
theorem dX7_fits_10 : decode cX7_fits 10 = .ok (.getfield 112, 3) := by decide +kernel
theorem dX7_fits_13 : decode cX7_fits 13 = .ok (.if_icmp .ge 78, 3) := by decide +kernel
theorem dX7_fits_16 : decode cX7_fits 16 = .ok (.aload_n 0, 1) := by decide +kernel
theorem dX7_fits_17 : decode cX7_fits 17 = .ok (.getfield 39, 3) := by decide +kernel
theorem dX7_fits_20 : decode cX7_fits 20 = .ok (.iload_n 1, 1) := by decide +kernel
theorem dX7_fits_21 : decode cX7_fits 21 = .ok (.iload_n 2, 1) := by decide +kernel
theorem dX7_fits_22 : decode cX7_fits 22 = .ok (.iconst 0, 1) := by decide +kernel
theorem dX7_fits_23 : decode cX7_fits 23 = .ok (.invokevirtual 340, 3) := by decide +kernel
theorem dX7_fits_26 : decode cX7_fits 26 = .ok (.istore_n 3, 1) := by decide +kernel
theorem dX7_fits_27 : decode cX7_fits 27 = .ok (.aload_n 0, 1) := by decide +kernel
theorem dX7_fits_28 : decode cX7_fits 28 = .ok (.getfield 19, 3) := by decide +kernel
theorem dX7_fits_31 : decode cX7_fits 31 = .ok (.getfield 122, 3) := by decide +kernel
theorem dX7_fits_34 : decode cX7_fits 34 = .ok (.getfield 344, 3) := by decide +kernel
theorem dX7_fits_37 : decode cX7_fits 37 = .ok (.iload_n 2, 1) := by decide +kernel
theorem dX7_fits_38 : decode cX7_fits 38 = .ok (.iaload, 1) := by decide +kernel
theorem dX7_fits_39 : decode cX7_fits 39 = .ok (.i2l, 1) := by decide +kernel
theorem dX7_fits_40 : decode cX7_fits 40 = .ok (.aload_n 0, 1) := by decide +kernel
theorem dX7_fits_41 : decode cX7_fits 41 = .ok (.getfield 39, 3) := by decide +kernel
theorem dX7_fits_44 : decode cX7_fits 44 = .ok (.getfield 347, 3) := by decide +kernel
theorem dX7_fits_47 : decode cX7_fits 47 = .ok (.iload_n 3, 1) := by decide +kernel
theorem dX7_fits_48 : decode cX7_fits 48 = .ok (.laload, 1) := by decide +kernel
theorem dX7_fits_49 : decode cX7_fits 49 = .ok (.land, 1) := by decide +kernel
theorem dX7_fits_50 : decode cX7_fits 50 = .ok (.aload_n 0, 1) := by decide +kernel
theorem dX7_fits_51 : decode cX7_fits 51 = .ok (.getfield 19, 3) := by decide +kernel
theorem dX7_fits_54 : decode cX7_fits 54 = .ok (.getfield 122, 3) := by decide +kernel
theorem dX7_fits_57 : decode cX7_fits 57 = .ok (.getfield 350, 3) := by decide +kernel
theorem dX7_fits_60 : decode cX7_fits 60 = .ok (.iload_n 2, 1) := by decide +kernel
theorem dX7_fits_61 : decode cX7_fits 61 = .ok (.iaload, 1) := by decide +kernel
theorem dX7_fits_62 : decode cX7_fits 62 = .ok (.i2l, 1) := by decide +kernel
theorem dX7_fits_63 : decode cX7_fits 63 = .ok (.aload_n 0, 1) := by decide +kernel
theorem dX7_fits_64 : decode cX7_fits 64 = .ok (.getfield 39, 3) := by decide +kernel
theorem dX7_fits_67 : decode cX7_fits 67 = .ok (.getfield 353, 3) := by decide +kernel
theorem dX7_fits_70 : decode cX7_fits 70 = .ok (.iload_n 3, 1) := by decide +kernel
theorem dX7_fits_71 : decode cX7_fits 71 = .ok (.laload, 1) := by decide +kernel
theorem dX7_fits_72 : decode cX7_fits 72 = .ok (.land, 1) := by decide +kernel
theorem dX7_fits_73 : decode cX7_fits 73 = .ok (.lor, 1) := by decide +kernel
theorem dX7_fits_74 : decode cX7_fits 74 = .ok (.lstore 4, 2) := by decide +kernel
theorem dX7_fits_76 : decode cX7_fits 76 = .ok (.lload 4, 2) := by decide +kernel
theorem dX7_fits_78 : decode cX7_fits 78 = .ok (.lconst 0, 1) := by decide +kernel
theorem dX7_fits_79 : decode cX7_fits 79 = .ok (.lcmp, 1) := by decide +kernel
theorem dX7_fits_80 : decode cX7_fits 80 = .ok (.ifCond .eq 5, 3) := by decide +kernel
theorem dX7_fits_83 : decode cX7_fits 83 = .ok (.iconst 0, 1) := by decide +kernel
theorem dX7_fits_84 : decode cX7_fits 84 = .ok (.ireturn, 1) := by decide +kernel
theorem dX7_fits_85 : decode cX7_fits 85 = .ok (.iinc 2 1, 3) := by decide +kernel
theorem dX7_fits_88 : decode cX7_fits 88 = .ok (.goto (-86), 3) := by decide +kernel
theorem dX7_fits_91 : decode cX7_fits 91 = .ok (.iconst 1, 1) := by decide +kernel
theorem dX7_fits_92 : decode cX7_fits 92 = .ok (.ireturn, 1) := by decide +kernel
set_option maxRecDepth 20000 in
theorem ggX7_greatestPart_X3_partOf : GoodIn wsX7_greatestPart wsX3_partOf := goodIn_r _ [14, 15, 16, 17, 18, 19, 20, 13, 21, 22, 23, 24, 25, 40, 41, 42, 43, 44, 45, 46, 47, 48, 49, 50, 51, 52, 53, 54, 55, 56, 57, 58] (by decide +kernel) (by decide +kernel)
set_option maxRecDepth 20000 in
theorem gX7_greatestPart_X3_partOf : GoodIn wsX7_greatestPart (wsV RX7 356 RX3 yX3_partOf wsX3_partOf) := goodIn_app (goodIn_of _ (by decide +kernel)) ggX7_greatestPart_X3_partOf
theorem dX7_greatestPart_0 : decode cX7_greatestPart 0 = .ok (.iconst 0, 1) := by decide +kernel
theorem dX7_greatestPart_1 : decode cX7_greatestPart 1 = .ok (.istore_n 3, 1) := by decide +kernel
theorem dX7_greatestPart_2 : decode cX7_greatestPart 2 = .ok (.iconst 0, 1) := by decide +kernel
theorem dX7_greatestPart_3 : decode cX7_greatestPart 3 = .ok (.istore 4, 2) := by decide +kernel
theorem dX7_greatestPart_5 : decode cX7_greatestPart 5 = .ok (.iload 4, 2) := by decide +kernel
theorem dX7_greatestPart_7 : decode cX7_greatestPart 7 = .ok (.iload_n 2, 1) := by decide +kernel
theorem dX7_greatestPart_8 : decode cX7_greatestPart 8 = .ok (.if_icmp .ge 56, 3) := by decide +kernel
theorem dX7_greatestPart_11 : decode cX7_greatestPart 11 = .ok (.aload_n 0, 1) := by decide +kernel
theorem dX7_greatestPart_12 : decode cX7_greatestPart 12 = .ok (.getfield 39, 3) := by decide +kernel
theorem dX7_greatestPart_15 : decode cX7_greatestPart 15 = .ok (.aload_n 0, 1) := by decide +kernel
theorem dX7_greatestPart_16 : decode cX7_greatestPart 16 = .ok (.getfield 19, 3) := by decide +kernel
theorem dX7_greatestPart_19 : decode cX7_greatestPart 19 = .ok (.getfield 97, 3) := by decide +kernel
theorem dX7_greatestPart_22 : decode cX7_greatestPart 22 = .ok (.aload_n 0, 1) := by decide +kernel
theorem dX7_greatestPart_23 : decode cX7_greatestPart 23 = .ok (.getfield 49, 3) := by decide +kernel
theorem dX7_greatestPart_26 : decode cX7_greatestPart 26 = .ok (.iload 4, 2) := by decide +kernel
theorem dX7_greatestPart_28 : decode cX7_greatestPart 28 = .ok (.iaload, 1) := by decide +kernel
theorem dX7_greatestPart_29 : decode cX7_greatestPart 29 = .ok (.iload_n 1, 1) := by decide +kernel
theorem dX7_greatestPart_30 : decode cX7_greatestPart 30 = .ok (.invokevirtual 356, 3) := by decide +kernel
theorem dX7_greatestPart_33 : decode cX7_greatestPart 33 = .ok (.istore 5, 2) := by decide +kernel
theorem dX7_greatestPart_35 : decode cX7_greatestPart 35 = .ok (.aload_n 0, 1) := by decide +kernel
theorem dX7_greatestPart_36 : decode cX7_greatestPart 36 = .ok (.getfield 53, 3) := by decide +kernel
theorem dX7_greatestPart_39 : decode cX7_greatestPart 39 = .ok (.iload 5, 2) := by decide +kernel
theorem dX7_greatestPart_41 : decode cX7_greatestPart 41 = .ok (.dup2, 1) := by decide +kernel
theorem dX7_greatestPart_42 : decode cX7_greatestPart 42 = .ok (.iaload, 1) := by decide +kernel
theorem dX7_greatestPart_43 : decode cX7_greatestPart 43 = .ok (.iconst 1, 1) := by decide +kernel
theorem dX7_greatestPart_44 : decode cX7_greatestPart 44 = .ok (.iadd, 1) := by decide +kernel
theorem dX7_greatestPart_45 : decode cX7_greatestPart 45 = .ok (.iastore, 1) := by decide +kernel
theorem dX7_greatestPart_46 : decode cX7_greatestPart 46 = .ok (.iload_n 3, 1) := by decide +kernel
theorem dX7_greatestPart_47 : decode cX7_greatestPart 47 = .ok (.aload_n 0, 1) := by decide +kernel
theorem dX7_greatestPart_48 : decode cX7_greatestPart 48 = .ok (.getfield 53, 3) := by decide +kernel
theorem dX7_greatestPart_51 : decode cX7_greatestPart 51 = .ok (.iload 5, 2) := by decide +kernel
theorem dX7_greatestPart_53 : decode cX7_greatestPart 53 = .ok (.iaload, 1) := by decide +kernel
theorem dX7_greatestPart_54 : decode cX7_greatestPart 54 = .ok (.invokestatic 359, 3) := by decide +kernel
theorem dX7_greatestPart_57 : decode cX7_greatestPart 57 = .ok (.istore_n 3, 1) := by decide +kernel
theorem dX7_greatestPart_58 : decode cX7_greatestPart 58 = .ok (.iinc 4 1, 3) := by decide +kernel
theorem dX7_greatestPart_61 : decode cX7_greatestPart 61 = .ok (.goto (-56), 3) := by decide +kernel
theorem dX7_greatestPart_64 : decode cX7_greatestPart 64 = .ok (.iconst 0, 1) := by decide +kernel
theorem dX7_greatestPart_65 : decode cX7_greatestPart 65 = .ok (.istore 4, 2) := by decide +kernel
theorem dX7_greatestPart_67 : decode cX7_greatestPart 67 = .ok (.iload 4, 2) := by decide +kernel
theorem dX7_greatestPart_69 : decode cX7_greatestPart 69 = .ok (.iload_n 2, 1) := by decide +kernel
theorem dX7_greatestPart_70 : decode cX7_greatestPart 70 = .ok (.if_icmp .ge 37, 3) := by decide +kernel
theorem dX7_greatestPart_73 : decode cX7_greatestPart 73 = .ok (.aload_n 0, 1) := by decide +kernel
theorem dX7_greatestPart_74 : decode cX7_greatestPart 74 = .ok (.getfield 53, 3) := by decide +kernel
theorem dX7_greatestPart_77 : decode cX7_greatestPart 77 = .ok (.aload_n 0, 1) := by decide +kernel
theorem dX7_greatestPart_78 : decode cX7_greatestPart 78 = .ok (.getfield 39, 3) := by decide +kernel
theorem dX7_greatestPart_81 : decode cX7_greatestPart 81 = .ok (.aload_n 0, 1) := by decide +kernel
theorem dX7_greatestPart_82 : decode cX7_greatestPart 82 = .ok (.getfield 19, 3) := by decide +kernel
theorem dX7_greatestPart_85 : decode cX7_greatestPart 85 = .ok (.getfield 97, 3) := by decide +kernel
theorem dX7_greatestPart_88 : decode cX7_greatestPart 88 = .ok (.aload_n 0, 1) := by decide +kernel
theorem dX7_greatestPart_89 : decode cX7_greatestPart 89 = .ok (.getfield 49, 3) := by decide +kernel
theorem dX7_greatestPart_92 : decode cX7_greatestPart 92 = .ok (.iload 4, 2) := by decide +kernel
theorem dX7_greatestPart_94 : decode cX7_greatestPart 94 = .ok (.iaload, 1) := by decide +kernel
theorem dX7_greatestPart_95 : decode cX7_greatestPart 95 = .ok (.iload_n 1, 1) := by decide +kernel
theorem dX7_greatestPart_96 : decode cX7_greatestPart 96 = .ok (.invokevirtual 356, 3) := by decide +kernel
theorem dX7_greatestPart_99 : decode cX7_greatestPart 99 = .ok (.iconst 0, 1) := by decide +kernel
theorem dX7_greatestPart_100 : decode cX7_greatestPart 100 = .ok (.iastore, 1) := by decide +kernel
theorem dX7_greatestPart_101 : decode cX7_greatestPart 101 = .ok (.iinc 4 1, 3) := by decide +kernel
theorem dX7_greatestPart_104 : decode cX7_greatestPart 104 = .ok (.goto (-37), 3) := by decide +kernel
theorem dX7_greatestPart_107 : decode cX7_greatestPart 107 = .ok (.iload_n 3, 1) := by decide +kernel
theorem dX7_greatestPart_108 : decode cX7_greatestPart 108 = .ok (.ireturn, 1) := by decide +kernel
set_option maxRecDepth 20000 in
theorem ggX7_bestFullTest_J13_bitCount_95d88 : GoodIn wsX7_bestFullTest wsJ13_bitCount_95d88 := goodIn_r _ [8, 9, 10, 11] (by decide +kernel) (by decide +kernel)
set_option maxRecDepth 20000 in
theorem gX7_bestFullTest_J13_bitCount_95d88 : GoodIn wsX7_bestFullTest (va_wsS RX7 138 yJ13_bitCount_95d88 wsJ13_bitCount_95d88) := goodIn_app (goodIn_of _ (by decide +kernel)) ggX7_bestFullTest_J13_bitCount_95d88
theorem dX7_bestFullTest_0 : decode cX7_bestFullTest 0 = .ok (.iconst 1, 1) := by decide +kernel
theorem dX7_bestFullTest_1 : decode cX7_bestFullTest 1 = .ok (.aload_n 0, 1) := by decide +kernel
theorem dX7_bestFullTest_2 : decode cX7_bestFullTest 2 = .ok (.getfield 19, 3) := by decide +kernel
theorem dX7_bestFullTest_5 : decode cX7_bestFullTest 5 = .ok (.getfield 97, 3) := by decide +kernel
theorem dX7_bestFullTest_8 : decode cX7_bestFullTest 8 = .ok (.getfield 109, 3) := by decide +kernel
theorem dX7_bestFullTest_11 : decode cX7_bestFullTest 11 = .ok (.ishl, 1) := by decide +kernel
theorem dX7_bestFullTest_12 : decode cX7_bestFullTest 12 = .ok (.istore_n 3, 1) := by decide +kernel
theorem dX7_bestFullTest_13 : decode cX7_bestFullTest 13 = .ok (.iconst (-1), 1) := by decide +kernel
theorem dX7_bestFullTest_14 : decode cX7_bestFullTest 14 = .ok (.istore 4, 2) := by decide +kernel
theorem dX7_bestFullTest_16 : decode cX7_bestFullTest 16 = .ok (.iconst 0, 1) := by decide +kernel
theorem dX7_bestFullTest_17 : decode cX7_bestFullTest 17 = .ok (.istore 5, 2) := by decide +kernel
theorem dX7_bestFullTest_19 : decode cX7_bestFullTest 19 = .ok (.iconst 0, 1) := by decide +kernel
theorem dX7_bestFullTest_20 : decode cX7_bestFullTest 20 = .ok (.istore 6, 2) := by decide +kernel
theorem dX7_bestFullTest_22 : decode cX7_bestFullTest 22 = .ok (.iload 6, 2) := by decide +kernel
theorem dX7_bestFullTest_24 : decode cX7_bestFullTest 24 = .ok (.iload_n 3, 1) := by decide +kernel
theorem dX7_bestFullTest_25 : decode cX7_bestFullTest 25 = .ok (.if_icmp .ge 38, 3) := by decide +kernel
theorem dX7_bestFullTest_28 : decode cX7_bestFullTest 28 = .ok (.aload_n 0, 1) := by decide +kernel
theorem dX7_bestFullTest_29 : decode cX7_bestFullTest 29 = .ok (.getfield 63, 3) := by decide +kernel
theorem dX7_bestFullTest_32 : decode cX7_bestFullTest 32 = .ok (.iload 6, 2) := by decide +kernel
theorem dX7_bestFullTest_34 : decode cX7_bestFullTest 34 = .ok (.laload, 1) := by decide +kernel
theorem dX7_bestFullTest_35 : decode cX7_bestFullTest 35 = .ok (.lload_n 1, 1) := by decide +kernel
theorem dX7_bestFullTest_36 : decode cX7_bestFullTest 36 = .ok (.land, 1) := by decide +kernel
theorem dX7_bestFullTest_37 : decode cX7_bestFullTest 37 = .ok (.invokestatic 138, 3) := by decide +kernel
theorem dX7_bestFullTest_40 : decode cX7_bestFullTest 40 = .ok (.istore 7, 2) := by decide +kernel
theorem dX7_bestFullTest_42 : decode cX7_bestFullTest 42 = .ok (.iload 7, 2) := by decide +kernel
theorem dX7_bestFullTest_44 : decode cX7_bestFullTest 44 = .ok (.iload 5, 2) := by decide +kernel
theorem dX7_bestFullTest_46 : decode cX7_bestFullTest 46 = .ok (.if_icmp .le 11, 3) := by decide +kernel
theorem dX7_bestFullTest_49 : decode cX7_bestFullTest 49 = .ok (.iload 6, 2) := by decide +kernel
theorem dX7_bestFullTest_51 : decode cX7_bestFullTest 51 = .ok (.istore 4, 2) := by decide +kernel
theorem dX7_bestFullTest_53 : decode cX7_bestFullTest 53 = .ok (.iload 7, 2) := by decide +kernel
theorem dX7_bestFullTest_55 : decode cX7_bestFullTest 55 = .ok (.istore 5, 2) := by decide +kernel
theorem dX7_bestFullTest_57 : decode cX7_bestFullTest 57 = .ok (.iinc 6 1, 3) := by decide +kernel
theorem dX7_bestFullTest_60 : decode cX7_bestFullTest 60 = .ok (.goto (-38), 3) := by decide +kernel
theorem dX7_bestFullTest_63 : decode cX7_bestFullTest 63 = .ok (.iload 4, 2) := by decide +kernel
theorem dX7_bestFullTest_65 : decode cX7_bestFullTest 65 = .ok (.ireturn, 1) := by decide +kernel
set_option maxRecDepth 20000 in
theorem ggX8_init_X8_plain : GoodIn wsX8_init wsX8_plain := goodIn_r _ [24, 6, 30, 31, 32, 33, 34, 35, 36, 37, 38, 39, 40, 41, 42, 43, 44, 45, 46, 47, 48, 49, 50, 51, 52] (by decide +kernel) (by decide +kernel)
set_option maxRecDepth 20000 in
theorem gX8_init_X8_plain : GoodIn wsX8_init (wsV RX8 54 RX8 yX8_plain wsX8_plain) := goodIn_app (goodIn_of _ (by decide +kernel)) ggX8_init_X8_plain
set_option maxRecDepth 20000 in
theorem ggX8_init_X8_put : GoodIn wsX8_init wsX8_put := goodIn_r _ [28, 5, 29, 30, 31, 32, 33, 34, 35, 36, 37, 38, 39, 40, 41, 42, 43, 44, 45, 46, 47, 48, 49, 50, 51, 52] (by decide +kernel) (by decide +kernel)
set_option maxRecDepth 20000 in
theorem gX8_init_X8_put : GoodIn wsX8_init (wsV RX8 57 RX8 yX8_put wsX8_put) := goodIn_app (goodIn_of _ (by decide +kernel)) ggX8_init_X8_put
theorem dX8_init_0 : decode cX8_init 0 = .ok (.aload_n 0, 1) := by decide +kernel
theorem dX8_init_1 : decode cX8_init 1 = .ok (.invokespecial 1, 3) := by decide +kernel
theorem dX8_init_4 : decode cX8_init 4 = .ok (.aload_n 0, 1) := by decide +kernel
theorem dX8_init_5 : decode cX8_init 5 = .ok (.sipush 3960, 3) := by decide +kernel
theorem dX8_init_8 : decode cX8_init 8 = .ok (.newarray .int, 2) := by decide +kernel
theorem dX8_init_10 : decode cX8_init 10 = .ok (.putfield 7, 3) := by decide +kernel
theorem dX8_init_13 : decode cX8_init 13 = .ok (.aload_n 0, 1) := by decide +kernel
theorem dX8_init_14 : decode cX8_init 14 = .ok (.sipush 440, 3) := by decide +kernel
theorem dX8_init_17 : decode cX8_init 17 = .ok (.newarray .int, 2) := by decide +kernel
theorem dX8_init_19 : decode cX8_init 19 = .ok (.putfield 13, 3) := by decide +kernel
theorem dX8_init_22 : decode cX8_init 22 = .ok (.aload_n 0, 1) := by decide +kernel
theorem dX8_init_23 : decode cX8_init 23 = .ok (.bipush 24, 2) := by decide +kernel
theorem dX8_init_25 : decode cX8_init 25 = .ok (.newarray .int, 2) := by decide +kernel
theorem dX8_init_27 : decode cX8_init 27 = .ok (.putfield 16, 3) := by decide +kernel
theorem dX8_init_30 : decode cX8_init 30 = .ok (.aload_n 0, 1) := by decide +kernel
theorem dX8_init_31 : decode cX8_init 31 = .ok (.bipush 8, 2) := by decide +kernel
theorem dX8_init_33 : decode cX8_init 33 = .ok (.newarray .int, 2) := by decide +kernel
theorem dX8_init_35 : decode cX8_init 35 = .ok (.putfield 19, 3) := by decide +kernel
theorem dX8_init_38 : decode cX8_init 38 = .ok (.aload_n 0, 1) := by decide +kernel
theorem dX8_init_39 : decode cX8_init 39 = .ok (.bipush 24, 2) := by decide +kernel
theorem dX8_init_41 : decode cX8_init 41 = .ok (.newarray .int, 2) := by decide +kernel
theorem dX8_init_43 : decode cX8_init 43 = .ok (.putfield 22, 3) := by decide +kernel
theorem dX8_init_46 : decode cX8_init 46 = .ok (.aload_n 0, 1) := by decide +kernel
theorem dX8_init_47 : decode cX8_init 47 = .ok (.bipush 24, 2) := by decide +kernel
theorem dX8_init_49 : decode cX8_init 49 = .ok (.newarray .int, 2) := by decide +kernel
theorem dX8_init_51 : decode cX8_init 51 = .ok (.putfield 25, 3) := by decide +kernel
theorem dX8_init_54 : decode cX8_init 54 = .ok (.aload_n 0, 1) := by decide +kernel
theorem dX8_init_55 : decode cX8_init 55 = .ok (.bipush 56, 2) := by decide +kernel
theorem dX8_init_57 : decode cX8_init 57 = .ok (.newarray .int, 2) := by decide +kernel
theorem dX8_init_59 : decode cX8_init 59 = .ok (.putfield 28, 3) := by decide +kernel
theorem dX8_init_62 : decode cX8_init 62 = .ok (.aload_n 0, 1) := by decide +kernel
theorem dX8_init_63 : decode cX8_init 63 = .ok (.sipush 14592, 3) := by decide +kernel
theorem dX8_init_66 : decode cX8_init 66 = .ok (.newarray .int, 2) := by decide +kernel
theorem dX8_init_68 : decode cX8_init 68 = .ok (.putfield 31, 3) := by decide +kernel
theorem dX8_init_71 : decode cX8_init 71 = .ok (.aload_n 0, 1) := by decide +kernel
theorem dX8_init_72 : decode cX8_init 72 = .ok (.sipush 800, 3) := by decide +kernel
theorem dX8_init_75 : decode cX8_init 75 = .ok (.newarray .int, 2) := by decide +kernel
theorem dX8_init_77 : decode cX8_init 77 = .ok (.putfield 34, 3) := by decide +kernel
theorem dX8_init_80 : decode cX8_init 80 = .ok (.aload_n 0, 1) := by decide +kernel
theorem dX8_init_81 : decode cX8_init 81 = .ok (.iconst (-1), 1) := by decide +kernel
theorem dX8_init_82 : decode cX8_init 82 = .ok (.putfield 37, 3) := by decide +kernel
theorem dX8_init_85 : decode cX8_init 85 = .ok (.aload_n 0, 1) := by decide +kernel
theorem dX8_init_86 : decode cX8_init 86 = .ok (.bipush 24, 2) := by decide +kernel
theorem dX8_init_88 : decode cX8_init 88 = .ok (.newarray .boolean, 2) := by decide +kernel
theorem dX8_init_90 : decode cX8_init 90 = .ok (.putfield 41, 3) := by decide +kernel
theorem dX8_init_93 : decode cX8_init 93 = .ok (.aload_n 0, 1) := by decide +kernel
theorem dX8_init_94 : decode cX8_init 94 = .ok (.bipush 6, 2) := by decide +kernel
theorem dX8_init_96 : decode cX8_init 96 = .ok (.newarray .int, 2) := by decide +kernel
theorem dX8_init_98 : decode cX8_init 98 = .ok (.putfield 45, 3) := by decide +kernel
theorem dX8_init_101 : decode cX8_init 101 = .ok (.aload_n 0, 1) := by decide +kernel
theorem dX8_init_102 : decode cX8_init 102 = .ok (.bipush 57, 2) := by decide +kernel
theorem dX8_init_104 : decode cX8_init 104 = .ok (.newarray .boolean, 2) := by decide +kernel
theorem dX8_init_106 : decode cX8_init 106 = .ok (.putfield 48, 3) := by decide +kernel
theorem dX8_init_109 : decode cX8_init 109 = .ok (.aload_n 0, 1) := by decide +kernel
theorem dX8_init_110 : decode cX8_init 110 = .ok (.sipush 729, 3) := by decide +kernel
theorem dX8_init_113 : decode cX8_init 113 = .ok (.newarray .int, 2) := by decide +kernel
theorem dX8_init_115 : decode cX8_init 115 = .ok (.putfield 51, 3) := by decide +kernel
theorem dX8_init_118 : decode cX8_init 118 = .ok (.aload_n 0, 1) := by decide +kernel
theorem dX8_init_119 : decode cX8_init 119 = .ok (.invokevirtual 54, 3) := by decide +kernel
theorem dX8_init_122 : decode cX8_init 122 = .ok (.aload_n 0, 1) := by decide +kernel
theorem dX8_init_123 : decode cX8_init 123 = .ok (.getfield 13, 3) := by decide +kernel
theorem dX8_init_126 : decode cX8_init 126 = .ok (.iconst 0, 1) := by decide +kernel
theorem dX8_init_127 : decode cX8_init 127 = .ok (.iconst 1, 1) := by decide +kernel
theorem dX8_init_128 : decode cX8_init 128 = .ok (.iastore, 1) := by decide +kernel
theorem dX8_init_129 : decode cX8_init 129 = .ok (.aload_n 0, 1) := by decide +kernel
theorem dX8_init_130 : decode cX8_init 130 = .ok (.getfield 13, 3) := by decide +kernel
theorem dX8_init_133 : decode cX8_init 133 = .ok (.iconst 1, 1) := by decide +kernel
theorem dX8_init_134 : decode cX8_init 134 = .ok (.iconst 1, 1) := by decide +kernel
theorem dX8_init_135 : decode cX8_init 135 = .ok (.iastore, 1) := by decide +kernel
theorem dX8_init_136 : decode cX8_init 136 = .ok (.iconst 0, 1) := by decide +kernel
theorem dX8_init_137 : decode cX8_init 137 = .ok (.istore_n 1, 1) := by decide +kernel
theorem dX8_init_138 : decode cX8_init 138 = .ok (.iload_n 1, 1) := by decide +kernel
theorem dX8_init_139 : decode cX8_init 139 = .ok (.sipush 440, 3) := by decide +kernel
theorem dX8_init_142 : decode cX8_init 142 = .ok (.if_icmp .ge 20, 3) := by decide +kernel
theorem dX8_init_145 : decode cX8_init 145 = .ok (.aload_n 0, 1) := by decide +kernel
theorem dX8_init_146 : decode cX8_init 146 = .ok (.iload_n 1, 1) := by decide +kernel
theorem dX8_init_147 : decode cX8_init 147 = .ok (.aload_n 0, 1) := by decide +kernel
theorem dX8_init_148 : decode cX8_init 148 = .ok (.getfield 13, 3) := by decide +kernel
theorem dX8_init_151 : decode cX8_init 151 = .ok (.iload_n 1, 1) := by decide +kernel
theorem dX8_init_152 : decode cX8_init 152 = .ok (.iaload, 1) := by decide +kernel
theorem dX8_init_153 : decode cX8_init 153 = .ok (.invokevirtual 57, 3) := by decide +kernel
theorem dX8_init_156 : decode cX8_init 156 = .ok (.iinc 1 1, 3) := by decide +kernel
theorem dX8_init_159 : decode cX8_init 159 = .ok (.goto (-21), 3) := by decide +kernel
theorem dX8_init_162 : decode cX8_init 162 = .ok (.return_, 1) := by decide +kernel
theorem dX8_thrown_0 : decode cX8_thrown 0 = .ok (.aload_n 0, 1) := by decide +kernel
theorem dX8_thrown_1 : decode cX8_thrown 1 = .ok (.getfield 61, 3) := by decide +kernel
theorem dX8_thrown_4 : decode cX8_thrown 4 = .ok (.ireturn, 1) := by decide +kernel
theorem dX8_isIn_0 : decode cX8_isIn 0 = .ok (.iload_n 0, 1) := by decide +kernel
theorem dX8_isIn_1 : decode cX8_isIn 1 = .ok (.iload_n 1, 1) := by decide +kernel
theorem dX8_isIn_2 : decode cX8_isIn 2 = .ok (.if_icmp .lt 12, 3) := by decide +kernel
theorem dX8_isIn_5 : decode cX8_isIn 5 = .ok (.iload_n 0, 1) := by decide +kernel
theorem dX8_isIn_6 : decode cX8_isIn 6 = .ok (.iload_n 2, 1) := by decide +kernel
theorem dX8_isIn_7 : decode cX8_isIn 7 = .ok (.if_icmp .gt 7, 3) := by decide +kernel
theorem dX8_isIn_10 : decode cX8_isIn 10 = .ok (.iconst 1, 1) := by decide +kernel
theorem dX8_isIn_11 : decode cX8_isIn 11 = .ok (.goto 4, 3) := by decide +kernel
theorem dX8_isIn_14 : decode cX8_isIn 14 = .ok (.iconst 0, 1) := by decide +kernel
theorem dX8_isIn_15 : decode cX8_isIn 15 = .ok (.ireturn, 1) := by decide +kernel
theorem dX8_get_0 : decode cX8_get 0 = .ok (.aload_n 0, 1) := by decide +kernel
theorem dX8_get_1 : decode cX8_get 1 = .ok (.getfield 7, 3) := by decide +kernel
theorem dX8_get_4 : decode cX8_get 4 = .ok (.sipush 440, 3) := by decide +kernel
theorem dX8_get_7 : decode cX8_get 7 = .ok (.aload_n 0, 1) := by decide +kernel
theorem dX8_get_8 : decode cX8_get 8 = .ok (.getfield 64, 3) := by decide +kernel
theorem dX8_get_11 : decode cX8_get 11 = .ok (.imul, 1) := by decide +kernel
theorem dX8_get_12 : decode cX8_get 12 = .ok (.iload_n 1, 1) := by decide +kernel
theorem dX8_get_13 : decode cX8_get 13 = .ok (.iadd, 1) := by decide +kernel
theorem dX8_get_14 : decode cX8_get 14 = .ok (.iaload, 1) := by decide +kernel
theorem dX8_get_15 : decode cX8_get 15 = .ok (.ireturn, 1) := by decide +kernel
theorem dX8_put_0 : decode cX8_put 0 = .ok (.aload_n 0, 1) := by decide +kernel
theorem dX8_put_1 : decode cX8_put 1 = .ok (.getfield 7, 3) := by decide +kernel
theorem dX8_put_4 : decode cX8_put 4 = .ok (.sipush 440, 3) := by decide +kernel
theorem dX8_put_7 : decode cX8_put 7 = .ok (.aload_n 0, 1) := by decide +kernel
theorem dX8_put_8 : decode cX8_put 8 = .ok (.getfield 64, 3) := by decide +kernel
theorem dX8_put_11 : decode cX8_put 11 = .ok (.imul, 1) := by decide +kernel
theorem dX8_put_12 : decode cX8_put 12 = .ok (.iload_n 1, 1) := by decide +kernel
theorem dX8_put_13 : decode cX8_put 13 = .ok (.iadd, 1) := by decide +kernel
theorem dX8_put_14 : decode cX8_put 14 = .ok (.iload_n 2, 1) := by decide +kernel
theorem dX8_put_15 : decode cX8_put 15 = .ok (.iastore, 1) := by decide +kernel
theorem dX8_put_16 : decode cX8_put 16 = .ok (.return_, 1) := by decide +kernel
set_option maxRecDepth 20000 in
theorem ggX8_change_X8_get : GoodIn wsX8_change wsX8_get := goodIn_r _ [8, 2, 1, 9, 10, 11, 12, 13, 14, 15, 16, 17, 18, 19, 20, 21, 22, 23, 24, 25, 26, 27, 28, 29, 30, 31] (by decide +kernel) (by decide +kernel)
set_option maxRecDepth 20000 in
theorem gX8_change_X8_get : GoodIn wsX8_change (wsV RX8 67 RX8 yX8_get wsX8_get) := goodIn_app (goodIn_of _ (by decide +kernel)) ggX8_change_X8_get
theorem dX8_change_0 : decode cX8_change 0 = .ok (.aload_n 0, 1) := by decide +kernel
theorem dX8_change_1 : decode cX8_change 1 = .ok (.getfield 64, 3) := by decide +kernel
theorem dX8_change_4 : decode cX8_change 4 = .ok (.iconst 1, 1) := by decide +kernel
theorem dX8_change_5 : decode cX8_change 5 = .ok (.iadd, 1) := by decide +kernel
theorem dX8_change_6 : decode cX8_change 6 = .ok (.bipush 9, 2) := by decide +kernel
theorem dX8_change_8 : decode cX8_change 8 = .ok (.irem, 1) := by decide +kernel
theorem dX8_change_9 : decode cX8_change 9 = .ok (.istore_n 1, 1) := by decide +kernel
theorem dX8_change_10 : decode cX8_change 10 = .ok (.iconst 0, 1) := by decide +kernel
theorem dX8_change_11 : decode cX8_change 11 = .ok (.istore_n 2, 1) := by decide +kernel
theorem dX8_change_12 : decode cX8_change 12 = .ok (.iload_n 2, 1) := by decide +kernel
theorem dX8_change_13 : decode cX8_change 13 = .ok (.sipush 440, 3) := by decide +kernel
theorem dX8_change_16 : decode cX8_change 16 = .ok (.if_icmp .ge 26, 3) := by decide +kernel
theorem dX8_change_19 : decode cX8_change 19 = .ok (.aload_n 0, 1) := by decide +kernel
theorem dX8_change_20 : decode cX8_change 20 = .ok (.getfield 7, 3) := by decide +kernel
theorem dX8_change_23 : decode cX8_change 23 = .ok (.sipush 440, 3) := by decide +kernel
theorem dX8_change_26 : decode cX8_change 26 = .ok (.iload_n 1, 1) := by decide +kernel
theorem dX8_change_27 : decode cX8_change 27 = .ok (.imul, 1) := by decide +kernel
theorem dX8_change_28 : decode cX8_change 28 = .ok (.iload_n 2, 1) := by decide +kernel
theorem dX8_change_29 : decode cX8_change 29 = .ok (.iadd, 1) := by decide +kernel
theorem dX8_change_30 : decode cX8_change 30 = .ok (.aload_n 0, 1) := by decide +kernel
theorem dX8_change_31 : decode cX8_change 31 = .ok (.iload_n 2, 1) := by decide +kernel
theorem dX8_change_32 : decode cX8_change 32 = .ok (.invokevirtual 67, 3) := by decide +kernel
theorem dX8_change_35 : decode cX8_change 35 = .ok (.iastore, 1) := by decide +kernel
theorem dX8_change_36 : decode cX8_change 36 = .ok (.iinc 2 1, 3) := by decide +kernel
theorem dX8_change_39 : decode cX8_change 39 = .ok (.goto (-27), 3) := by decide +kernel
theorem dX8_change_42 : decode cX8_change 42 = .ok (.aload_n 0, 1) := by decide +kernel
theorem dX8_change_43 : decode cX8_change 43 = .ok (.iload_n 1, 1) := by decide +kernel
theorem dX8_change_44 : decode cX8_change 44 = .ok (.putfield 64, 3) := by decide +kernel
theorem dX8_change_47 : decode cX8_change 47 = .ok (.aload_n 0, 1) := by decide +kernel
theorem dX8_change_48 : decode cX8_change 48 = .ok (.aload_n 0, 1) := by decide +kernel
theorem dX8_change_49 : decode cX8_change 49 = .ok (.getfield 71, 3) := by decide +kernel
theorem dX8_change_52 : decode cX8_change 52 = .ok (.bipush 8, 2) := by decide +kernel
theorem dX8_change_54 : decode cX8_change 54 = .ok (.if_icmp .ge 12, 3) := by decide +kernel
theorem dX8_change_57 : decode cX8_change 57 = .ok (.aload_n 0, 1) := by decide +kernel
theorem dX8_change_58 : decode cX8_change 58 = .ok (.getfield 71, 3) := by decide +kernel
theorem dX8_change_61 : decode cX8_change 61 = .ok (.iconst 1, 1) := by decide +kernel
theorem dX8_change_62 : decode cX8_change 62 = .ok (.iadd, 1) := by decide +kernel
theorem dX8_change_63 : decode cX8_change 63 = .ok (.goto 7, 3) := by decide +kernel
theorem dX8_change_66 : decode cX8_change 66 = .ok (.aload_n 0, 1) := by decide +kernel
theorem dX8_change_67 : decode cX8_change 67 = .ok (.getfield 71, 3) := by decide +kernel
theorem dX8_change_70 : decode cX8_change 70 = .ok (.putfield 71, 3) := by decide +kernel
theorem dX8_change_73 : decode cX8_change 73 = .ok (.return_, 1) := by decide +kernel
theorem dX8_right_0 : decode cX8_right 0 = .ok (.aload_n 0, 1) := by decide +kernel
theorem dX8_right_1 : decode cX8_right 1 = .ok (.getfield 61, 3) := by decide +kernel
theorem dX8_right_4 : decode cX8_right 4 = .ok (.ifCond .ne 12, 3) := by decide +kernel
theorem dX8_right_7 : decode cX8_right 7 = .ok (.iload_n 1, 1) := by decide +kernel
theorem dX8_right_8 : decode cX8_right 8 = .ok (.ifCond .ne 8, 3) := by decide +kernel
theorem dX8_right_11 : decode cX8_right 11 = .ok (.aload_n 0, 1) := by decide +kernel
theorem dX8_right_12 : decode cX8_right 12 = .ok (.iload_n 2, 1) := by decide +kernel
theorem dX8_right_13 : decode cX8_right 13 = .ok (.putfield 61, 3) := by decide +kernel
theorem dX8_right_16 : decode cX8_right 16 = .ok (.aload_n 0, 1) := by decide +kernel
theorem dX8_right_17 : decode cX8_right 17 = .ok (.getfield 61, 3) := by decide +kernel
theorem dX8_right_20 : decode cX8_right 20 = .ok (.ifCond .ne 7, 3) := by decide +kernel
theorem dX8_right_23 : decode cX8_right 23 = .ok (.iconst 1, 1) := by decide +kernel
theorem dX8_right_24 : decode cX8_right 24 = .ok (.goto 4, 3) := by decide +kernel
theorem dX8_right_27 : decode cX8_right 27 = .ok (.iconst 0, 1) := by decide +kernel
theorem dX8_right_28 : decode cX8_right 28 = .ok (.ireturn, 1) := by decide +kernel
theorem dX8_plain_0 : decode cX8_plain 0 = .ok (.iconst 0, 1) := by decide +kernel
theorem dX8_plain_1 : decode cX8_plain 1 = .ok (.istore_n 1, 1) := by decide +kernel
theorem dX8_plain_2 : decode cX8_plain 2 = .ok (.iload_n 1, 1) := by decide +kernel
theorem dX8_plain_3 : decode cX8_plain 3 = .ok (.sipush 440, 3) := by decide +kernel
theorem dX8_plain_6 : decode cX8_plain 6 = .ok (.if_icmp .ge 34, 3) := by decide +kernel
theorem dX8_plain_9 : decode cX8_plain 9 = .ok (.aload_n 0, 1) := by decide +kernel
theorem dX8_plain_10 : decode cX8_plain 10 = .ok (.getfield 13, 3) := by decide +kernel
theorem dX8_plain_13 : decode cX8_plain 13 = .ok (.iload_n 1, 1) := by decide +kernel
theorem dX8_plain_14 : decode cX8_plain 14 = .ok (.iload_n 1, 1) := by decide +kernel
theorem dX8_plain_15 : decode cX8_plain 15 = .ok (.sipush 310, 3) := by decide +kernel
theorem dX8_plain_18 : decode cX8_plain 18 = .ok (.if_icmp .lt 14, 3) := by decide +kernel
theorem dX8_plain_21 : decode cX8_plain 21 = .ok (.iload_n 1, 1) := by decide +kernel
theorem dX8_plain_22 : decode cX8_plain 22 = .ok (.sipush 406, 3) := by decide +kernel
theorem dX8_plain_25 : decode cX8_plain 25 = .ok (.if_icmp .ge 7, 3) := by decide +kernel
theorem dX8_plain_28 : decode cX8_plain 28 = .ok (.iconst 2, 1) := by decide +kernel
theorem dX8_plain_29 : decode cX8_plain 29 = .ok (.goto 4, 3) := by decide +kernel
theorem dX8_plain_32 : decode cX8_plain 32 = .ok (.iconst 0, 1) := by decide +kernel
theorem dX8_plain_33 : decode cX8_plain 33 = .ok (.iastore, 1) := by decide +kernel
theorem dX8_plain_34 : decode cX8_plain 34 = .ok (.iinc 1 1, 3) := by decide +kernel
theorem dX8_plain_37 : decode cX8_plain 37 = .ok (.goto (-35), 3) := by decide +kernel
theorem dX8_plain_40 : decode cX8_plain 40 = .ok (.iconst 0, 1) := by decide +kernel
theorem dX8_plain_41 : decode cX8_plain 41 = .ok (.istore_n 1, 1) := by decide +kernel
theorem dX8_plain_42 : decode cX8_plain 42 = .ok (.iload_n 1, 1) := by decide +kernel
theorem dX8_plain_43 : decode cX8_plain 43 = .ok (.bipush 24, 2) := by decide +kernel
theorem dX8_plain_45 : decode cX8_plain 45 = .ok (.if_icmp .ge 19, 3) := by decide +kernel
theorem dX8_plain_48 : decode cX8_plain 48 = .ok (.aload_n 0, 1) := by decide +kernel
theorem dX8_plain_49 : decode cX8_plain 49 = .ok (.getfield 13, 3) := by decide +kernel
theorem dX8_plain_52 : decode cX8_plain 52 = .ok (.bipush 8, 2) := by decide +kernel
theorem dX8_plain_54 : decode cX8_plain 54 = .ok (.iload_n 1, 1) := by decide +kernel
theorem dX8_plain_55 : decode cX8_plain 55 = .ok (.iadd, 1) := by decide +kernel
theorem dX8_plain_56 : decode cX8_plain 56 = .ok (.iconst (-1), 1) := by decide +kernel
theorem dX8_plain_57 : decode cX8_plain 57 = .ok (.iastore, 1) := by decide +kernel
theorem dX8_plain_58 : decode cX8_plain 58 = .ok (.iinc 1 1, 3) := by decide +kernel
theorem dX8_plain_61 : decode cX8_plain 61 = .ok (.goto (-19), 3) := by decide +kernel
theorem dX8_plain_64 : decode cX8_plain 64 = .ok (.return_, 1) := by decide +kernel
set_option maxRecDepth 20000 in
theorem ggX8_inputs_X8_get : GoodIn wsX8_inputs wsX8_get := goodIn_r _ [5, 6, 7, 8, 9, 10, 11, 12, 13, 14, 15, 16, 17, 18, 19, 20, 21, 22, 23, 24, 25, 26, 27, 28, 29, 30] (by decide +kernel) (by decide +kernel)
set_option maxRecDepth 20000 in
theorem gX8_inputs_X8_get : GoodIn wsX8_inputs (wsV RX8 67 RX8 yX8_get wsX8_get) := goodIn_app (goodIn_of _ (by decide +kernel)) ggX8_inputs_X8_get
theorem dX8_inputs_0 : decode cX8_inputs 0 = .ok (.aload_n 0, 1) := by decide +kernel
theorem dX8_inputs_1 : decode cX8_inputs 1 = .ok (.iconst 0, 1) := by decide +kernel
theorem dX8_inputs_2 : decode cX8_inputs 2 = .ok (.invokevirtual 67, 3) := by decide +kernel
theorem dX8_inputs_5 : decode cX8_inputs 5 = .ok (.ireturn, 1) := by decide +kernel
set_option maxRecDepth 20000 in
theorem ggX8_wires_X8_get : GoodIn wsX8_wires wsX8_get := goodIn_r _ [5, 6, 7, 8, 9, 10, 11, 12, 13, 14, 15, 16, 17, 18, 19, 20, 21, 22, 23, 24, 25, 26, 27, 28, 29, 30] (by decide +kernel) (by decide +kernel)
set_option maxRecDepth 20000 in
theorem gX8_wires_X8_get : GoodIn wsX8_wires (wsV RX8 67 RX8 yX8_get wsX8_get) := goodIn_app (goodIn_of _ (by decide +kernel)) ggX8_wires_X8_get
theorem dX8_wires_0 : decode cX8_wires 0 = .ok (.aload_n 0, 1) := by decide +kernel
theorem dX8_wires_1 : decode cX8_wires 1 = .ok (.iconst 1, 1) := by decide +kernel
theorem dX8_wires_2 : decode cX8_wires 2 = .ok (.invokevirtual 67, 3) := by decide +kernel
theorem dX8_wires_5 : decode cX8_wires 5 = .ok (.ireturn, 1) := by decide +kernel
set_option maxRecDepth 20000 in
theorem ggX8_outputs_X8_get : GoodIn wsX8_outputs wsX8_get := goodIn_r _ [5, 6, 7, 8, 9, 10, 11, 12, 13, 14, 15, 16, 17, 18, 19, 20, 21, 22, 23, 24, 25, 26, 27, 28, 29, 30] (by decide +kernel) (by decide +kernel)
set_option maxRecDepth 20000 in
theorem gX8_outputs_X8_get : GoodIn wsX8_outputs (wsV RX8 67 RX8 yX8_get wsX8_get) := goodIn_app (goodIn_of _ (by decide +kernel)) ggX8_outputs_X8_get
theorem dX8_outputs_0 : decode cX8_outputs 0 = .ok (.aload_n 0, 1) := by decide +kernel
theorem dX8_outputs_1 : decode cX8_outputs 1 = .ok (.iconst 2, 1) := by decide +kernel
theorem dX8_outputs_2 : decode cX8_outputs 2 = .ok (.invokevirtual 67, 3) := by decide +kernel
theorem dX8_outputs_5 : decode cX8_outputs 5 = .ok (.ireturn, 1) := by decide +kernel
set_option maxRecDepth 20000 in
theorem ggX8_tests_X8_get : GoodIn wsX8_tests wsX8_get := goodIn_r _ [5, 6, 7, 8, 9, 10, 11, 12, 13, 14, 15, 16, 17, 18, 19, 20, 21, 22, 23, 24, 25, 26, 27, 28, 29, 30] (by decide +kernel) (by decide +kernel)
set_option maxRecDepth 20000 in
theorem gX8_tests_X8_get : GoodIn wsX8_tests (wsV RX8 67 RX8 yX8_get wsX8_get) := goodIn_app (goodIn_of _ (by decide +kernel)) ggX8_tests_X8_get
theorem dX8_tests_0 : decode cX8_tests 0 = .ok (.aload_n 0, 1) := by decide +kernel
theorem dX8_tests_1 : decode cX8_tests 1 = .ok (.iconst 4, 1) := by decide +kernel
theorem dX8_tests_2 : decode cX8_tests 2 = .ok (.invokevirtual 67, 3) := by decide +kernel
theorem dX8_tests_5 : decode cX8_tests 5 = .ok (.ireturn, 1) := by decide +kernel
set_option maxRecDepth 20000 in
theorem ggX8_faults_X8_wires : GoodIn wsX8_faults wsX8_wires := goodIn_r _ [5, 6, 7, 8, 4, 9, 10, 11, 12, 13, 14, 15, 16, 17, 18, 19, 20, 21, 22, 23, 24, 25, 26, 27, 28, 29, 30, 31, 32, 33, 34] (by decide +kernel) (by decide +kernel)
set_option maxRecDepth 20000 in
theorem gX8_faults_X8_wires : GoodIn wsX8_faults (wsV RX8 74 RX8 yX8_wires wsX8_wires) := goodIn_app (goodIn_of _ (by decide +kernel)) ggX8_faults_X8_wires
set_option maxRecDepth 20000 in
theorem ggX8_faults_X8_get : GoodIn wsX8_faults wsX8_get := goodIn_r _ [9, 10, 11, 12, 13, 14, 15, 16, 17, 18, 19, 20, 21, 22, 23, 24, 25, 26, 27, 28, 29, 30, 31, 32, 33, 34] (by decide +kernel) (by decide +kernel)
set_option maxRecDepth 20000 in
theorem gX8_faults_X8_get : GoodIn wsX8_faults (wsV RX8 67 RX8 yX8_get wsX8_get) := goodIn_app (goodIn_of _ (by decide +kernel)) ggX8_faults_X8_get
theorem dX8_faults_0 : decode cX8_faults 0 = .ok (.iconst 2, 1) := by decide +kernel
theorem dX8_faults_1 : decode cX8_faults 1 = .ok (.aload_n 0, 1) := by decide +kernel
theorem dX8_faults_2 : decode cX8_faults 2 = .ok (.invokevirtual 74, 3) := by decide +kernel
theorem dX8_faults_5 : decode cX8_faults 5 = .ok (.imul, 1) := by decide +kernel
theorem dX8_faults_6 : decode cX8_faults 6 = .ok (.aload_n 0, 1) := by decide +kernel
theorem dX8_faults_7 : decode cX8_faults 7 = .ok (.iconst 3, 1) := by decide +kernel
theorem dX8_faults_8 : decode cX8_faults 8 = .ok (.invokevirtual 67, 3) := by decide +kernel
theorem dX8_faults_11 : decode cX8_faults 11 = .ok (.iadd, 1) := by decide +kernel
theorem dX8_faults_12 : decode cX8_faults 12 = .ok (.ireturn, 1) := by decide +kernel
set_option maxRecDepth 20000 in
theorem ggX8_kindOf_X8_get : GoodIn wsX8_kindOf wsX8_get := goodIn_r _ [5, 6, 7, 8, 9, 10, 11, 12, 13, 14, 15, 16, 17, 18, 19, 20, 21, 22, 23, 24, 25, 26, 27, 28, 29, 30] (by decide +kernel) (by decide +kernel)
set_option maxRecDepth 20000 in
theorem gX8_kindOf_X8_get : GoodIn wsX8_kindOf (wsV RX8 67 RX8 yX8_get wsX8_get) := goodIn_app (goodIn_of _ (by decide +kernel)) ggX8_kindOf_X8_get
theorem dX8_kindOf_0 : decode cX8_kindOf 0 = .ok (.aload_n 0, 1) := by decide +kernel
theorem dX8_kindOf_1 : decode cX8_kindOf 1 = .ok (.bipush 8, 2) := by decide +kernel
theorem dX8_kindOf_3 : decode cX8_kindOf 3 = .ok (.iload_n 1, 1) := by decide +kernel
theorem dX8_kindOf_4 : decode cX8_kindOf 4 = .ok (.iadd, 1) := by decide +kernel
theorem dX8_kindOf_5 : decode cX8_kindOf 5 = .ok (.invokevirtual 67, 3) := by decide +kernel
theorem dX8_kindOf_8 : decode cX8_kindOf 8 = .ok (.ireturn, 1) := by decide +kernel
set_option maxRecDepth 20000 in
theorem ggX8_have_X8_get : GoodIn wsX8_have wsX8_get := goodIn_r _ [5, 6, 7, 8, 9, 10, 11, 12, 13, 14, 15, 16, 17, 18, 19, 20, 21, 22, 23, 24, 25, 26, 27, 28, 29, 30] (by decide +kernel) (by decide +kernel)
set_option maxRecDepth 20000 in
theorem gX8_have_X8_get : GoodIn wsX8_have (wsV RX8 67 RX8 yX8_get wsX8_get) := goodIn_app (goodIn_of _ (by decide +kernel)) ggX8_have_X8_get
theorem dX8_have_0 : decode cX8_have 0 = .ok (.aload_n 0, 1) := by decide +kernel
theorem dX8_have_1 : decode cX8_have 1 = .ok (.bipush 32, 2) := by decide +kernel
theorem dX8_have_3 : decode cX8_have 3 = .ok (.iload_n 1, 1) := by decide +kernel
theorem dX8_have_4 : decode cX8_have 4 = .ok (.iadd, 1) := by decide +kernel
theorem dX8_have_5 : decode cX8_have 5 = .ok (.invokevirtual 67, 3) := by decide +kernel
theorem dX8_have_8 : decode cX8_have 8 = .ok (.ireturn, 1) := by decide +kernel
set_option maxRecDepth 20000 in
theorem ggX8_operandOf_X8_get : GoodIn wsX8_operandOf wsX8_get := goodIn_r _ [5, 6, 7, 8, 9, 10, 11, 12, 13, 14, 15, 16, 17, 18, 19, 20, 21, 22, 23, 24, 25, 26, 27, 28, 29, 30] (by decide +kernel) (by decide +kernel)
set_option maxRecDepth 20000 in
theorem gX8_operandOf_X8_get : GoodIn wsX8_operandOf (wsV RX8 67 RX8 yX8_get wsX8_get) := goodIn_app (goodIn_of _ (by decide +kernel)) ggX8_operandOf_X8_get
theorem dX8_operandOf_0 : decode cX8_operandOf 0 = .ok (.aload_n 0, 1) := by decide +kernel
theorem dX8_operandOf_1 : decode cX8_operandOf 1 = .ok (.bipush 56, 2) := by decide +kernel
theorem dX8_operandOf_3 : decode cX8_operandOf 3 = .ok (.iconst 4, 1) := by decide +kernel
theorem dX8_operandOf_4 : decode cX8_operandOf 4 = .ok (.iload_n 1, 1) := by decide +kernel
theorem dX8_operandOf_5 : decode cX8_operandOf 5 = .ok (.imul, 1) := by decide +kernel
theorem dX8_operandOf_6 : decode cX8_operandOf 6 = .ok (.iadd, 1) := by decide +kernel
theorem dX8_operandOf_7 : decode cX8_operandOf 7 = .ok (.iload_n 2, 1) := by decide +kernel
theorem dX8_operandOf_8 : decode cX8_operandOf 8 = .ok (.iadd, 1) := by decide +kernel
theorem dX8_operandOf_9 : decode cX8_operandOf 9 = .ok (.invokevirtual 67, 3) := by decide +kernel
theorem dX8_operandOf_12 : decode cX8_operandOf 12 = .ok (.ireturn, 1) := by decide +kernel
set_option maxRecDepth 20000 in
theorem ggX8_levelOf_X8_inputs : GoodIn wsX8_levelOf wsX8_inputs := goodIn_r _ [6, 7, 8, 9, 5, 10, 11, 12, 21, 22, 23, 24, 25, 26, 27, 28, 29, 30, 31, 32, 33, 34, 35, 36, 37, 38, 39, 40, 41, 42, 43] (by decide +kernel) (by decide +kernel)
set_option maxRecDepth 20000 in
theorem gX8_levelOf_X8_inputs : GoodIn wsX8_levelOf (wsV RX8 78 RX8 yX8_inputs wsX8_inputs) := goodIn_app (goodIn_of _ (by decide +kernel)) ggX8_levelOf_X8_inputs
set_option maxRecDepth 20000 in
theorem ggX8_levelOf_X8_have : GoodIn wsX8_levelOf wsX8_have := goodIn_r _ [16, 7, 8, 9, 5, 10, 11, 12, 21, 22, 23, 24, 25, 26, 27, 28, 29, 30, 31, 32, 33, 34, 35, 36, 37, 38, 39, 40, 41, 42, 43] (by decide +kernel) (by decide +kernel)
set_option maxRecDepth 20000 in
theorem gX8_levelOf_X8_have : GoodIn wsX8_levelOf (wsV RX8 81 RX8 yX8_have wsX8_have) := goodIn_app (goodIn_of _ (by decide +kernel)) ggX8_levelOf_X8_have
set_option maxRecDepth 20000 in
theorem ggX8_levelOf_X8_operandOf : GoodIn wsX8_levelOf wsX8_operandOf := goodIn_r _ [20, 7, 8, 9, 5, 10, 11, 12, 21, 22, 23, 24, 25, 26, 27, 28, 29, 30, 31, 32, 33, 34, 35, 36, 37, 38, 39, 40, 41, 42, 43] (by decide +kernel) (by decide +kernel)
set_option maxRecDepth 20000 in
theorem gX8_levelOf_X8_operandOf : GoodIn wsX8_levelOf (wsV RX8 84 RX8 yX8_operandOf wsX8_operandOf) := goodIn_app (goodIn_of _ (by decide +kernel)) ggX8_levelOf_X8_operandOf
theorem dX8_levelOf_0 : decode cX8_levelOf 0 = .ok (.iconst 0, 1) := by decide +kernel
theorem dX8_levelOf_1 : decode cX8_levelOf 1 = .ok (.istore_n 2, 1) := by decide +kernel
theorem dX8_levelOf_2 : decode cX8_levelOf 2 = .ok (.aload_n 0, 1) := by decide +kernel
theorem dX8_levelOf_3 : decode cX8_levelOf 3 = .ok (.invokevirtual 78, 3) := by decide +kernel
theorem dX8_levelOf_6 : decode cX8_levelOf 6 = .ok (.istore_n 3, 1) := by decide +kernel
theorem dX8_levelOf_7 : decode cX8_levelOf 7 = .ok (.iload_n 3, 1) := by decide +kernel
theorem dX8_levelOf_8 : decode cX8_levelOf 8 = .ok (.iload_n 1, 1) := by decide +kernel
theorem dX8_levelOf_9 : decode cX8_levelOf 9 = .ok (.if_icmp .gt 115, 3) := by decide +kernel
theorem dX8_levelOf_12 : decode cX8_levelOf 12 = .ok (.aload_n 0, 1) := by decide +kernel
theorem dX8_levelOf_13 : decode cX8_levelOf 13 = .ok (.getfield 16, 3) := by decide +kernel
theorem dX8_levelOf_16 : decode cX8_levelOf 16 = .ok (.iload_n 3, 1) := by decide +kernel
theorem dX8_levelOf_17 : decode cX8_levelOf 17 = .ok (.iconst 0, 1) := by decide +kernel
theorem dX8_levelOf_18 : decode cX8_levelOf 18 = .ok (.iastore, 1) := by decide +kernel
theorem dX8_levelOf_19 : decode cX8_levelOf 19 = .ok (.iconst 0, 1) := by decide +kernel
theorem dX8_levelOf_20 : decode cX8_levelOf 20 = .ok (.istore 4, 2) := by decide +kernel
theorem dX8_levelOf_22 : decode cX8_levelOf 22 = .ok (.iload 4, 2) := by decide +kernel
theorem dX8_levelOf_24 : decode cX8_levelOf 24 = .ok (.aload_n 0, 1) := by decide +kernel
theorem dX8_levelOf_25 : decode cX8_levelOf 25 = .ok (.iload_n 3, 1) := by decide +kernel
theorem dX8_levelOf_26 : decode cX8_levelOf 26 = .ok (.invokevirtual 81, 3) := by decide +kernel
theorem dX8_levelOf_29 : decode cX8_levelOf 29 = .ok (.if_icmp .ge 73, 3) := by decide +kernel
theorem dX8_levelOf_32 : decode cX8_levelOf 32 = .ok (.aload_n 0, 1) := by decide +kernel
theorem dX8_levelOf_33 : decode cX8_levelOf 33 = .ok (.iload_n 3, 1) := by decide +kernel
theorem dX8_levelOf_34 : decode cX8_levelOf 34 = .ok (.iload 4, 2) := by decide +kernel
theorem dX8_levelOf_36 : decode cX8_levelOf 36 = .ok (.invokevirtual 84, 3) := by decide +kernel
theorem dX8_levelOf_39 : decode cX8_levelOf 39 = .ok (.aload_n 0, 1) := by decide +kernel
theorem dX8_levelOf_40 : decode cX8_levelOf 40 = .ok (.invokevirtual 78, 3) := by decide +kernel
theorem dX8_levelOf_43 : decode cX8_levelOf 43 = .ok (.if_icmp .ge 7, 3) := by decide +kernel
theorem dX8_levelOf_46 : decode cX8_levelOf 46 = .ok (.iconst 0, 1) := by decide +kernel
theorem dX8_levelOf_47 : decode cX8_levelOf 47 = .ok (.goto 15, 3) := by decide +kernel
theorem dX8_levelOf_50 : decode cX8_levelOf 50 = .ok (.aload_n 0, 1) := by decide +kernel
theorem dX8_levelOf_51 : decode cX8_levelOf 51 = .ok (.getfield 16, 3) := by decide +kernel
theorem dX8_levelOf_54 : decode cX8_levelOf 54 = .ok (.aload_n 0, 1) := by decide +kernel
theorem dX8_levelOf_55 : decode cX8_levelOf 55 = .ok (.iload_n 3, 1) := by decide +kernel
theorem dX8_levelOf_56 : decode cX8_levelOf 56 = .ok (.iload 4, 2) := by decide +kernel
theorem dX8_levelOf_58 : decode cX8_levelOf 58 = .ok (.invokevirtual 84, 3) := by decide +kernel
theorem dX8_levelOf_61 : decode cX8_levelOf 61 = .ok (.iaload, 1) := by decide +kernel
theorem dX8_levelOf_62 : decode cX8_levelOf 62 = .ok (.istore 5, 2) := by decide +kernel
theorem dX8_levelOf_64 : decode cX8_levelOf 64 = .ok (.aload_n 0, 1) := by decide +kernel
theorem dX8_levelOf_65 : decode cX8_levelOf 65 = .ok (.getfield 16, 3) := by decide +kernel
theorem dX8_levelOf_68 : decode cX8_levelOf 68 = .ok (.iload_n 3, 1) := by decide +kernel
theorem dX8_levelOf_69 : decode cX8_levelOf 69 = .ok (.iload 5, 2) := by decide +kernel
theorem dX8_levelOf_71 : decode cX8_levelOf 71 = .ok (.iconst 1, 1) := by decide +kernel
theorem dX8_levelOf_72 : decode cX8_levelOf 72 = .ok (.iadd, 1) := by decide +kernel
theorem dX8_levelOf_73 : decode cX8_levelOf 73 = .ok (.aload_n 0, 1) := by decide +kernel
theorem dX8_levelOf_74 : decode cX8_levelOf 74 = .ok (.getfield 16, 3) := by decide +kernel
theorem dX8_levelOf_77 : decode cX8_levelOf 77 = .ok (.iload_n 3, 1) := by decide +kernel
theorem dX8_levelOf_78 : decode cX8_levelOf 78 = .ok (.iaload, 1) := by decide +kernel
theorem dX8_levelOf_79 : decode cX8_levelOf 79 = .ok (.if_icmp .le 10, 3) := by decide +kernel
theorem dX8_levelOf_82 : decode cX8_levelOf 82 = .ok (.iload 5, 2) := by decide +kernel
theorem dX8_levelOf_84 : decode cX8_levelOf 84 = .ok (.iconst 1, 1) := by decide +kernel
theorem dX8_levelOf_85 : decode cX8_levelOf 85 = .ok (.iadd, 1) := by decide +kernel
theorem dX8_levelOf_86 : decode cX8_levelOf 86 = .ok (.goto 9, 3) := by decide +kernel
theorem dX8_levelOf_89 : decode cX8_levelOf 89 = .ok (.aload_n 0, 1) := by decide +kernel
theorem dX8_levelOf_90 : decode cX8_levelOf 90 = .ok (.getfield 16, 3) := by decide +kernel
theorem dX8_levelOf_93 : decode cX8_levelOf 93 = .ok (.iload_n 3, 1) := by decide +kernel
theorem dX8_levelOf_94 : decode cX8_levelOf 94 = .ok (.iaload, 1) := by decide +kernel
theorem dX8_levelOf_95 : decode cX8_levelOf 95 = .ok (.iastore, 1) := by decide +kernel
theorem dX8_levelOf_96 : decode cX8_levelOf 96 = .ok (.iinc 4 1, 3) := by decide +kernel
theorem dX8_levelOf_99 : decode cX8_levelOf 99 = .ok (.goto (-77), 3) := by decide +kernel
theorem dX8_levelOf_102 : decode cX8_levelOf 102 = .ok (.iload_n 3, 1) := by decide +kernel
theorem dX8_levelOf_103 : decode cX8_levelOf 103 = .ok (.iload_n 1, 1) := by decide +kernel
theorem dX8_levelOf_104 : decode cX8_levelOf 104 = .ok (.if_icmp .ne 12, 3) := by decide +kernel
theorem dX8_levelOf_107 : decode cX8_levelOf 107 = .ok (.aload_n 0, 1) := by decide +kernel
theorem dX8_levelOf_108 : decode cX8_levelOf 108 = .ok (.getfield 16, 3) := by decide +kernel
theorem dX8_levelOf_111 : decode cX8_levelOf 111 = .ok (.iload_n 3, 1) := by decide +kernel
theorem dX8_levelOf_112 : decode cX8_levelOf 112 = .ok (.iaload, 1) := by decide +kernel
theorem dX8_levelOf_113 : decode cX8_levelOf 113 = .ok (.goto 4, 3) := by decide +kernel
theorem dX8_levelOf_116 : decode cX8_levelOf 116 = .ok (.iload_n 2, 1) := by decide +kernel
theorem dX8_levelOf_117 : decode cX8_levelOf 117 = .ok (.istore_n 2, 1) := by decide +kernel
theorem dX8_levelOf_118 : decode cX8_levelOf 118 = .ok (.iinc 3 1, 3) := by decide +kernel
theorem dX8_levelOf_121 : decode cX8_levelOf 121 = .ok (.goto (-114), 3) := by decide +kernel
theorem dX8_levelOf_124 : decode cX8_levelOf 124 = .ok (.iload_n 2, 1) := by decide +kernel
theorem dX8_levelOf_125 : decode cX8_levelOf 125 = .ok (.ireturn, 1) := by decide +kernel
theorem dX8_turned_0 : decode cX8_turned 0 = .ok (.iload_n 0, 1) := by decide +kernel
theorem dX8_turned_1 : decode cX8_turned 1 = .ok (.iconst 2, 1) := by decide +kernel
theorem dX8_turned_2 : decode cX8_turned 2 = .ok (.if_icmp .ne 7, 3) := by decide +kernel
theorem dX8_turned_5 : decode cX8_turned 5 = .ok (.iconst 2, 1) := by decide +kernel
theorem dX8_turned_6 : decode cX8_turned 6 = .ok (.goto 6, 3) := by decide +kernel
theorem dX8_turned_9 : decode cX8_turned 9 = .ok (.iconst 1, 1) := by decide +kernel
theorem dX8_turned_10 : decode cX8_turned 10 = .ok (.iload_n 0, 1) := by decide +kernel
theorem dX8_turned_11 : decode cX8_turned 11 = .ok (.isub, 1) := by decide +kernel
theorem dX8_turned_12 : decode cX8_turned 12 = .ok (.ireturn, 1) := by decide +kernel
theorem dX8_decided_0 : decode cX8_decided 0 = .ok (.iload_n 0, 1) := by decide +kernel
theorem dX8_decided_1 : decode cX8_decided 1 = .ok (.iload_n 2, 1) := by decide +kernel
theorem dX8_decided_2 : decode cX8_decided 2 = .ok (.if_icmp .eq 8, 3) := by decide +kernel
theorem dX8_decided_5 : decode cX8_decided 5 = .ok (.iload_n 1, 1) := by decide +kernel
theorem dX8_decided_6 : decode cX8_decided 6 = .ok (.iload_n 2, 1) := by decide +kernel
theorem dX8_decided_7 : decode cX8_decided 7 = .ok (.if_icmp .ne 7, 3) := by decide +kernel
theorem dX8_decided_10 : decode cX8_decided 10 = .ok (.iload_n 2, 1) := by decide +kernel
theorem dX8_decided_11 : decode cX8_decided 11 = .ok (.goto 20, 3) := by decide +kernel
theorem dX8_decided_14 : decode cX8_decided 14 = .ok (.iload_n 0, 1) := by decide +kernel
theorem dX8_decided_15 : decode cX8_decided 15 = .ok (.iconst 2, 1) := by decide +kernel
theorem dX8_decided_16 : decode cX8_decided 16 = .ok (.if_icmp .eq 8, 3) := by decide +kernel
theorem dX8_decided_19 : decode cX8_decided 19 = .ok (.iload_n 1, 1) := by decide +kernel
theorem dX8_decided_20 : decode cX8_decided 20 = .ok (.iconst 2, 1) := by decide +kernel
theorem dX8_decided_21 : decode cX8_decided 21 = .ok (.if_icmp .ne 7, 3) := by decide +kernel
theorem dX8_decided_24 : decode cX8_decided 24 = .ok (.iconst 2, 1) := by decide +kernel
theorem dX8_decided_25 : decode cX8_decided 25 = .ok (.goto 6, 3) := by decide +kernel
theorem dX8_decided_28 : decode cX8_decided 28 = .ok (.iconst 1, 1) := by decide +kernel
theorem dX8_decided_29 : decode cX8_decided 29 = .ok (.iload_n 2, 1) := by decide +kernel
theorem dX8_decided_30 : decode cX8_decided 30 = .ok (.isub, 1) := by decide +kernel
theorem dX8_decided_31 : decode cX8_decided 31 = .ok (.ireturn, 1) := by decide +kernel
set_option maxRecDepth 20000 in
theorem ggX8_gate_X8_kindOf : GoodIn wsX8_gate wsX8_kindOf := goodIn_r _ [5, 6, 7, 8, 4, 9, 10, 11, 26, 27, 28, 29, 30, 31, 32, 33, 34, 35, 36, 37, 38, 39, 40, 41, 42, 43, 44, 45, 46, 47, 48] (by decide +kernel) (by decide +kernel)
set_option maxRecDepth 20000 in
theorem gX8_gate_X8_kindOf : GoodIn wsX8_gate (wsV RX8 88 RX8 yX8_kindOf wsX8_kindOf) := goodIn_app (goodIn_of _ (by decide +kernel)) ggX8_gate_X8_kindOf
set_option maxRecDepth 20000 in
theorem ggX8_gate_X8_operandOf : GoodIn wsX8_gate wsX8_operandOf := goodIn_r _ [15, 6, 7, 8, 4, 9, 10, 11, 26, 27, 28, 29, 30, 31, 32, 33, 34, 35, 36, 37, 38, 39, 40, 41, 42, 43, 44, 45, 46, 47, 48] (by decide +kernel) (by decide +kernel)
set_option maxRecDepth 20000 in
theorem gX8_gate_X8_operandOf : GoodIn wsX8_gate (wsV RX8 84 RX8 yX8_operandOf wsX8_operandOf) := goodIn_app (goodIn_of _ (by decide +kernel)) ggX8_gate_X8_operandOf
set_option maxRecDepth 20000 in
theorem ggX8_gate_X8_turned : GoodIn wsX8_gate wsX8_turned := goodIn_r _ [18] (by decide +kernel) (by decide +kernel)
set_option maxRecDepth 20000 in
theorem gX8_gate_X8_turned : GoodIn wsX8_gate (va_wsS RX8 91 yX8_turned wsX8_turned) := goodIn_app (goodIn_of _ (by decide +kernel)) ggX8_gate_X8_turned
set_option maxRecDepth 20000 in
theorem ggX8_gate_X8_have : GoodIn wsX8_gate wsX8_have := goodIn_r _ [22, 6, 7, 8, 4, 9, 10, 11, 26, 27, 28, 29, 30, 31, 32, 33, 34, 35, 36, 37, 38, 39, 40, 41, 42, 43, 44, 45, 46, 47, 48] (by decide +kernel) (by decide +kernel)
set_option maxRecDepth 20000 in
theorem gX8_gate_X8_have : GoodIn wsX8_gate (wsV RX8 81 RX8 yX8_have wsX8_have) := goodIn_app (goodIn_of _ (by decide +kernel)) ggX8_gate_X8_have
set_option maxRecDepth 20000 in
theorem ggX8_gate_X8_decided : GoodIn wsX8_gate wsX8_decided := goodIn_r _ [25] (by decide +kernel) (by decide +kernel)
set_option maxRecDepth 20000 in
theorem gX8_gate_X8_decided : GoodIn wsX8_gate (va_wsS RX8 94 yX8_decided wsX8_decided) := goodIn_app (goodIn_of _ (by decide +kernel)) ggX8_gate_X8_decided
theorem dX8_gate_0 : decode cX8_gate 0 = .ok (.aload_n 0, 1) := by decide +kernel
theorem dX8_gate_1 : decode cX8_gate 1 = .ok (.iload_n 1, 1) := by decide +kernel
theorem dX8_gate_2 : decode cX8_gate 2 = .ok (.invokevirtual 88, 3) := by decide +kernel
theorem dX8_gate_5 : decode cX8_gate 5 = .ok (.istore_n 3, 1) := by decide +kernel
theorem dX8_gate_6 : decode cX8_gate 6 = .ok (.aload_n 2, 1) := by decide +kernel
theorem dX8_gate_7 : decode cX8_gate 7 = .ok (.aload_n 0, 1) := by decide +kernel
theorem dX8_gate_8 : decode cX8_gate 8 = .ok (.iload_n 1, 1) := by decide +kernel
theorem dX8_gate_9 : decode cX8_gate 9 = .ok (.iconst 0, 1) := by decide +kernel
theorem dX8_gate_10 : decode cX8_gate 10 = .ok (.invokevirtual 84, 3) := by decide +kernel
theorem dX8_gate_13 : decode cX8_gate 13 = .ok (.iaload, 1) := by decide +kernel
theorem dX8_gate_14 : decode cX8_gate 14 = .ok (.istore 4, 2) := by decide +kernel
theorem dX8_gate_16 : decode cX8_gate 16 = .ok (.iload_n 3, 1) := by decide +kernel
theorem dX8_gate_17 : decode cX8_gate 17 = .ok (.bipush 6, 2) := by decide +kernel
theorem dX8_gate_19 : decode cX8_gate 19 = .ok (.if_icmp .eq 9, 3) := by decide +kernel
theorem dX8_gate_22 : decode cX8_gate 22 = .ok (.iload_n 3, 1) := by decide +kernel
theorem dX8_gate_23 : decode cX8_gate 23 = .ok (.bipush 7, 2) := by decide +kernel
theorem dX8_gate_25 : decode cX8_gate 25 = .ok (.if_icmp .ne 20, 3) := by decide +kernel
theorem dX8_gate_28 : decode cX8_gate 28 = .ok (.iload_n 3, 1) := by decide +kernel
theorem dX8_gate_29 : decode cX8_gate 29 = .ok (.bipush 6, 2) := by decide +kernel
theorem dX8_gate_31 : decode cX8_gate 31 = .ok (.if_icmp .ne 11, 3) := by decide +kernel
theorem dX8_gate_34 : decode cX8_gate 34 = .ok (.iload 4, 2) := by decide +kernel
theorem dX8_gate_36 : decode cX8_gate 36 = .ok (.invokestatic 91, 3) := by decide +kernel
theorem dX8_gate_39 : decode cX8_gate 39 = .ok (.goto 5, 3) := by decide +kernel
theorem dX8_gate_42 : decode cX8_gate 42 = .ok (.iload 4, 2) := by decide +kernel
theorem dX8_gate_44 : decode cX8_gate 44 = .ok (.ireturn, 1) := by decide +kernel
theorem dX8_gate_45 : decode cX8_gate 45 = .ok (.iload_n 3, 1) := by decide +kernel
theorem dX8_gate_46 : decode cX8_gate 46 = .ok (.bipush 8, 2) := by decide +kernel
theorem dX8_gate_48 : decode cX8_gate 48 = .ok (.if_icmp .ne 58, 3) := by decide +kernel
theorem dX8_gate_51 : decode cX8_gate 51 = .ok (.aload_n 2, 1) := by decide +kernel
theorem dX8_gate_52 : decode cX8_gate 52 = .ok (.aload_n 0, 1) := by decide +kernel
theorem dX8_gate_53 : decode cX8_gate 53 = .ok (.iload_n 1, 1) := by decide +kernel
theorem dX8_gate_54 : decode cX8_gate 54 = .ok (.iconst 1, 1) := by decide +kernel
theorem dX8_gate_55 : decode cX8_gate 55 = .ok (.invokevirtual 84, 3) := by decide +kernel
theorem dX8_gate_58 : decode cX8_gate 58 = .ok (.iaload, 1) := by decide +kernel
theorem dX8_gate_59 : decode cX8_gate 59 = .ok (.istore 5, 2) := by decide +kernel
theorem dX8_gate_61 : decode cX8_gate 61 = .ok (.aload_n 2, 1) := by decide +kernel
theorem dX8_gate_62 : decode cX8_gate 62 = .ok (.aload_n 0, 1) := by decide +kernel
theorem dX8_gate_63 : decode cX8_gate 63 = .ok (.iload_n 1, 1) := by decide +kernel
theorem dX8_gate_64 : decode cX8_gate 64 = .ok (.iconst 2, 1) := by decide +kernel
theorem dX8_gate_65 : decode cX8_gate 65 = .ok (.invokevirtual 84, 3) := by decide +kernel
theorem dX8_gate_68 : decode cX8_gate 68 = .ok (.iaload, 1) := by decide +kernel
theorem dX8_gate_69 : decode cX8_gate 69 = .ok (.istore 6, 2) := by decide +kernel
theorem dX8_gate_71 : decode cX8_gate 71 = .ok (.iload 4, 2) := by decide +kernel
theorem dX8_gate_73 : decode cX8_gate 73 = .ok (.ifCond .ne 8, 3) := by decide +kernel
theorem dX8_gate_76 : decode cX8_gate 76 = .ok (.iload 5, 2) := by decide +kernel
theorem dX8_gate_78 : decode cX8_gate 78 = .ok (.goto 27, 3) := by decide +kernel
theorem dX8_gate_81 : decode cX8_gate 81 = .ok (.iload 4, 2) := by decide +kernel
theorem dX8_gate_83 : decode cX8_gate 83 = .ok (.iconst 1, 1) := by decide +kernel
theorem dX8_gate_84 : decode cX8_gate 84 = .ok (.if_icmp .ne 8, 3) := by decide +kernel
theorem dX8_gate_87 : decode cX8_gate 87 = .ok (.iload 6, 2) := by decide +kernel
theorem dX8_gate_89 : decode cX8_gate 89 = .ok (.goto 16, 3) := by decide +kernel
theorem dX8_gate_92 : decode cX8_gate 92 = .ok (.iload 5, 2) := by decide +kernel
theorem dX8_gate_94 : decode cX8_gate 94 = .ok (.iload 6, 2) := by decide +kernel
theorem dX8_gate_96 : decode cX8_gate 96 = .ok (.if_icmp .ne 8, 3) := by decide +kernel
theorem dX8_gate_99 : decode cX8_gate 99 = .ok (.iload 5, 2) := by decide +kernel
theorem dX8_gate_101 : decode cX8_gate 101 = .ok (.goto 4, 3) := by decide +kernel
theorem dX8_gate_104 : decode cX8_gate 104 = .ok (.iconst 2, 1) := by decide +kernel
theorem dX8_gate_105 : decode cX8_gate 105 = .ok (.ireturn, 1) := by decide +kernel
theorem dX8_gate_106 : decode cX8_gate 106 = .ok (.iload_n 3, 1) := by decide +kernel
theorem dX8_gate_107 : decode cX8_gate 107 = .ok (.iconst 4, 1) := by decide +kernel
theorem dX8_gate_108 : decode cX8_gate 108 = .ok (.if_icmp .eq 8, 3) := by decide +kernel
theorem dX8_gate_111 : decode cX8_gate 111 = .ok (.iload_n 3, 1) := by decide +kernel
theorem dX8_gate_112 : decode cX8_gate 112 = .ok (.iconst 5, 1) := by decide +kernel
theorem dX8_gate_113 : decode cX8_gate 113 = .ok (.if_icmp .ne 7, 3) := by decide +kernel
theorem dX8_gate_116 : decode cX8_gate 116 = .ok (.iconst 1, 1) := by decide +kernel
theorem dX8_gate_117 : decode cX8_gate 117 = .ok (.goto 4, 3) := by decide +kernel
theorem dX8_gate_120 : decode cX8_gate 120 = .ok (.iconst 0, 1) := by decide +kernel
theorem dX8_gate_121 : decode cX8_gate 121 = .ok (.istore 5, 2) := by decide +kernel
theorem dX8_gate_123 : decode cX8_gate 123 = .ok (.iconst 1, 1) := by decide +kernel
theorem dX8_gate_124 : decode cX8_gate 124 = .ok (.istore 6, 2) := by decide +kernel
theorem dX8_gate_126 : decode cX8_gate 126 = .ok (.iload 6, 2) := by decide +kernel
theorem dX8_gate_128 : decode cX8_gate 128 = .ok (.aload_n 0, 1) := by decide +kernel
theorem dX8_gate_129 : decode cX8_gate 129 = .ok (.iload_n 1, 1) := by decide +kernel
theorem dX8_gate_130 : decode cX8_gate 130 = .ok (.invokevirtual 81, 3) := by decide +kernel
theorem dX8_gate_133 : decode cX8_gate 133 = .ok (.if_icmp .ge 81, 3) := by decide +kernel
theorem dX8_gate_136 : decode cX8_gate 136 = .ok (.aload_n 2, 1) := by decide +kernel
theorem dX8_gate_137 : decode cX8_gate 137 = .ok (.aload_n 0, 1) := by decide +kernel
theorem dX8_gate_138 : decode cX8_gate 138 = .ok (.iload_n 1, 1) := by decide +kernel
theorem dX8_gate_139 : decode cX8_gate 139 = .ok (.iload 6, 2) := by decide +kernel
theorem dX8_gate_141 : decode cX8_gate 141 = .ok (.invokevirtual 84, 3) := by decide +kernel
theorem dX8_gate_144 : decode cX8_gate 144 = .ok (.iaload, 1) := by decide +kernel
theorem dX8_gate_145 : decode cX8_gate 145 = .ok (.istore 7, 2) := by decide +kernel
theorem dX8_gate_147 : decode cX8_gate 147 = .ok (.iload 5, 2) := by decide +kernel
theorem dX8_gate_149 : decode cX8_gate 149 = .ok (.ifCond .eq 36, 3) := by decide +kernel
theorem dX8_gate_152 : decode cX8_gate 152 = .ok (.iload 4, 2) := by decide +kernel
theorem dX8_gate_154 : decode cX8_gate 154 = .ok (.iconst 2, 1) := by decide +kernel
theorem dX8_gate_155 : decode cX8_gate 155 = .ok (.if_icmp .eq 9, 3) := by decide +kernel
theorem dX8_gate_158 : decode cX8_gate 158 = .ok (.iload 7, 2) := by decide +kernel
theorem dX8_gate_160 : decode cX8_gate 160 = .ok (.iconst 2, 1) := by decide +kernel
theorem dX8_gate_161 : decode cX8_gate 161 = .ok (.if_icmp .ne 7, 3) := by decide +kernel
theorem dX8_gate_164 : decode cX8_gate 164 = .ok (.iconst 2, 1) := by decide +kernel
theorem dX8_gate_165 : decode cX8_gate 165 = .ok (.goto 15, 3) := by decide +kernel
theorem dX8_gate_168 : decode cX8_gate 168 = .ok (.iload 4, 2) := by decide +kernel
theorem dX8_gate_170 : decode cX8_gate 170 = .ok (.iload 7, 2) := by decide +kernel
theorem dX8_gate_172 : decode cX8_gate 172 = .ok (.if_icmp .ne 7, 3) := by decide +kernel
theorem dX8_gate_175 : decode cX8_gate 175 = .ok (.iconst 0, 1) := by decide +kernel
theorem dX8_gate_176 : decode cX8_gate 176 = .ok (.goto 4, 3) := by decide +kernel
theorem dX8_gate_179 : decode cX8_gate 179 = .ok (.iconst 1, 1) := by decide +kernel
theorem dX8_gate_180 : decode cX8_gate 180 = .ok (.istore 4, 2) := by decide +kernel
theorem dX8_gate_182 : decode cX8_gate 182 = .ok (.goto 26, 3) := by decide +kernel
theorem dX8_gate_185 : decode cX8_gate 185 = .ok (.iload 4, 2) := by decide +kernel
theorem dX8_gate_187 : decode cX8_gate 187 = .ok (.iload 7, 2) := by decide +kernel
theorem dX8_gate_189 : decode cX8_gate 189 = .ok (.iload_n 3, 1) := by decide +kernel
theorem dX8_gate_190 : decode cX8_gate 190 = .ok (.ifCond .eq 8, 3) := by decide +kernel
theorem dX8_gate_193 : decode cX8_gate 193 = .ok (.iload_n 3, 1) := by decide +kernel
theorem dX8_gate_194 : decode cX8_gate 194 = .ok (.iconst 2, 1) := by decide +kernel
theorem dX8_gate_195 : decode cX8_gate 195 = .ok (.if_icmp .ne 7, 3) := by decide +kernel
theorem dX8_gate_198 : decode cX8_gate 198 = .ok (.iconst 0, 1) := by decide +kernel
theorem dX8_gate_199 : decode cX8_gate 199 = .ok (.goto 4, 3) := by decide +kernel
theorem dX8_gate_202 : decode cX8_gate 202 = .ok (.iconst 1, 1) := by decide +kernel
theorem dX8_gate_203 : decode cX8_gate 203 = .ok (.invokestatic 94, 3) := by decide +kernel
theorem dX8_gate_206 : decode cX8_gate 206 = .ok (.istore 4, 2) := by decide +kernel
theorem dX8_gate_208 : decode cX8_gate 208 = .ok (.iinc 6 1, 3) := by decide +kernel
theorem dX8_gate_211 : decode cX8_gate 211 = .ok (.goto (-85), 3) := by decide +kernel
theorem dX8_gate_214 : decode cX8_gate 214 = .ok (.iload_n 3, 1) := by decide +kernel
theorem dX8_gate_215 : decode cX8_gate 215 = .ok (.iconst 2, 1) := by decide +kernel
theorem dX8_gate_216 : decode cX8_gate 216 = .ok (.if_icmp .eq 13, 3) := by decide +kernel
theorem dX8_gate_219 : decode cX8_gate 219 = .ok (.iload_n 3, 1) := by decide +kernel
theorem dX8_gate_220 : decode cX8_gate 220 = .ok (.iconst 3, 1) := by decide +kernel
theorem dX8_gate_221 : decode cX8_gate 221 = .ok (.if_icmp .eq 8, 3) := by decide +kernel
theorem dX8_gate_224 : decode cX8_gate 224 = .ok (.iload_n 3, 1) := by decide +kernel
theorem dX8_gate_225 : decode cX8_gate 225 = .ok (.iconst 5, 1) := by decide +kernel
theorem dX8_gate_226 : decode cX8_gate 226 = .ok (.if_icmp .ne 11, 3) := by decide +kernel
theorem dX8_gate_229 : decode cX8_gate 229 = .ok (.iload 4, 2) := by decide +kernel
theorem dX8_gate_231 : decode cX8_gate 231 = .ok (.invokestatic 91, 3) := by decide +kernel
theorem dX8_gate_234 : decode cX8_gate 234 = .ok (.goto 5, 3) := by decide +kernel
theorem dX8_gate_237 : decode cX8_gate 237 = .ok (.iload 4, 2) := by decide +kernel
theorem dX8_gate_239 : decode cX8_gate 239 = .ok (.ireturn, 1) := by decide +kernel
set_option maxRecDepth 20000 in
theorem ggX8_cleans_X8_wires : GoodIn wsX8_cleans wsX8_wires := goodIn_r _ [7, 8, 9, 10, 6, 11, 12, 13, 40, 41, 42, 43, 44, 45, 46, 47, 48, 49, 50, 51, 52, 53, 54, 55, 56, 57, 58, 59, 60, 61, 62] (by decide +kernel) (by decide +kernel)
set_option maxRecDepth 20000 in
theorem gX8_cleans_X8_wires : GoodIn wsX8_cleans (wsV RX8 74 RX8 yX8_wires wsX8_wires) := goodIn_app (goodIn_of _ (by decide +kernel)) ggX8_cleans_X8_wires
set_option maxRecDepth 20000 in
theorem ggX8_cleans_X8_inputs : GoodIn wsX8_cleans wsX8_inputs := goodIn_r _ [17, 8, 9, 10, 6, 11, 12, 13, 40, 41, 42, 43, 44, 45, 46, 47, 48, 49, 50, 51, 52, 53, 54, 55, 56, 57, 58, 59, 60, 61, 62] (by decide +kernel) (by decide +kernel)
set_option maxRecDepth 20000 in
theorem gX8_cleans_X8_inputs : GoodIn wsX8_cleans (wsV RX8 78 RX8 yX8_inputs wsX8_inputs) := goodIn_app (goodIn_of _ (by decide +kernel)) ggX8_cleans_X8_inputs
set_option maxRecDepth 20000 in
theorem ggX8_cleans_X8_gate : GoodIn wsX8_cleans wsX8_gate := goodIn_r _ [21, 22, 23, 24, 6, 25, 8, 9, 10, 11, 12, 13, 26, 27, 28, 29, 30, 31, 32, 33, 34, 35, 36, 37, 38, 39, 40, 41, 42, 43, 44, 45, 46, 47, 48, 49, 50, 51, 52, 53, 54, 55, 56, 57, 58, 59, 60, 61, 62] (by decide +kernel) (by decide +kernel)
set_option maxRecDepth 20000 in
theorem gX8_cleans_X8_gate : GoodIn wsX8_cleans (wsV RX8 98 RX8 yX8_gate wsX8_gate) := goodIn_app (goodIn_of _ (by decide +kernel)) ggX8_cleans_X8_gate
theorem dX8_cleans_0 : decode cX8_cleans 0 = .ok (.iconst 0, 1) := by decide +kernel
theorem dX8_cleans_1 : decode cX8_cleans 1 = .ok (.istore_n 1, 1) := by decide +kernel
theorem dX8_cleans_2 : decode cX8_cleans 2 = .ok (.iload_n 1, 1) := by decide +kernel
theorem dX8_cleans_3 : decode cX8_cleans 3 = .ok (.aload_n 0, 1) := by decide +kernel
theorem dX8_cleans_4 : decode cX8_cleans 4 = .ok (.invokevirtual 74, 3) := by decide +kernel
theorem dX8_cleans_7 : decode cX8_cleans 7 = .ok (.if_icmp .ge 41, 3) := by decide +kernel
theorem dX8_cleans_10 : decode cX8_cleans 10 = .ok (.aload_n 0, 1) := by decide +kernel
theorem dX8_cleans_11 : decode cX8_cleans 11 = .ok (.getfield 22, 3) := by decide +kernel
theorem dX8_cleans_14 : decode cX8_cleans 14 = .ok (.iload_n 1, 1) := by decide +kernel
theorem dX8_cleans_15 : decode cX8_cleans 15 = .ok (.iload_n 1, 1) := by decide +kernel
theorem dX8_cleans_16 : decode cX8_cleans 16 = .ok (.aload_n 0, 1) := by decide +kernel
theorem dX8_cleans_17 : decode cX8_cleans 17 = .ok (.invokevirtual 78, 3) := by decide +kernel
theorem dX8_cleans_20 : decode cX8_cleans 20 = .ok (.if_icmp .ge 12, 3) := by decide +kernel
theorem dX8_cleans_23 : decode cX8_cleans 23 = .ok (.aload_n 0, 1) := by decide +kernel
theorem dX8_cleans_24 : decode cX8_cleans 24 = .ok (.getfield 19, 3) := by decide +kernel
theorem dX8_cleans_27 : decode cX8_cleans 27 = .ok (.iload_n 1, 1) := by decide +kernel
theorem dX8_cleans_28 : decode cX8_cleans 28 = .ok (.iaload, 1) := by decide +kernel
theorem dX8_cleans_29 : decode cX8_cleans 29 = .ok (.goto 12, 3) := by decide +kernel
theorem dX8_cleans_32 : decode cX8_cleans 32 = .ok (.aload_n 0, 1) := by decide +kernel
theorem dX8_cleans_33 : decode cX8_cleans 33 = .ok (.iload_n 1, 1) := by decide +kernel
theorem dX8_cleans_34 : decode cX8_cleans 34 = .ok (.aload_n 0, 1) := by decide +kernel
theorem dX8_cleans_35 : decode cX8_cleans 35 = .ok (.getfield 22, 3) := by decide +kernel
theorem dX8_cleans_38 : decode cX8_cleans 38 = .ok (.invokevirtual 98, 3) := by decide +kernel
theorem dX8_cleans_41 : decode cX8_cleans 41 = .ok (.iastore, 1) := by decide +kernel
theorem dX8_cleans_42 : decode cX8_cleans 42 = .ok (.iinc 1 1, 3) := by decide +kernel
theorem dX8_cleans_45 : decode cX8_cleans 45 = .ok (.goto (-43), 3) := by decide +kernel
theorem dX8_cleans_48 : decode cX8_cleans 48 = .ok (.return_, 1) := by decide +kernel
set_option maxRecDepth 20000 in
theorem ggX8_bends_X8_wires : GoodIn wsX8_bends wsX8_wires := goodIn_r _ [8, 9, 10, 11, 7, 12, 13, 14, 41, 42, 43, 44, 45, 46, 47, 48, 49, 50, 51, 52, 53, 54, 55, 56, 57, 58, 59, 60, 61, 62, 63] (by decide +kernel) (by decide +kernel)
set_option maxRecDepth 20000 in
theorem gX8_bends_X8_wires : GoodIn wsX8_bends (wsV RX8 74 RX8 yX8_wires wsX8_wires) := goodIn_app (goodIn_of _ (by decide +kernel)) ggX8_bends_X8_wires
set_option maxRecDepth 20000 in
theorem ggX8_bends_X8_get : GoodIn wsX8_bends wsX8_get := goodIn_r _ [12, 13, 14, 41, 42, 43, 44, 45, 46, 47, 48, 49, 50, 51, 52, 53, 54, 55, 56, 57, 58, 59, 60, 61, 62, 63] (by decide +kernel) (by decide +kernel)
set_option maxRecDepth 20000 in
theorem gX8_bends_X8_get : GoodIn wsX8_bends (wsV RX8 67 RX8 yX8_get wsX8_get) := goodIn_app (goodIn_of _ (by decide +kernel)) ggX8_bends_X8_get
set_option maxRecDepth 20000 in
theorem ggX8_bends_X8_decided : GoodIn wsX8_bends wsX8_decided := goodIn_r _ [17] (by decide +kernel) (by decide +kernel)
set_option maxRecDepth 20000 in
theorem gX8_bends_X8_decided : GoodIn wsX8_bends (va_wsS RX8 94 yX8_decided wsX8_decided) := goodIn_app (goodIn_of _ (by decide +kernel)) ggX8_bends_X8_decided
set_option maxRecDepth 20000 in
theorem ggX8_bends_X8_inputs : GoodIn wsX8_bends wsX8_inputs := goodIn_r _ [21, 9, 10, 11, 7, 12, 13, 14, 41, 42, 43, 44, 45, 46, 47, 48, 49, 50, 51, 52, 53, 54, 55, 56, 57, 58, 59, 60, 61, 62, 63] (by decide +kernel) (by decide +kernel)
set_option maxRecDepth 20000 in
theorem gX8_bends_X8_inputs : GoodIn wsX8_bends (wsV RX8 78 RX8 yX8_inputs wsX8_inputs) := goodIn_app (goodIn_of _ (by decide +kernel)) ggX8_bends_X8_inputs
set_option maxRecDepth 20000 in
theorem ggX8_bends_X8_gate : GoodIn wsX8_bends wsX8_gate := goodIn_r _ [25, 26, 27, 28, 7, 29, 9, 10, 11, 12, 13, 14, 30, 31, 32, 33, 34, 35, 36, 37, 38, 39, 40, 15, 16, 17, 41, 42, 43, 44, 45, 46, 47, 48, 49, 50, 51, 52, 53, 54, 55, 56, 57, 58, 59, 60, 61, 62, 63] (by decide +kernel) (by decide +kernel)
set_option maxRecDepth 20000 in
theorem gX8_bends_X8_gate : GoodIn wsX8_bends (wsV RX8 98 RX8 yX8_gate wsX8_gate) := goodIn_app (goodIn_of _ (by decide +kernel)) ggX8_bends_X8_gate
theorem dX8_bends_0 : decode cX8_bends 0 = .ok (.sipush 158, 3) := by decide +kernel
theorem dX8_bends_3 : decode cX8_bends 3 = .ok (.iconst 3, 1) := by decide +kernel
theorem dX8_bends_4 : decode cX8_bends 4 = .ok (.iload_n 1, 1) := by decide +kernel
theorem dX8_bends_5 : decode cX8_bends 5 = .ok (.iconst 2, 1) := by decide +kernel
theorem dX8_bends_6 : decode cX8_bends 6 = .ok (.aload_n 0, 1) := by decide +kernel
theorem dX8_bends_7 : decode cX8_bends 7 = .ok (.invokevirtual 74, 3) := by decide +kernel
theorem dX8_bends_10 : decode cX8_bends 10 = .ok (.imul, 1) := by decide +kernel
theorem dX8_bends_11 : decode cX8_bends 11 = .ok (.isub, 1) := by decide +kernel
theorem dX8_bends_12 : decode cX8_bends 12 = .ok (.imul, 1) := by decide +kernel
theorem dX8_bends_13 : decode cX8_bends 13 = .ok (.iadd, 1) := by decide +kernel
theorem dX8_bends_14 : decode cX8_bends 14 = .ok (.istore_n 2, 1) := by decide +kernel
theorem dX8_bends_15 : decode cX8_bends 15 = .ok (.iload_n 1, 1) := by decide +kernel
theorem dX8_bends_16 : decode cX8_bends 16 = .ok (.iconst 2, 1) := by decide +kernel
theorem dX8_bends_17 : decode cX8_bends 17 = .ok (.aload_n 0, 1) := by decide +kernel
theorem dX8_bends_18 : decode cX8_bends 18 = .ok (.invokevirtual 74, 3) := by decide +kernel
theorem dX8_bends_21 : decode cX8_bends 21 = .ok (.imul, 1) := by decide +kernel
theorem dX8_bends_22 : decode cX8_bends 22 = .ok (.if_icmp .lt 7, 3) := by decide +kernel
theorem dX8_bends_25 : decode cX8_bends 25 = .ok (.iconst 1, 1) := by decide +kernel
theorem dX8_bends_26 : decode cX8_bends 26 = .ok (.goto 4, 3) := by decide +kernel
theorem dX8_bends_29 : decode cX8_bends 29 = .ok (.iconst 0, 1) := by decide +kernel
theorem dX8_bends_30 : decode cX8_bends 30 = .ok (.istore_n 3, 1) := by decide +kernel
theorem dX8_bends_31 : decode cX8_bends 31 = .ok (.iload_n 3, 1) := by decide +kernel
theorem dX8_bends_32 : decode cX8_bends 32 = .ok (.ifCond .eq 46, 3) := by decide +kernel
theorem dX8_bends_35 : decode cX8_bends 35 = .ok (.aload_n 0, 1) := by decide +kernel
theorem dX8_bends_36 : decode cX8_bends 36 = .ok (.getfield 22, 3) := by decide +kernel
theorem dX8_bends_39 : decode cX8_bends 39 = .ok (.aload_n 0, 1) := by decide +kernel
theorem dX8_bends_40 : decode cX8_bends 40 = .ok (.iload_n 2, 1) := by decide +kernel
theorem dX8_bends_41 : decode cX8_bends 41 = .ok (.iconst 1, 1) := by decide +kernel
theorem dX8_bends_42 : decode cX8_bends 42 = .ok (.iadd, 1) := by decide +kernel
theorem dX8_bends_43 : decode cX8_bends 43 = .ok (.invokevirtual 67, 3) := by decide +kernel
theorem dX8_bends_46 : decode cX8_bends 46 = .ok (.iaload, 1) := by decide +kernel
theorem dX8_bends_47 : decode cX8_bends 47 = .ok (.aload_n 0, 1) := by decide +kernel
theorem dX8_bends_48 : decode cX8_bends 48 = .ok (.getfield 22, 3) := by decide +kernel
theorem dX8_bends_51 : decode cX8_bends 51 = .ok (.aload_n 0, 1) := by decide +kernel
theorem dX8_bends_52 : decode cX8_bends 52 = .ok (.iload_n 2, 1) := by decide +kernel
theorem dX8_bends_53 : decode cX8_bends 53 = .ok (.iconst 2, 1) := by decide +kernel
theorem dX8_bends_54 : decode cX8_bends 54 = .ok (.iadd, 1) := by decide +kernel
theorem dX8_bends_55 : decode cX8_bends 55 = .ok (.invokevirtual 67, 3) := by decide +kernel
theorem dX8_bends_58 : decode cX8_bends 58 = .ok (.iaload, 1) := by decide +kernel
theorem dX8_bends_59 : decode cX8_bends 59 = .ok (.aload_n 0, 1) := by decide +kernel
theorem dX8_bends_60 : decode cX8_bends 60 = .ok (.iload_n 2, 1) := by decide +kernel
theorem dX8_bends_61 : decode cX8_bends 61 = .ok (.invokevirtual 67, 3) := by decide +kernel
theorem dX8_bends_64 : decode cX8_bends 64 = .ok (.ifCond .ne 7, 3) := by decide +kernel
theorem dX8_bends_67 : decode cX8_bends 67 = .ok (.iconst 0, 1) := by decide +kernel
theorem dX8_bends_68 : decode cX8_bends 68 = .ok (.goto 4, 3) := by decide +kernel
theorem dX8_bends_71 : decode cX8_bends 71 = .ok (.iconst 1, 1) := by decide +kernel
theorem dX8_bends_72 : decode cX8_bends 72 = .ok (.invokestatic 94, 3) := by decide +kernel
theorem dX8_bends_75 : decode cX8_bends 75 = .ok (.goto 4, 3) := by decide +kernel
theorem dX8_bends_78 : decode cX8_bends 78 = .ok (.iconst (-1), 1) := by decide +kernel
theorem dX8_bends_79 : decode cX8_bends 79 = .ok (.istore 4, 2) := by decide +kernel
theorem dX8_bends_81 : decode cX8_bends 81 = .ok (.iconst 0, 1) := by decide +kernel
theorem dX8_bends_82 : decode cX8_bends 82 = .ok (.istore 5, 2) := by decide +kernel
theorem dX8_bends_84 : decode cX8_bends 84 = .ok (.iload 5, 2) := by decide +kernel
theorem dX8_bends_86 : decode cX8_bends 86 = .ok (.aload_n 0, 1) := by decide +kernel
theorem dX8_bends_87 : decode cX8_bends 87 = .ok (.invokevirtual 74, 3) := by decide +kernel
theorem dX8_bends_90 : decode cX8_bends 90 = .ok (.if_icmp .ge 108, 3) := by decide +kernel
theorem dX8_bends_93 : decode cX8_bends 93 = .ok (.aload_n 0, 1) := by decide +kernel
theorem dX8_bends_94 : decode cX8_bends 94 = .ok (.getfield 25, 3) := by decide +kernel
theorem dX8_bends_97 : decode cX8_bends 97 = .ok (.iload 5, 2) := by decide +kernel
theorem dX8_bends_99 : decode cX8_bends 99 = .ok (.iload 5, 2) := by decide +kernel
theorem dX8_bends_101 : decode cX8_bends 101 = .ok (.aload_n 0, 1) := by decide +kernel
theorem dX8_bends_102 : decode cX8_bends 102 = .ok (.invokevirtual 78, 3) := by decide +kernel
theorem dX8_bends_105 : decode cX8_bends 105 = .ok (.if_icmp .ge 13, 3) := by decide +kernel
theorem dX8_bends_108 : decode cX8_bends 108 = .ok (.aload_n 0, 1) := by decide +kernel
theorem dX8_bends_109 : decode cX8_bends 109 = .ok (.getfield 19, 3) := by decide +kernel
theorem dX8_bends_112 : decode cX8_bends 112 = .ok (.iload 5, 2) := by decide +kernel
theorem dX8_bends_114 : decode cX8_bends 114 = .ok (.iaload, 1) := by decide +kernel
theorem dX8_bends_115 : decode cX8_bends 115 = .ok (.goto 13, 3) := by decide +kernel
theorem dX8_bends_118 : decode cX8_bends 118 = .ok (.aload_n 0, 1) := by decide +kernel
theorem dX8_bends_119 : decode cX8_bends 119 = .ok (.iload 5, 2) := by decide +kernel
theorem dX8_bends_121 : decode cX8_bends 121 = .ok (.aload_n 0, 1) := by decide +kernel
theorem dX8_bends_122 : decode cX8_bends 122 = .ok (.getfield 25, 3) := by decide +kernel
theorem dX8_bends_125 : decode cX8_bends 125 = .ok (.invokevirtual 98, 3) := by decide +kernel
theorem dX8_bends_128 : decode cX8_bends 128 = .ok (.iastore, 1) := by decide +kernel
theorem dX8_bends_129 : decode cX8_bends 129 = .ok (.iload_n 3, 1) := by decide +kernel
theorem dX8_bends_130 : decode cX8_bends 130 = .ok (.ifCond .eq 36, 3) := by decide +kernel
theorem dX8_bends_133 : decode cX8_bends 133 = .ok (.iload 5, 2) := by decide +kernel
theorem dX8_bends_135 : decode cX8_bends 135 = .ok (.aload_n 0, 1) := by decide +kernel
theorem dX8_bends_136 : decode cX8_bends 136 = .ok (.iload_n 2, 1) := by decide +kernel
theorem dX8_bends_137 : decode cX8_bends 137 = .ok (.iconst 1, 1) := by decide +kernel
theorem dX8_bends_138 : decode cX8_bends 138 = .ok (.iadd, 1) := by decide +kernel
theorem dX8_bends_139 : decode cX8_bends 139 = .ok (.invokevirtual 67, 3) := by decide +kernel
theorem dX8_bends_142 : decode cX8_bends 142 = .ok (.if_icmp .eq 15, 3) := by decide +kernel
theorem dX8_bends_145 : decode cX8_bends 145 = .ok (.iload 5, 2) := by decide +kernel
theorem dX8_bends_147 : decode cX8_bends 147 = .ok (.aload_n 0, 1) := by decide +kernel
theorem dX8_bends_148 : decode cX8_bends 148 = .ok (.iload_n 2, 1) := by decide +kernel
theorem dX8_bends_149 : decode cX8_bends 149 = .ok (.iconst 2, 1) := by decide +kernel
theorem dX8_bends_150 : decode cX8_bends 150 = .ok (.iadd, 1) := by decide +kernel
theorem dX8_bends_151 : decode cX8_bends 151 = .ok (.invokevirtual 67, 3) := by decide +kernel
theorem dX8_bends_154 : decode cX8_bends 154 = .ok (.if_icmp .ne 12, 3) := by decide +kernel
theorem dX8_bends_157 : decode cX8_bends 157 = .ok (.aload_n 0, 1) := by decide +kernel
theorem dX8_bends_158 : decode cX8_bends 158 = .ok (.getfield 25, 3) := by decide +kernel
theorem dX8_bends_161 : decode cX8_bends 161 = .ok (.iload 5, 2) := by decide +kernel
theorem dX8_bends_163 : decode cX8_bends 163 = .ok (.iload 4, 2) := by decide +kernel
theorem dX8_bends_165 : decode cX8_bends 165 = .ok (.iastore, 1) := by decide +kernel
theorem dX8_bends_166 : decode cX8_bends 166 = .ok (.iload_n 3, 1) := by decide +kernel
theorem dX8_bends_167 : decode cX8_bends 167 = .ok (.ifCond .ne 25, 3) := by decide +kernel
theorem dX8_bends_170 : decode cX8_bends 170 = .ok (.iload_n 1, 1) := by decide +kernel
theorem dX8_bends_171 : decode cX8_bends 171 = .ok (.ifCond .lt 21, 3) := by decide +kernel
theorem dX8_bends_174 : decode cX8_bends 174 = .ok (.iload_n 1, 1) := by decide +kernel
theorem dX8_bends_175 : decode cX8_bends 175 = .ok (.iconst 2, 1) := by decide +kernel
theorem dX8_bends_176 : decode cX8_bends 176 = .ok (.idiv, 1) := by decide +kernel
theorem dX8_bends_177 : decode cX8_bends 177 = .ok (.iload 5, 2) := by decide +kernel
theorem dX8_bends_179 : decode cX8_bends 179 = .ok (.if_icmp .ne 13, 3) := by decide +kernel
theorem dX8_bends_182 : decode cX8_bends 182 = .ok (.aload_n 0, 1) := by decide +kernel
theorem dX8_bends_183 : decode cX8_bends 183 = .ok (.getfield 25, 3) := by decide +kernel
theorem dX8_bends_186 : decode cX8_bends 186 = .ok (.iload 5, 2) := by decide +kernel
theorem dX8_bends_188 : decode cX8_bends 188 = .ok (.iload_n 1, 1) := by decide +kernel
theorem dX8_bends_189 : decode cX8_bends 189 = .ok (.iconst 2, 1) := by decide +kernel
theorem dX8_bends_190 : decode cX8_bends 190 = .ok (.irem, 1) := by decide +kernel
theorem dX8_bends_191 : decode cX8_bends 191 = .ok (.iastore, 1) := by decide +kernel
theorem dX8_bends_192 : decode cX8_bends 192 = .ok (.iinc 5 1, 3) := by decide +kernel
theorem dX8_bends_195 : decode cX8_bends 195 = .ok (.goto (-111), 3) := by decide +kernel
theorem dX8_bends_198 : decode cX8_bends 198 = .ok (.return_, 1) := by decide +kernel
set_option maxRecDepth 20000 in
theorem ggX8_asksTest_X8_inputs : GoodIn wsX8_asksTest wsX8_inputs := goodIn_r _ [6, 7, 8, 9, 5, 10, 11, 12, 44, 45, 46, 47, 48, 49, 50, 51, 52, 53, 54, 55, 56, 57, 58, 59, 60, 61, 62, 63, 64, 65, 66] (by decide +kernel) (by decide +kernel)
set_option maxRecDepth 20000 in
theorem gX8_asksTest_X8_inputs : GoodIn wsX8_asksTest (wsV RX8 78 RX8 yX8_inputs wsX8_inputs) := goodIn_app (goodIn_of _ (by decide +kernel)) ggX8_asksTest_X8_inputs
set_option maxRecDepth 20000 in
theorem ggX8_asksTest_X8_get : GoodIn wsX8_asksTest wsX8_get := goodIn_r _ [10, 11, 12, 44, 45, 46, 47, 48, 49, 50, 51, 52, 53, 54, 55, 56, 57, 58, 59, 60, 61, 62, 63, 64, 65, 66] (by decide +kernel) (by decide +kernel)
set_option maxRecDepth 20000 in
theorem gX8_asksTest_X8_get : GoodIn wsX8_asksTest (wsV RX8 67 RX8 yX8_get wsX8_get) := goodIn_app (goodIn_of _ (by decide +kernel)) ggX8_asksTest_X8_get
set_option maxRecDepth 20000 in
theorem ggX8_asksTest_X8_cleans : GoodIn wsX8_asksTest wsX8_cleans := goodIn_r _ [16, 17, 1, 18, 19, 20, 5, 21, 7, 8, 9, 10, 11, 12, 2, 3, 4, 6, 22, 23, 24, 25, 26, 27, 28, 29, 30, 31, 32, 33, 34, 35, 36, 37, 38, 39, 40, 41, 42, 43, 44, 45, 46, 47, 48, 49, 50, 51, 52, 53, 54, 55, 56, 57, 58, 59, 60, 61, 62, 63, 64, 65, 66] (by decide +kernel) (by decide +kernel)
set_option maxRecDepth 20000 in
theorem gX8_asksTest_X8_cleans : GoodIn wsX8_asksTest (wsV RX8 102 RX8 yX8_cleans wsX8_cleans) := goodIn_app (goodIn_of _ (by decide +kernel)) ggX8_asksTest_X8_cleans
theorem dX8_asksTest_0 : decode cX8_asksTest 0 = .ok (.iconst 0, 1) := by decide +kernel
theorem dX8_asksTest_1 : decode cX8_asksTest 1 = .ok (.istore_n 2, 1) := by decide +kernel
theorem dX8_asksTest_2 : decode cX8_asksTest 2 = .ok (.iload_n 2, 1) := by decide +kernel
theorem dX8_asksTest_3 : decode cX8_asksTest 3 = .ok (.aload_n 0, 1) := by decide +kernel
theorem dX8_asksTest_4 : decode cX8_asksTest 4 = .ok (.invokevirtual 78, 3) := by decide +kernel
theorem dX8_asksTest_7 : decode cX8_asksTest 7 = .ok (.if_icmp .ge 29, 3) := by decide +kernel
theorem dX8_asksTest_10 : decode cX8_asksTest 10 = .ok (.aload_n 0, 1) := by decide +kernel
theorem dX8_asksTest_11 : decode cX8_asksTest 11 = .ok (.getfield 19, 3) := by decide +kernel
theorem dX8_asksTest_14 : decode cX8_asksTest 14 = .ok (.iload_n 2, 1) := by decide +kernel
theorem dX8_asksTest_15 : decode cX8_asksTest 15 = .ok (.aload_n 0, 1) := by decide +kernel
theorem dX8_asksTest_16 : decode cX8_asksTest 16 = .ok (.sipush 182, 3) := by decide +kernel
theorem dX8_asksTest_19 : decode cX8_asksTest 19 = .ok (.bipush 8, 2) := by decide +kernel
theorem dX8_asksTest_21 : decode cX8_asksTest 21 = .ok (.iload_n 1, 1) := by decide +kernel
theorem dX8_asksTest_22 : decode cX8_asksTest 22 = .ok (.imul, 1) := by decide +kernel
theorem dX8_asksTest_23 : decode cX8_asksTest 23 = .ok (.iadd, 1) := by decide +kernel
theorem dX8_asksTest_24 : decode cX8_asksTest 24 = .ok (.iload_n 2, 1) := by decide +kernel
theorem dX8_asksTest_25 : decode cX8_asksTest 25 = .ok (.iadd, 1) := by decide +kernel
theorem dX8_asksTest_26 : decode cX8_asksTest 26 = .ok (.invokevirtual 67, 3) := by decide +kernel
theorem dX8_asksTest_29 : decode cX8_asksTest 29 = .ok (.iastore, 1) := by decide +kernel
theorem dX8_asksTest_30 : decode cX8_asksTest 30 = .ok (.iinc 2 1, 3) := by decide +kernel
theorem dX8_asksTest_33 : decode cX8_asksTest 33 = .ok (.goto (-31), 3) := by decide +kernel
theorem dX8_asksTest_36 : decode cX8_asksTest 36 = .ok (.aload_n 0, 1) := by decide +kernel
theorem dX8_asksTest_37 : decode cX8_asksTest 37 = .ok (.invokevirtual 102, 3) := by decide +kernel
theorem dX8_asksTest_40 : decode cX8_asksTest 40 = .ok (.return_, 1) := by decide +kernel
set_option maxRecDepth 20000 in
theorem ggX8_asksFull_X8_inputs : GoodIn wsX8_asksFull wsX8_inputs := goodIn_r _ [6, 7, 8, 9, 5, 10, 11, 12, 44, 45, 46, 47, 48, 49, 50, 51, 52, 53, 54, 55, 56, 57, 58, 59, 60, 61, 62, 63, 64, 65, 66] (by decide +kernel) (by decide +kernel)
set_option maxRecDepth 20000 in
theorem gX8_asksFull_X8_inputs : GoodIn wsX8_asksFull (wsV RX8 78 RX8 yX8_inputs wsX8_inputs) := goodIn_app (goodIn_of _ (by decide +kernel)) ggX8_asksFull_X8_inputs
set_option maxRecDepth 20000 in
theorem ggX8_asksFull_X8_cleans : GoodIn wsX8_asksFull wsX8_cleans := goodIn_r _ [16, 17, 1, 18, 19, 20, 5, 21, 7, 8, 9, 10, 11, 12, 2, 3, 4, 6, 22, 23, 24, 25, 26, 27, 28, 29, 30, 31, 32, 33, 34, 35, 36, 37, 38, 39, 40, 41, 42, 43, 44, 45, 46, 47, 48, 49, 50, 51, 52, 53, 54, 55, 56, 57, 58, 59, 60, 61, 62, 63, 64, 65, 66] (by decide +kernel) (by decide +kernel)
set_option maxRecDepth 20000 in
theorem gX8_asksFull_X8_cleans : GoodIn wsX8_asksFull (wsV RX8 102 RX8 yX8_cleans wsX8_cleans) := goodIn_app (goodIn_of _ (by decide +kernel)) ggX8_asksFull_X8_cleans
theorem dX8_asksFull_0 : decode cX8_asksFull 0 = .ok (.iconst 0, 1) := by decide +kernel
theorem dX8_asksFull_1 : decode cX8_asksFull 1 = .ok (.istore_n 2, 1) := by decide +kernel
theorem dX8_asksFull_2 : decode cX8_asksFull 2 = .ok (.iload_n 2, 1) := by decide +kernel
theorem dX8_asksFull_3 : decode cX8_asksFull 3 = .ok (.aload_n 0, 1) := by decide +kernel
theorem dX8_asksFull_4 : decode cX8_asksFull 4 = .ok (.invokevirtual 78, 3) := by decide +kernel
theorem dX8_asksFull_7 : decode cX8_asksFull 7 = .ok (.if_icmp .ge 20, 3) := by decide +kernel
theorem dX8_asksFull_10 : decode cX8_asksFull 10 = .ok (.aload_n 0, 1) := by decide +kernel
theorem dX8_asksFull_11 : decode cX8_asksFull 11 = .ok (.getfield 19, 3) := by decide +kernel
theorem dX8_asksFull_14 : decode cX8_asksFull 14 = .ok (.iload_n 2, 1) := by decide +kernel
theorem dX8_asksFull_15 : decode cX8_asksFull 15 = .ok (.iload_n 1, 1) := by decide +kernel
theorem dX8_asksFull_16 : decode cX8_asksFull 16 = .ok (.iload_n 2, 1) := by decide +kernel
theorem dX8_asksFull_17 : decode cX8_asksFull 17 = .ok (.ishr, 1) := by decide +kernel
theorem dX8_asksFull_18 : decode cX8_asksFull 18 = .ok (.iconst 1, 1) := by decide +kernel
theorem dX8_asksFull_19 : decode cX8_asksFull 19 = .ok (.iand, 1) := by decide +kernel
theorem dX8_asksFull_20 : decode cX8_asksFull 20 = .ok (.iastore, 1) := by decide +kernel
theorem dX8_asksFull_21 : decode cX8_asksFull 21 = .ok (.iinc 2 1, 3) := by decide +kernel
theorem dX8_asksFull_24 : decode cX8_asksFull 24 = .ok (.goto (-22), 3) := by decide +kernel
theorem dX8_asksFull_27 : decode cX8_asksFull 27 = .ok (.aload_n 0, 1) := by decide +kernel
theorem dX8_asksFull_28 : decode cX8_asksFull 28 = .ok (.invokevirtual 102, 3) := by decide +kernel
theorem dX8_asksFull_31 : decode cX8_asksFull 31 = .ok (.return_, 1) := by decide +kernel
set_option maxRecDepth 20000 in
theorem ggX8_atOutput_X8_get : GoodIn wsX8_atOutput wsX8_get := goodIn_r _ [5, 6, 7, 8, 9, 10, 11, 12, 13, 14, 15, 16, 17, 18, 19, 20, 21, 22, 23, 24, 25, 26, 27, 28, 29, 30] (by decide +kernel) (by decide +kernel)
set_option maxRecDepth 20000 in
theorem gX8_atOutput_X8_get : GoodIn wsX8_atOutput (wsV RX8 67 RX8 yX8_get wsX8_get) := goodIn_app (goodIn_of _ (by decide +kernel)) ggX8_atOutput_X8_get
theorem dX8_atOutput_0 : decode cX8_atOutput 0 = .ok (.aload_n 2, 1) := by decide +kernel
theorem dX8_atOutput_1 : decode cX8_atOutput 1 = .ok (.aload_n 0, 1) := by decide +kernel
theorem dX8_atOutput_2 : decode cX8_atOutput 2 = .ok (.sipush 152, 3) := by decide +kernel
theorem dX8_atOutput_5 : decode cX8_atOutput 5 = .ok (.iload_n 1, 1) := by decide +kernel
theorem dX8_atOutput_6 : decode cX8_atOutput 6 = .ok (.iadd, 1) := by decide +kernel
theorem dX8_atOutput_7 : decode cX8_atOutput 7 = .ok (.invokevirtual 67, 3) := by decide +kernel
theorem dX8_atOutput_10 : decode cX8_atOutput 10 = .ok (.iaload, 1) := by decide +kernel
theorem dX8_atOutput_11 : decode cX8_atOutput 11 = .ok (.ireturn, 1) := by decide +kernel
set_option maxRecDepth 20000 in
theorem ggX8_found_X8_bends : GoodIn wsX8_found wsX8_bends := goodIn_r _ [7, 1, 2, 8, 9, 10, 11, 6, 12, 13, 14, 15, 16, 17, 18, 19, 20, 21, 22, 23, 24, 25, 26, 27, 28, 29, 30, 31, 32, 33, 34, 35, 36, 37, 38, 39, 40, 41, 42, 43, 44, 53, 54, 55, 56, 57, 58, 59, 60, 61, 62, 63, 64, 65, 66, 67, 68, 69, 70, 71, 72, 73, 74, 75] (by decide +kernel) (by decide +kernel)
set_option maxRecDepth 20000 in
theorem gX8_found_X8_bends : GoodIn wsX8_found (wsV RX8 105 RX8 yX8_bends wsX8_bends) := goodIn_app (goodIn_of _ (by decide +kernel)) ggX8_found_X8_bends
set_option maxRecDepth 20000 in
theorem ggX8_found_X8_outputs : GoodIn wsX8_found wsX8_outputs := goodIn_r _ [48, 13, 14, 15, 6, 16, 17, 18, 53, 54, 55, 56, 57, 58, 59, 60, 61, 62, 63, 64, 65, 66, 67, 68, 69, 70, 71, 72, 73, 74, 75] (by decide +kernel) (by decide +kernel)
set_option maxRecDepth 20000 in
theorem gX8_found_X8_outputs : GoodIn wsX8_found (wsV RX8 109 RX8 yX8_outputs wsX8_outputs) := goodIn_app (goodIn_of _ (by decide +kernel)) ggX8_found_X8_outputs
set_option maxRecDepth 20000 in
theorem ggX8_found_X8_atOutput : GoodIn wsX8_found wsX8_atOutput := goodIn_r _ [52, 13, 14, 15, 6, 16, 17, 18, 53, 54, 55, 56, 57, 58, 59, 60, 61, 62, 63, 64, 65, 66, 67, 68, 69, 70, 71, 72, 73, 74, 75] (by decide +kernel) (by decide +kernel)
set_option maxRecDepth 20000 in
theorem gX8_found_X8_atOutput : GoodIn wsX8_found (wsV RX8 112 RX8 yX8_atOutput wsX8_atOutput) := goodIn_app (goodIn_of _ (by decide +kernel)) ggX8_found_X8_atOutput
theorem dX8_found_0 : decode cX8_found 0 = .ok (.aload_n 0, 1) := by decide +kernel
theorem dX8_found_1 : decode cX8_found 1 = .ok (.iload_n 1, 1) := by decide +kernel
theorem dX8_found_2 : decode cX8_found 2 = .ok (.invokevirtual 105, 3) := by decide +kernel
theorem dX8_found_5 : decode cX8_found 5 = .ok (.iconst 0, 1) := by decide +kernel
theorem dX8_found_6 : decode cX8_found 6 = .ok (.istore_n 2, 1) := by decide +kernel
theorem dX8_found_7 : decode cX8_found 7 = .ok (.iconst 0, 1) := by decide +kernel
theorem dX8_found_8 : decode cX8_found 8 = .ok (.istore_n 3, 1) := by decide +kernel
theorem dX8_found_9 : decode cX8_found 9 = .ok (.iload_n 3, 1) := by decide +kernel
theorem dX8_found_10 : decode cX8_found 10 = .ok (.aload_n 0, 1) := by decide +kernel
theorem dX8_found_11 : decode cX8_found 11 = .ok (.invokevirtual 109, 3) := by decide +kernel
theorem dX8_found_14 : decode cX8_found 14 = .ok (.if_icmp .ge 67, 3) := by decide +kernel
theorem dX8_found_17 : decode cX8_found 17 = .ok (.aload_n 0, 1) := by decide +kernel
theorem dX8_found_18 : decode cX8_found 18 = .ok (.iload_n 3, 1) := by decide +kernel
theorem dX8_found_19 : decode cX8_found 19 = .ok (.aload_n 0, 1) := by decide +kernel
theorem dX8_found_20 : decode cX8_found 20 = .ok (.getfield 22, 3) := by decide +kernel
theorem dX8_found_23 : decode cX8_found 23 = .ok (.invokevirtual 112, 3) := by decide +kernel
theorem dX8_found_26 : decode cX8_found 26 = .ok (.istore 4, 2) := by decide +kernel
theorem dX8_found_28 : decode cX8_found 28 = .ok (.aload_n 0, 1) := by decide +kernel
theorem dX8_found_29 : decode cX8_found 29 = .ok (.iload_n 3, 1) := by decide +kernel
theorem dX8_found_30 : decode cX8_found 30 = .ok (.aload_n 0, 1) := by decide +kernel
theorem dX8_found_31 : decode cX8_found 31 = .ok (.getfield 25, 3) := by decide +kernel
theorem dX8_found_34 : decode cX8_found 34 = .ok (.invokevirtual 112, 3) := by decide +kernel
theorem dX8_found_37 : decode cX8_found 37 = .ok (.istore 5, 2) := by decide +kernel
theorem dX8_found_39 : decode cX8_found 39 = .ok (.iload 4, 2) := by decide +kernel
theorem dX8_found_41 : decode cX8_found 41 = .ok (.iconst 2, 1) := by decide +kernel
theorem dX8_found_42 : decode cX8_found 42 = .ok (.if_icmp .eq 33, 3) := by decide +kernel
theorem dX8_found_45 : decode cX8_found 45 = .ok (.iload 4, 2) := by decide +kernel
theorem dX8_found_47 : decode cX8_found 47 = .ok (.iload 5, 2) := by decide +kernel
theorem dX8_found_49 : decode cX8_found 49 = .ok (.if_icmp .ne 6, 3) := by decide +kernel
theorem dX8_found_52 : decode cX8_found 52 = .ok (.goto 23, 3) := by decide +kernel
theorem dX8_found_55 : decode cX8_found 55 = .ok (.iload 5, 2) := by decide +kernel
theorem dX8_found_57 : decode cX8_found 57 = .ok (.iconst 2, 1) := by decide +kernel
theorem dX8_found_58 : decode cX8_found 58 = .ok (.if_icmp .eq 7, 3) := by decide +kernel
theorem dX8_found_61 : decode cX8_found 61 = .ok (.iconst 2, 1) := by decide +kernel
theorem dX8_found_62 : decode cX8_found 62 = .ok (.goto 12, 3) := by decide +kernel
theorem dX8_found_65 : decode cX8_found 65 = .ok (.iload_n 2, 1) := by decide +kernel
theorem dX8_found_66 : decode cX8_found 66 = .ok (.ifCond .ne 7, 3) := by decide +kernel
theorem dX8_found_69 : decode cX8_found 69 = .ok (.iconst 1, 1) := by decide +kernel
theorem dX8_found_70 : decode cX8_found 70 = .ok (.goto 4, 3) := by decide +kernel
theorem dX8_found_73 : decode cX8_found 73 = .ok (.iload_n 2, 1) := by decide +kernel
theorem dX8_found_74 : decode cX8_found 74 = .ok (.istore_n 2, 1) := by decide +kernel
theorem dX8_found_75 : decode cX8_found 75 = .ok (.iinc 3 1, 3) := by decide +kernel
theorem dX8_found_78 : decode cX8_found 78 = .ok (.goto (-69), 3) := by decide +kernel
theorem dX8_found_81 : decode cX8_found 81 = .ok (.iload_n 2, 1) := by decide +kernel
theorem dX8_found_82 : decode cX8_found 82 = .ok (.ireturn, 1) := by decide +kernel
set_option maxRecDepth 20000 in
theorem ggX8_worthOf_X8_asksTest : GoodIn wsX8_worthOf wsX8_asksTest := goodIn_r _ [5, 6, 7, 8, 9, 4, 10, 11, 12, 13, 14, 15, 16, 17, 18, 19, 20, 21, 22, 23, 24, 25, 26, 27, 28, 29, 30, 31, 32, 33, 34, 35, 36, 37, 38, 39, 40, 41, 42, 43, 44, 45, 46, 47, 69, 70, 71, 72, 73, 74, 75, 76, 77, 78, 79, 80, 81, 82, 83, 84, 85, 86, 87, 88, 89, 90, 91] (by decide +kernel) (by decide +kernel)
set_option maxRecDepth 20000 in
theorem gX8_worthOf_X8_asksTest : GoodIn wsX8_worthOf (wsV RX8 115 RX8 yX8_asksTest wsX8_asksTest) := goodIn_app (goodIn_of _ (by decide +kernel)) ggX8_worthOf_X8_asksTest
set_option maxRecDepth 20000 in
theorem ggX8_worthOf_X8_faults : GoodIn wsX8_worthOf wsX8_faults := goodIn_r _ [51, 22, 23, 24, 4, 25, 11, 12, 13, 14, 15, 16, 69, 70, 71, 72, 73, 74, 75, 76, 77, 78, 79, 80, 81, 82, 83, 84, 85, 86, 87, 88, 89, 90, 91] (by decide +kernel) (by decide +kernel)
set_option maxRecDepth 20000 in
theorem gX8_worthOf_X8_faults : GoodIn wsX8_worthOf (wsV RX8 118 RX8 yX8_faults wsX8_faults) := goodIn_app (goodIn_of _ (by decide +kernel)) ggX8_worthOf_X8_faults
set_option maxRecDepth 20000 in
theorem ggX8_worthOf_X8_found : GoodIn wsX8_worthOf wsX8_found := goodIn_r _ [55, 21, 56, 57, 58, 59, 4, 60, 6, 22, 23, 24, 25, 11, 12, 13, 14, 15, 16, 45, 46, 47, 7, 8, 9, 10, 26, 27, 28, 29, 30, 31, 32, 33, 34, 35, 36, 37, 38, 39, 40, 41, 42, 43, 44, 61, 62, 63, 64, 65, 66, 67, 68, 69, 70, 71, 72, 73, 74, 75, 76, 77, 78, 79, 80, 81, 82, 83, 84, 85, 86, 87, 88, 89, 90, 91] (by decide +kernel) (by decide +kernel)
set_option maxRecDepth 20000 in
theorem gX8_worthOf_X8_found : GoodIn wsX8_worthOf (wsV RX8 121 RX8 yX8_found wsX8_found) := goodIn_app (goodIn_of _ (by decide +kernel)) ggX8_worthOf_X8_found
theorem dX8_worthOf_0 : decode cX8_worthOf 0 = .ok (.aload_n 0, 1) := by decide +kernel
theorem dX8_worthOf_1 : decode cX8_worthOf 1 = .ok (.iload_n 1, 1) := by decide +kernel
theorem dX8_worthOf_2 : decode cX8_worthOf 2 = .ok (.invokevirtual 115, 3) := by decide +kernel
theorem dX8_worthOf_5 : decode cX8_worthOf 5 = .ok (.iconst 0, 1) := by decide +kernel
theorem dX8_worthOf_6 : decode cX8_worthOf 6 = .ok (.istore_n 2, 1) := by decide +kernel
theorem dX8_worthOf_7 : decode cX8_worthOf 7 = .ok (.iconst 0, 1) := by decide +kernel
theorem dX8_worthOf_8 : decode cX8_worthOf 8 = .ok (.istore_n 3, 1) := by decide +kernel
theorem dX8_worthOf_9 : decode cX8_worthOf 9 = .ok (.iload_n 3, 1) := by decide +kernel
theorem dX8_worthOf_10 : decode cX8_worthOf 10 = .ok (.aload_n 0, 1) := by decide +kernel
theorem dX8_worthOf_11 : decode cX8_worthOf 11 = .ok (.invokevirtual 118, 3) := by decide +kernel
theorem dX8_worthOf_14 : decode cX8_worthOf 14 = .ok (.if_icmp .ge 26, 3) := by decide +kernel
theorem dX8_worthOf_17 : decode cX8_worthOf 17 = .ok (.iload_n 2, 1) := by decide +kernel
theorem dX8_worthOf_18 : decode cX8_worthOf 18 = .ok (.aload_n 0, 1) := by decide +kernel
theorem dX8_worthOf_19 : decode cX8_worthOf 19 = .ok (.iload_n 3, 1) := by decide +kernel
theorem dX8_worthOf_20 : decode cX8_worthOf 20 = .ok (.invokevirtual 121, 3) := by decide +kernel
theorem dX8_worthOf_23 : decode cX8_worthOf 23 = .ok (.iconst 2, 1) := by decide +kernel
theorem dX8_worthOf_24 : decode cX8_worthOf 24 = .ok (.if_icmp .ne 7, 3) := by decide +kernel
theorem dX8_worthOf_27 : decode cX8_worthOf 27 = .ok (.iconst 1, 1) := by decide +kernel
theorem dX8_worthOf_28 : decode cX8_worthOf 28 = .ok (.goto 4, 3) := by decide +kernel
theorem dX8_worthOf_31 : decode cX8_worthOf 31 = .ok (.iconst 0, 1) := by decide +kernel
theorem dX8_worthOf_32 : decode cX8_worthOf 32 = .ok (.iadd, 1) := by decide +kernel
theorem dX8_worthOf_33 : decode cX8_worthOf 33 = .ok (.istore_n 2, 1) := by decide +kernel
theorem dX8_worthOf_34 : decode cX8_worthOf 34 = .ok (.iinc 3 1, 3) := by decide +kernel
theorem dX8_worthOf_37 : decode cX8_worthOf 37 = .ok (.goto (-28), 3) := by decide +kernel
theorem dX8_worthOf_40 : decode cX8_worthOf 40 = .ok (.iload_n 2, 1) := by decide +kernel
theorem dX8_worthOf_41 : decode cX8_worthOf 41 = .ok (.ireturn, 1) := by decide +kernel
set_option maxRecDepth 20000 in
theorem ggX8_finders_X8_faults : GoodIn wsX8_finders wsX8_faults := goodIn_r _ [6, 7, 8, 9, 5, 10, 11, 12, 13, 14, 15, 16, 74, 75, 76, 77, 78, 79, 80, 81, 82, 83, 84, 85, 86, 87, 88, 89, 90, 91, 92, 93, 94, 95, 96] (by decide +kernel) (by decide +kernel)
set_option maxRecDepth 20000 in
theorem gX8_finders_X8_faults : GoodIn wsX8_finders (wsV RX8 118 RX8 yX8_faults wsX8_faults) := goodIn_app (goodIn_of _ (by decide +kernel)) ggX8_finders_X8_faults
set_option maxRecDepth 20000 in
theorem ggX8_finders_X8_tests : GoodIn wsX8_finders wsX8_tests := goodIn_r _ [20, 11, 12, 13, 5, 14, 15, 16, 74, 75, 76, 77, 78, 79, 80, 81, 82, 83, 84, 85, 86, 87, 88, 89, 90, 91, 92, 93, 94, 95, 96] (by decide +kernel) (by decide +kernel)
set_option maxRecDepth 20000 in
theorem gX8_finders_X8_tests : GoodIn wsX8_finders (wsV RX8 124 RX8 yX8_tests wsX8_tests) := goodIn_app (goodIn_of _ (by decide +kernel)) ggX8_finders_X8_tests
set_option maxRecDepth 20000 in
theorem ggX8_finders_X8_asksTest : GoodIn wsX8_finders wsX8_asksTest := goodIn_r _ [24, 25, 26, 27, 28, 5, 29, 11, 12, 13, 14, 15, 16, 30, 31, 32, 33, 34, 7, 8, 9, 10, 35, 36, 37, 38, 39, 40, 41, 42, 43, 44, 45, 46, 47, 48, 49, 50, 51, 52, 53, 54, 55, 56, 74, 75, 76, 77, 78, 79, 80, 81, 82, 83, 84, 85, 86, 87, 88, 89, 90, 91, 92, 93, 94, 95, 96] (by decide +kernel) (by decide +kernel)
set_option maxRecDepth 20000 in
theorem gX8_finders_X8_asksTest : GoodIn wsX8_finders (wsV RX8 115 RX8 yX8_asksTest wsX8_asksTest) := goodIn_app (goodIn_of _ (by decide +kernel)) ggX8_finders_X8_asksTest
set_option maxRecDepth 20000 in
theorem ggX8_finders_X8_found : GoodIn wsX8_finders wsX8_found := goodIn_r _ [60, 34, 61, 62, 63, 64, 5, 65, 25, 7, 8, 9, 10, 11, 12, 13, 14, 15, 16, 54, 55, 56, 26, 27, 28, 29, 35, 36, 37, 38, 39, 40, 41, 42, 43, 44, 45, 46, 47, 48, 49, 50, 51, 52, 53, 66, 67, 68, 69, 70, 71, 72, 73, 74, 75, 76, 77, 78, 79, 80, 81, 82, 83, 84, 85, 86, 87, 88, 89, 90, 91, 92, 93, 94, 95, 96] (by decide +kernel) (by decide +kernel)
set_option maxRecDepth 20000 in
theorem gX8_finders_X8_found : GoodIn wsX8_finders (wsV RX8 121 RX8 yX8_found wsX8_found) := goodIn_app (goodIn_of _ (by decide +kernel)) ggX8_finders_X8_found
theorem dX8_finders_0 : decode cX8_finders 0 = .ok (.iconst 0, 1) := by decide +kernel
theorem dX8_finders_1 : decode cX8_finders 1 = .ok (.istore_n 1, 1) := by decide +kernel
theorem dX8_finders_2 : decode cX8_finders 2 = .ok (.iload_n 1, 1) := by decide +kernel
theorem dX8_finders_3 : decode cX8_finders 3 = .ok (.aload_n 0, 1) := by decide +kernel
theorem dX8_finders_4 : decode cX8_finders 4 = .ok (.invokevirtual 118, 3) := by decide +kernel
theorem dX8_finders_7 : decode cX8_finders 7 = .ok (.if_icmp .ge 16, 3) := by decide +kernel
theorem dX8_finders_10 : decode cX8_finders 10 = .ok (.aload_n 0, 1) := by decide +kernel
theorem dX8_finders_11 : decode cX8_finders 11 = .ok (.getfield 28, 3) := by decide +kernel
theorem dX8_finders_14 : decode cX8_finders 14 = .ok (.iload_n 1, 1) := by decide +kernel
theorem dX8_finders_15 : decode cX8_finders 15 = .ok (.iconst 0, 1) := by decide +kernel
theorem dX8_finders_16 : decode cX8_finders 16 = .ok (.iastore, 1) := by decide +kernel
theorem dX8_finders_17 : decode cX8_finders 17 = .ok (.iinc 1 1, 3) := by decide +kernel
theorem dX8_finders_20 : decode cX8_finders 20 = .ok (.goto (-18), 3) := by decide +kernel
theorem dX8_finders_23 : decode cX8_finders 23 = .ok (.iconst 0, 1) := by decide +kernel
theorem dX8_finders_24 : decode cX8_finders 24 = .ok (.istore_n 1, 1) := by decide +kernel
theorem dX8_finders_25 : decode cX8_finders 25 = .ok (.iload_n 1, 1) := by decide +kernel
theorem dX8_finders_26 : decode cX8_finders 26 = .ok (.aload_n 0, 1) := by decide +kernel
theorem dX8_finders_27 : decode cX8_finders 27 = .ok (.invokevirtual 124, 3) := by decide +kernel
theorem dX8_finders_30 : decode cX8_finders 30 = .ok (.if_icmp .ge 55, 3) := by decide +kernel
theorem dX8_finders_33 : decode cX8_finders 33 = .ok (.aload_n 0, 1) := by decide +kernel
theorem dX8_finders_34 : decode cX8_finders 34 = .ok (.iload_n 1, 1) := by decide +kernel
theorem dX8_finders_35 : decode cX8_finders 35 = .ok (.invokevirtual 115, 3) := by decide +kernel
theorem dX8_finders_38 : decode cX8_finders 38 = .ok (.iconst 0, 1) := by decide +kernel
theorem dX8_finders_39 : decode cX8_finders 39 = .ok (.istore_n 2, 1) := by decide +kernel
theorem dX8_finders_40 : decode cX8_finders 40 = .ok (.iload_n 2, 1) := by decide +kernel
theorem dX8_finders_41 : decode cX8_finders 41 = .ok (.aload_n 0, 1) := by decide +kernel
theorem dX8_finders_42 : decode cX8_finders 42 = .ok (.invokevirtual 118, 3) := by decide +kernel
theorem dX8_finders_45 : decode cX8_finders 45 = .ok (.if_icmp .ge 34, 3) := by decide +kernel
theorem dX8_finders_48 : decode cX8_finders 48 = .ok (.aload_n 0, 1) := by decide +kernel
theorem dX8_finders_49 : decode cX8_finders 49 = .ok (.getfield 28, 3) := by decide +kernel
theorem dX8_finders_52 : decode cX8_finders 52 = .ok (.iload_n 2, 1) := by decide +kernel
theorem dX8_finders_53 : decode cX8_finders 53 = .ok (.dup2, 1) := by decide +kernel
theorem dX8_finders_54 : decode cX8_finders 54 = .ok (.iaload, 1) := by decide +kernel
theorem dX8_finders_55 : decode cX8_finders 55 = .ok (.aload_n 0, 1) := by decide +kernel
theorem dX8_finders_56 : decode cX8_finders 56 = .ok (.iload_n 2, 1) := by decide +kernel
theorem dX8_finders_57 : decode cX8_finders 57 = .ok (.invokevirtual 121, 3) := by decide +kernel
theorem dX8_finders_60 : decode cX8_finders 60 = .ok (.iconst 2, 1) := by decide +kernel
theorem dX8_finders_61 : decode cX8_finders 61 = .ok (.if_icmp .ne 9, 3) := by decide +kernel
theorem dX8_finders_64 : decode cX8_finders 64 = .ok (.iconst 1, 1) := by decide +kernel
theorem dX8_finders_65 : decode cX8_finders 65 = .ok (.iload_n 1, 1) := by decide +kernel
theorem dX8_finders_66 : decode cX8_finders 66 = .ok (.ishl, 1) := by decide +kernel
theorem dX8_finders_67 : decode cX8_finders 67 = .ok (.goto 4, 3) := by decide +kernel
theorem dX8_finders_70 : decode cX8_finders 70 = .ok (.iconst 0, 1) := by decide +kernel
theorem dX8_finders_71 : decode cX8_finders 71 = .ok (.ior, 1) := by decide +kernel
theorem dX8_finders_72 : decode cX8_finders 72 = .ok (.iastore, 1) := by decide +kernel
theorem dX8_finders_73 : decode cX8_finders 73 = .ok (.iinc 2 1, 3) := by decide +kernel
theorem dX8_finders_76 : decode cX8_finders 76 = .ok (.goto (-36), 3) := by decide +kernel
theorem dX8_finders_79 : decode cX8_finders 79 = .ok (.iinc 1 1, 3) := by decide +kernel
theorem dX8_finders_82 : decode cX8_finders 82 = .ok (.goto (-57), 3) := by decide +kernel
theorem dX8_finders_85 : decode cX8_finders 85 = .ok (.return_, 1) := by decide +kernel
set_option maxRecDepth 20000 in
theorem ggX8_foundMany_X8_finders : GoodIn wsX8_foundMany wsX8_finders := goodIn_r _ [6, 1, 7, 8, 9, 5, 10, 11, 12, 13, 14, 15, 16, 17, 18, 19, 20, 21, 22, 23, 24, 25, 26, 27, 28, 29, 30, 31, 32, 33, 34, 35, 36, 37, 38, 39, 40, 41, 42, 43, 44, 45, 46, 47, 48, 49, 50, 51, 52, 53, 54, 55, 56, 57, 58, 59, 60, 61, 62, 63, 64, 65, 66, 67, 68, 69, 70, 71, 72, 73, 74, 75, 76, 77, 78, 79, 80, 81, 82, 83, 84, 85, 86, 87, 88, 89, 90, 91, 92, 93, 94, 95, 96, 97, 98, 99, 100] (by decide +kernel) (by decide +kernel)
set_option maxRecDepth 20000 in
theorem gX8_foundMany_X8_finders : GoodIn wsX8_foundMany (wsV RX8 127 RX8 yX8_finders wsX8_finders) := goodIn_app (goodIn_of _ (by decide +kernel)) ggX8_foundMany_X8_finders
set_option maxRecDepth 20000 in
theorem ggX8_foundMany_X8_faults : GoodIn wsX8_foundMany wsX8_faults := goodIn_r _ [10, 11, 12, 13, 5, 14, 15, 16, 17, 18, 19, 20, 78, 79, 80, 81, 82, 83, 84, 85, 86, 87, 88, 89, 90, 91, 92, 93, 94, 95, 96, 97, 98, 99, 100] (by decide +kernel) (by decide +kernel)
set_option maxRecDepth 20000 in
theorem gX8_foundMany_X8_faults : GoodIn wsX8_foundMany (wsV RX8 118 RX8 yX8_faults wsX8_faults) := goodIn_app (goodIn_of _ (by decide +kernel)) ggX8_foundMany_X8_faults
theorem dX8_foundMany_0 : decode cX8_foundMany 0 = .ok (.aload_n 0, 1) := by decide +kernel
theorem dX8_foundMany_1 : decode cX8_foundMany 1 = .ok (.invokevirtual 127, 3) := by decide +kernel
theorem dX8_foundMany_4 : decode cX8_foundMany 4 = .ok (.iconst 0, 1) := by decide +kernel
theorem dX8_foundMany_5 : decode cX8_foundMany 5 = .ok (.istore_n 1, 1) := by decide +kernel
theorem dX8_foundMany_6 : decode cX8_foundMany 6 = .ok (.iconst 0, 1) := by decide +kernel
theorem dX8_foundMany_7 : decode cX8_foundMany 7 = .ok (.istore_n 2, 1) := by decide +kernel
theorem dX8_foundMany_8 : decode cX8_foundMany 8 = .ok (.iload_n 2, 1) := by decide +kernel
theorem dX8_foundMany_9 : decode cX8_foundMany 9 = .ok (.aload_n 0, 1) := by decide +kernel
theorem dX8_foundMany_10 : decode cX8_foundMany 10 = .ok (.invokevirtual 118, 3) := by decide +kernel
theorem dX8_foundMany_13 : decode cX8_foundMany 13 = .ok (.if_icmp .ge 26, 3) := by decide +kernel
theorem dX8_foundMany_16 : decode cX8_foundMany 16 = .ok (.iload_n 1, 1) := by decide +kernel
theorem dX8_foundMany_17 : decode cX8_foundMany 17 = .ok (.aload_n 0, 1) := by decide +kernel
theorem dX8_foundMany_18 : decode cX8_foundMany 18 = .ok (.getfield 28, 3) := by decide +kernel
theorem dX8_foundMany_21 : decode cX8_foundMany 21 = .ok (.iload_n 2, 1) := by decide +kernel
theorem dX8_foundMany_22 : decode cX8_foundMany 22 = .ok (.iaload, 1) := by decide +kernel
theorem dX8_foundMany_23 : decode cX8_foundMany 23 = .ok (.ifCond .eq 7, 3) := by decide +kernel
theorem dX8_foundMany_26 : decode cX8_foundMany 26 = .ok (.iconst 1, 1) := by decide +kernel
theorem dX8_foundMany_27 : decode cX8_foundMany 27 = .ok (.goto 4, 3) := by decide +kernel
theorem dX8_foundMany_30 : decode cX8_foundMany 30 = .ok (.iconst 0, 1) := by decide +kernel
theorem dX8_foundMany_31 : decode cX8_foundMany 31 = .ok (.iadd, 1) := by decide +kernel
theorem dX8_foundMany_32 : decode cX8_foundMany 32 = .ok (.istore_n 1, 1) := by decide +kernel
theorem dX8_foundMany_33 : decode cX8_foundMany 33 = .ok (.iinc 2 1, 3) := by decide +kernel
theorem dX8_foundMany_36 : decode cX8_foundMany 36 = .ok (.goto (-28), 3) := by decide +kernel
theorem dX8_foundMany_39 : decode cX8_foundMany 39 = .ok (.iload_n 1, 1) := by decide +kernel
theorem dX8_foundMany_40 : decode cX8_foundMany 40 = .ok (.ireturn, 1) := by decide +kernel
set_option maxRecDepth 20000 in
theorem ggX8_fulls_X8_inputs : GoodIn wsX8_fulls wsX8_inputs := goodIn_r _ [5, 6, 7, 8, 4, 9, 10, 11, 12, 13, 14, 15, 16, 17, 18, 19, 20, 21, 22, 23, 24, 25, 26, 27, 28, 29, 30, 31, 32, 33, 34] (by decide +kernel) (by decide +kernel)
set_option maxRecDepth 20000 in
theorem gX8_fulls_X8_inputs : GoodIn wsX8_fulls (wsV RX8 78 RX8 yX8_inputs wsX8_inputs) := goodIn_app (goodIn_of _ (by decide +kernel)) ggX8_fulls_X8_inputs
theorem dX8_fulls_0 : decode cX8_fulls 0 = .ok (.iconst 1, 1) := by decide +kernel
theorem dX8_fulls_1 : decode cX8_fulls 1 = .ok (.aload_n 0, 1) := by decide +kernel
theorem dX8_fulls_2 : decode cX8_fulls 2 = .ok (.invokevirtual 78, 3) := by decide +kernel
theorem dX8_fulls_5 : decode cX8_fulls 5 = .ok (.ishl, 1) := by decide +kernel
theorem dX8_fulls_6 : decode cX8_fulls 6 = .ok (.ireturn, 1) := by decide +kernel
set_option maxRecDepth 20000 in
theorem ggX8_bitsAt_X8_outputs : GoodIn wsX8_bitsAt wsX8_outputs := goodIn_r _ [5, 6, 7, 8, 4, 9, 10, 11, 16, 17, 18, 19, 20, 21, 22, 23, 24, 25, 26, 27, 28, 29, 30, 31, 32, 33, 34, 35, 36, 37, 38] (by decide +kernel) (by decide +kernel)
set_option maxRecDepth 20000 in
theorem gX8_bitsAt_X8_outputs : GoodIn wsX8_bitsAt (wsV RX8 109 RX8 yX8_outputs wsX8_outputs) := goodIn_app (goodIn_of _ (by decide +kernel)) ggX8_bitsAt_X8_outputs
set_option maxRecDepth 20000 in
theorem ggX8_bitsAt_X8_atOutput : GoodIn wsX8_bitsAt wsX8_atOutput := goodIn_r _ [15, 6, 7, 8, 4, 9, 10, 11, 16, 17, 18, 19, 20, 21, 22, 23, 24, 25, 26, 27, 28, 29, 30, 31, 32, 33, 34, 35, 36, 37, 38] (by decide +kernel) (by decide +kernel)
set_option maxRecDepth 20000 in
theorem gX8_bitsAt_X8_atOutput : GoodIn wsX8_bitsAt (wsV RX8 112 RX8 yX8_atOutput wsX8_atOutput) := goodIn_app (goodIn_of _ (by decide +kernel)) ggX8_bitsAt_X8_atOutput
theorem dX8_bitsAt_0 : decode cX8_bitsAt 0 = .ok (.iconst 0, 1) := by decide +kernel
theorem dX8_bitsAt_1 : decode cX8_bitsAt 1 = .ok (.istore_n 2, 1) := by decide +kernel
theorem dX8_bitsAt_2 : decode cX8_bitsAt 2 = .ok (.iconst 0, 1) := by decide +kernel
theorem dX8_bitsAt_3 : decode cX8_bitsAt 3 = .ok (.istore_n 3, 1) := by decide +kernel
theorem dX8_bitsAt_4 : decode cX8_bitsAt 4 = .ok (.iload_n 3, 1) := by decide +kernel
theorem dX8_bitsAt_5 : decode cX8_bitsAt 5 = .ok (.aload_n 0, 1) := by decide +kernel
theorem dX8_bitsAt_6 : decode cX8_bitsAt 6 = .ok (.invokevirtual 109, 3) := by decide +kernel
theorem dX8_bitsAt_9 : decode cX8_bitsAt 9 = .ok (.if_icmp .ge 20, 3) := by decide +kernel
theorem dX8_bitsAt_12 : decode cX8_bitsAt 12 = .ok (.iload_n 2, 1) := by decide +kernel
theorem dX8_bitsAt_13 : decode cX8_bitsAt 13 = .ok (.aload_n 0, 1) := by decide +kernel
theorem dX8_bitsAt_14 : decode cX8_bitsAt 14 = .ok (.iload_n 3, 1) := by decide +kernel
theorem dX8_bitsAt_15 : decode cX8_bitsAt 15 = .ok (.aload_n 1, 1) := by decide +kernel
theorem dX8_bitsAt_16 : decode cX8_bitsAt 16 = .ok (.invokevirtual 112, 3) := by decide +kernel
theorem dX8_bitsAt_19 : decode cX8_bitsAt 19 = .ok (.iload_n 3, 1) := by decide +kernel
theorem dX8_bitsAt_20 : decode cX8_bitsAt 20 = .ok (.ishl, 1) := by decide +kernel
theorem dX8_bitsAt_21 : decode cX8_bitsAt 21 = .ok (.ior, 1) := by decide +kernel
theorem dX8_bitsAt_22 : decode cX8_bitsAt 22 = .ok (.istore_n 2, 1) := by decide +kernel
theorem dX8_bitsAt_23 : decode cX8_bitsAt 23 = .ok (.iinc 3 1, 3) := by decide +kernel
theorem dX8_bitsAt_26 : decode cX8_bitsAt 26 = .ok (.goto (-22), 3) := by decide +kernel
theorem dX8_bitsAt_29 : decode cX8_bitsAt 29 = .ok (.iload_n 2, 1) := by decide +kernel
theorem dX8_bitsAt_30 : decode cX8_bitsAt 30 = .ok (.ireturn, 1) := by decide +kernel
set_option maxRecDepth 20000 in
theorem ggX8_lays_X8_fulls : GoodIn wsX8_lays wsX8_fulls := goodIn_r _ [8, 9, 10, 11, 7, 12, 13, 14, 15, 16, 17, 18, 74, 75, 76, 77, 78, 79, 80, 81, 82, 83, 84, 85, 86, 87, 88, 89, 90, 91, 92, 93, 94, 95, 96] (by decide +kernel) (by decide +kernel)
set_option maxRecDepth 20000 in
theorem gX8_lays_X8_fulls : GoodIn wsX8_lays (wsV RX8 130 RX8 yX8_fulls wsX8_fulls) := goodIn_app (goodIn_of _ (by decide +kernel)) ggX8_lays_X8_fulls
set_option maxRecDepth 20000 in
theorem ggX8_lays_X8_asksFull : GoodIn wsX8_lays wsX8_asksFull := goodIn_r _ [22, 23, 9, 10, 11, 7, 12, 13, 14, 15, 16, 17, 18, 24, 25, 26, 27, 2, 28, 29, 30, 31, 32, 33, 34, 35, 36, 37, 38, 39, 40, 41, 42, 43, 44, 45, 46, 47, 48, 49, 50, 51, 52, 53, 74, 75, 76, 77, 78, 79, 80, 81, 82, 83, 84, 85, 86, 87, 88, 89, 90, 91, 92, 93, 94, 95, 96] (by decide +kernel) (by decide +kernel)
set_option maxRecDepth 20000 in
theorem gX8_lays_X8_asksFull : GoodIn wsX8_lays (wsV RX8 133 RX8 yX8_asksFull wsX8_asksFull) := goodIn_app (goodIn_of _ (by decide +kernel)) ggX8_lays_X8_asksFull
set_option maxRecDepth 20000 in
theorem ggX8_lays_X8_bitsAt : GoodIn wsX8_lays wsX8_bitsAt := goodIn_r _ [57, 58, 59, 60, 7, 61, 13, 14, 15, 16, 17, 18, 62, 63, 64, 65, 74, 75, 76, 77, 78, 79, 80, 81, 82, 83, 84, 85, 86, 87, 88, 89, 90, 91, 92, 93, 94, 95, 96] (by decide +kernel) (by decide +kernel)
set_option maxRecDepth 20000 in
theorem gX8_lays_X8_bitsAt : GoodIn wsX8_lays (wsV RX8 136 RX8 yX8_bitsAt wsX8_bitsAt) := goodIn_app (goodIn_of _ (by decide +kernel)) ggX8_lays_X8_bitsAt
set_option maxRecDepth 20000 in
theorem ggX8_lays_X8_faults : GoodIn wsX8_lays wsX8_faults := goodIn_r _ [69, 28, 29, 30, 7, 31, 13, 14, 15, 16, 17, 18, 74, 75, 76, 77, 78, 79, 80, 81, 82, 83, 84, 85, 86, 87, 88, 89, 90, 91, 92, 93, 94, 95, 96] (by decide +kernel) (by decide +kernel)
set_option maxRecDepth 20000 in
theorem gX8_lays_X8_faults : GoodIn wsX8_lays (wsV RX8 118 RX8 yX8_faults wsX8_faults) := goodIn_app (goodIn_of _ (by decide +kernel)) ggX8_lays_X8_faults
set_option maxRecDepth 20000 in
theorem ggX8_lays_X8_bends : GoodIn wsX8_lays wsX8_bends := goodIn_r _ [73, 2, 3, 23, 28, 29, 30, 7, 31, 13, 14, 15, 16, 17, 18, 51, 52, 53, 9, 10, 11, 12, 32, 33, 34, 35, 36, 37, 38, 39, 40, 41, 42, 43, 44, 45, 46, 47, 48, 49, 50, 74, 75, 76, 77, 78, 79, 80, 81, 82, 83, 84, 85, 86, 87, 88, 89, 90, 91, 92, 93, 94, 95, 96] (by decide +kernel) (by decide +kernel)
set_option maxRecDepth 20000 in
theorem gX8_lays_X8_bends : GoodIn wsX8_lays (wsV RX8 105 RX8 yX8_bends wsX8_bends) := goodIn_app (goodIn_of _ (by decide +kernel)) ggX8_lays_X8_bends
theorem dX8_lays_0 : decode cX8_lays 0 = .ok (.iconst 0, 1) := by decide +kernel
theorem dX8_lays_1 : decode cX8_lays 1 = .ok (.istore_n 1, 1) := by decide +kernel
theorem dX8_lays_2 : decode cX8_lays 2 = .ok (.iload_n 1, 1) := by decide +kernel
theorem dX8_lays_3 : decode cX8_lays 3 = .ok (.aload_n 0, 1) := by decide +kernel
theorem dX8_lays_4 : decode cX8_lays 4 = .ok (.invokevirtual 130, 3) := by decide +kernel
theorem dX8_lays_7 : decode cX8_lays 7 = .ok (.if_icmp .ge 73, 3) := by decide +kernel
theorem dX8_lays_10 : decode cX8_lays 10 = .ok (.aload_n 0, 1) := by decide +kernel
theorem dX8_lays_11 : decode cX8_lays 11 = .ok (.iload_n 1, 1) := by decide +kernel
theorem dX8_lays_12 : decode cX8_lays 12 = .ok (.invokevirtual 133, 3) := by decide +kernel
theorem dX8_lays_15 : decode cX8_lays 15 = .ok (.aload_n 0, 1) := by decide +kernel
theorem dX8_lays_16 : decode cX8_lays 16 = .ok (.getfield 31, 3) := by decide +kernel
theorem dX8_lays_19 : decode cX8_lays 19 = .ok (.sipush 14336, 3) := by decide +kernel
theorem dX8_lays_22 : decode cX8_lays 22 = .ok (.iload_n 1, 1) := by decide +kernel
theorem dX8_lays_23 : decode cX8_lays 23 = .ok (.iadd, 1) := by decide +kernel
theorem dX8_lays_24 : decode cX8_lays 24 = .ok (.aload_n 0, 1) := by decide +kernel
theorem dX8_lays_25 : decode cX8_lays 25 = .ok (.aload_n 0, 1) := by decide +kernel
theorem dX8_lays_26 : decode cX8_lays 26 = .ok (.getfield 22, 3) := by decide +kernel
theorem dX8_lays_29 : decode cX8_lays 29 = .ok (.invokevirtual 136, 3) := by decide +kernel
theorem dX8_lays_32 : decode cX8_lays 32 = .ok (.iastore, 1) := by decide +kernel
theorem dX8_lays_33 : decode cX8_lays 33 = .ok (.iconst 0, 1) := by decide +kernel
theorem dX8_lays_34 : decode cX8_lays 34 = .ok (.istore_n 2, 1) := by decide +kernel
theorem dX8_lays_35 : decode cX8_lays 35 = .ok (.iload_n 2, 1) := by decide +kernel
theorem dX8_lays_36 : decode cX8_lays 36 = .ok (.aload_n 0, 1) := by decide +kernel
theorem dX8_lays_37 : decode cX8_lays 37 = .ok (.invokevirtual 118, 3) := by decide +kernel
theorem dX8_lays_40 : decode cX8_lays 40 = .ok (.if_icmp .ge 34, 3) := by decide +kernel
theorem dX8_lays_43 : decode cX8_lays 43 = .ok (.aload_n 0, 1) := by decide +kernel
theorem dX8_lays_44 : decode cX8_lays 44 = .ok (.iload_n 2, 1) := by decide +kernel
theorem dX8_lays_45 : decode cX8_lays 45 = .ok (.invokevirtual 105, 3) := by decide +kernel
theorem dX8_lays_48 : decode cX8_lays 48 = .ok (.aload_n 0, 1) := by decide +kernel
theorem dX8_lays_49 : decode cX8_lays 49 = .ok (.getfield 31, 3) := by decide +kernel
theorem dX8_lays_52 : decode cX8_lays 52 = .ok (.sipush 256, 3) := by decide +kernel
theorem dX8_lays_55 : decode cX8_lays 55 = .ok (.iload_n 2, 1) := by decide +kernel
theorem dX8_lays_56 : decode cX8_lays 56 = .ok (.imul, 1) := by decide +kernel
theorem dX8_lays_57 : decode cX8_lays 57 = .ok (.iload_n 1, 1) := by decide +kernel
theorem dX8_lays_58 : decode cX8_lays 58 = .ok (.iadd, 1) := by decide +kernel
theorem dX8_lays_59 : decode cX8_lays 59 = .ok (.aload_n 0, 1) := by decide +kernel
theorem dX8_lays_60 : decode cX8_lays 60 = .ok (.aload_n 0, 1) := by decide +kernel
theorem dX8_lays_61 : decode cX8_lays 61 = .ok (.getfield 25, 3) := by decide +kernel
theorem dX8_lays_64 : decode cX8_lays 64 = .ok (.invokevirtual 136, 3) := by decide +kernel
theorem dX8_lays_67 : decode cX8_lays 67 = .ok (.iastore, 1) := by decide +kernel
theorem dX8_lays_68 : decode cX8_lays 68 = .ok (.iinc 2 1, 3) := by decide +kernel
theorem dX8_lays_71 : decode cX8_lays 71 = .ok (.goto (-36), 3) := by decide +kernel
theorem dX8_lays_74 : decode cX8_lays 74 = .ok (.iinc 1 1, 3) := by decide +kernel
theorem dX8_lays_77 : decode cX8_lays 77 = .ok (.goto (-75), 3) := by decide +kernel
theorem dX8_lays_80 : decode cX8_lays 80 = .ok (.return_, 1) := by decide +kernel
set_option maxRecDepth 20000 in
theorem ggX8_between_X8_fulls : GoodIn wsX8_between wsX8_fulls := goodIn_r _ [6, 7, 8, 9, 5, 10, 11, 12, 13, 14, 15, 16, 17, 18, 19, 20, 21, 22, 23, 24, 25, 26, 27, 28, 29, 30, 31, 32, 33, 34, 35, 36, 37, 38, 39] (by decide +kernel) (by decide +kernel)
set_option maxRecDepth 20000 in
theorem gX8_between_X8_fulls : GoodIn wsX8_between (wsV RX8 130 RX8 yX8_fulls wsX8_fulls) := goodIn_app (goodIn_of _ (by decide +kernel)) ggX8_between_X8_fulls
theorem dX8_between_0 : decode cX8_between 0 = .ok (.iconst 0, 1) := by decide +kernel
theorem dX8_between_1 : decode cX8_between 1 = .ok (.istore_n 3, 1) := by decide +kernel
theorem dX8_between_2 : decode cX8_between 2 = .ok (.iload_n 3, 1) := by decide +kernel
theorem dX8_between_3 : decode cX8_between 3 = .ok (.aload_n 0, 1) := by decide +kernel
theorem dX8_between_4 : decode cX8_between 4 = .ok (.invokevirtual 130, 3) := by decide +kernel
theorem dX8_between_7 : decode cX8_between 7 = .ok (.if_icmp .ge 38, 3) := by decide +kernel
theorem dX8_between_10 : decode cX8_between 10 = .ok (.aload_n 0, 1) := by decide +kernel
theorem dX8_between_11 : decode cX8_between 11 = .ok (.getfield 31, 3) := by decide +kernel
theorem dX8_between_14 : decode cX8_between 14 = .ok (.sipush 256, 3) := by decide +kernel
theorem dX8_between_17 : decode cX8_between 17 = .ok (.iload_n 1, 1) := by decide +kernel
theorem dX8_between_18 : decode cX8_between 18 = .ok (.imul, 1) := by decide +kernel
theorem dX8_between_19 : decode cX8_between 19 = .ok (.iload_n 3, 1) := by decide +kernel
theorem dX8_between_20 : decode cX8_between 20 = .ok (.iadd, 1) := by decide +kernel
theorem dX8_between_21 : decode cX8_between 21 = .ok (.iaload, 1) := by decide +kernel
theorem dX8_between_22 : decode cX8_between 22 = .ok (.aload_n 0, 1) := by decide +kernel
theorem dX8_between_23 : decode cX8_between 23 = .ok (.getfield 31, 3) := by decide +kernel
theorem dX8_between_26 : decode cX8_between 26 = .ok (.sipush 256, 3) := by decide +kernel
theorem dX8_between_29 : decode cX8_between 29 = .ok (.iload_n 2, 1) := by decide +kernel
theorem dX8_between_30 : decode cX8_between 30 = .ok (.imul, 1) := by decide +kernel
theorem dX8_between_31 : decode cX8_between 31 = .ok (.iload_n 3, 1) := by decide +kernel
theorem dX8_between_32 : decode cX8_between 32 = .ok (.iadd, 1) := by decide +kernel
theorem dX8_between_33 : decode cX8_between 33 = .ok (.iaload, 1) := by decide +kernel
theorem dX8_between_34 : decode cX8_between 34 = .ok (.if_icmp .eq 5, 3) := by decide +kernel
theorem dX8_between_37 : decode cX8_between 37 = .ok (.iload_n 3, 1) := by decide +kernel
theorem dX8_between_38 : decode cX8_between 38 = .ok (.ireturn, 1) := by decide +kernel
theorem dX8_between_39 : decode cX8_between 39 = .ok (.iinc 3 1, 3) := by decide +kernel
theorem dX8_between_42 : decode cX8_between 42 = .ok (.goto (-40), 3) := by decide +kernel
theorem dX8_between_45 : decode cX8_between 45 = .ok (.iconst (-1), 1) := by decide +kernel
theorem dX8_between_46 : decode cX8_between 46 = .ok (.ireturn, 1) := by decide +kernel
set_option maxRecDepth 20000 in
theorem ggX8_isHidden_X8_between : GoodIn wsX8_isHidden wsX8_between := goodIn_r _ [5, 6, 7, 8, 9, 4, 10, 11, 12, 13, 14, 15, 16, 17, 18, 19, 20, 21, 22, 23, 24, 25, 26, 27, 28, 29, 30, 31, 32, 33, 34, 35, 36, 37, 38, 39, 40, 41, 42, 43] (by decide +kernel) (by decide +kernel)
set_option maxRecDepth 20000 in
theorem gX8_isHidden_X8_between : GoodIn wsX8_isHidden (wsV RX8 140 RX8 yX8_between wsX8_between) := goodIn_app (goodIn_of _ (by decide +kernel)) ggX8_isHidden_X8_between
theorem dX8_isHidden_0 : decode cX8_isHidden 0 = .ok (.aload_n 0, 1) := by decide +kernel
theorem dX8_isHidden_1 : decode cX8_isHidden 1 = .ok (.iload_n 1, 1) := by decide +kernel
theorem dX8_isHidden_2 : decode cX8_isHidden 2 = .ok (.bipush 56, 2) := by decide +kernel
theorem dX8_isHidden_4 : decode cX8_isHidden 4 = .ok (.invokevirtual 140, 3) := by decide +kernel
theorem dX8_isHidden_7 : decode cX8_isHidden 7 = .ok (.iconst (-1), 1) := by decide +kernel
theorem dX8_isHidden_8 : decode cX8_isHidden 8 = .ok (.if_icmp .ne 7, 3) := by decide +kernel
theorem dX8_isHidden_11 : decode cX8_isHidden 11 = .ok (.iconst 1, 1) := by decide +kernel
theorem dX8_isHidden_12 : decode cX8_isHidden 12 = .ok (.goto 4, 3) := by decide +kernel
theorem dX8_isHidden_15 : decode cX8_isHidden 15 = .ok (.iconst 0, 1) := by decide +kernel
theorem dX8_isHidden_16 : decode cX8_isHidden 16 = .ok (.ireturn, 1) := by decide +kernel
set_option maxRecDepth 20000 in
theorem ggX8_append_X8_four : GoodIn wsX8_append wsX8_four := goodIn_r _ [7, 8, 2, 9, 10, 11, 12, 13, 14, 15, 16, 17, 18, 19, 20, 21, 22, 23, 24, 25, 26, 27, 28, 29, 30, 31] (by decide +kernel) (by decide +kernel)
set_option maxRecDepth 20000 in
theorem gX8_append_X8_four : GoodIn wsX8_append (wsV RX8 146 RX8 yX8_four wsX8_four) := goodIn_app (goodIn_of _ (by decide +kernel)) ggX8_append_X8_four
theorem dX8_append_0 : decode cX8_append 0 = .ok (.aload_n 0, 1) := by decide +kernel
theorem dX8_append_1 : decode cX8_append 1 = .ok (.iconst 0, 1) := by decide +kernel
theorem dX8_append_2 : decode cX8_append 2 = .ok (.putfield 61, 3) := by decide +kernel
theorem dX8_append_5 : decode cX8_append 5 = .ok (.aload_n 0, 1) := by decide +kernel
theorem dX8_append_6 : decode cX8_append 6 = .ok (.getfield 143, 3) := by decide +kernel
theorem dX8_append_9 : decode cX8_append 9 = .ok (.bipush 20, 2) := by decide +kernel
theorem dX8_append_11 : decode cX8_append 11 = .ok (.iadd, 1) := by decide +kernel
theorem dX8_append_12 : decode cX8_append 12 = .ok (.sipush 800, 3) := by decide +kernel
theorem dX8_append_15 : decode cX8_append 15 = .ok (.if_icmp .le 5, 3) := by decide +kernel
theorem dX8_append_18 : decode cX8_append 18 = .ok (.iconst (-1), 1) := by decide +kernel
theorem dX8_append_19 : decode cX8_append 19 = .ok (.ireturn, 1) := by decide +kernel
theorem dX8_append_20 : decode cX8_append 20 = .ok (.aload_n 0, 1) := by decide +kernel
theorem dX8_append_21 : decode cX8_append 21 = .ok (.iload_n 1, 1) := by decide +kernel
theorem dX8_append_22 : decode cX8_append 22 = .ok (.invokevirtual 146, 3) := by decide +kernel
theorem dX8_append_25 : decode cX8_append 25 = .ok (.aload_n 0, 1) := by decide +kernel
theorem dX8_append_26 : decode cX8_append 26 = .ok (.iload_n 2, 1) := by decide +kernel
theorem dX8_append_27 : decode cX8_append 27 = .ok (.invokevirtual 146, 3) := by decide +kernel
theorem dX8_append_30 : decode cX8_append 30 = .ok (.aload_n 0, 1) := by decide +kernel
theorem dX8_append_31 : decode cX8_append 31 = .ok (.iload_n 3, 1) := by decide +kernel
theorem dX8_append_32 : decode cX8_append 32 = .ok (.invokevirtual 146, 3) := by decide +kernel
theorem dX8_append_35 : decode cX8_append 35 = .ok (.aload_n 0, 1) := by decide +kernel
theorem dX8_append_36 : decode cX8_append 36 = .ok (.iload 4, 2) := by decide +kernel
theorem dX8_append_38 : decode cX8_append 38 = .ok (.invokevirtual 146, 3) := by decide +kernel
theorem dX8_append_41 : decode cX8_append 41 = .ok (.aload_n 0, 1) := by decide +kernel
theorem dX8_append_42 : decode cX8_append 42 = .ok (.iload 5, 2) := by decide +kernel
theorem dX8_append_44 : decode cX8_append 44 = .ok (.invokevirtual 146, 3) := by decide +kernel
theorem dX8_append_47 : decode cX8_append 47 = .ok (.aload_n 0, 1) := by decide +kernel
theorem dX8_append_48 : decode cX8_append 48 = .ok (.getfield 143, 3) := by decide +kernel
theorem dX8_append_51 : decode cX8_append 51 = .ok (.ireturn, 1) := by decide +kernel
theorem dX8_four_0 : decode cX8_four 0 = .ok (.bipush 24, 2) := by decide +kernel
theorem dX8_four_2 : decode cX8_four 2 = .ok (.istore_n 2, 1) := by decide +kernel
theorem dX8_four_3 : decode cX8_four 3 = .ok (.iload_n 2, 1) := by decide +kernel
theorem dX8_four_4 : decode cX8_four 4 = .ok (.ifCond .lt 35, 3) := by decide +kernel
theorem dX8_four_7 : decode cX8_four 7 = .ok (.aload_n 0, 1) := by decide +kernel
theorem dX8_four_8 : decode cX8_four 8 = .ok (.getfield 34, 3) := by decide +kernel
theorem dX8_four_11 : decode cX8_four 11 = .ok (.aload_n 0, 1) := by decide +kernel
theorem dX8_four_12 : decode cX8_four 12 = .ok (.getfield 143, 3) := by decide +kernel
theorem dX8_four_15 : decode cX8_four 15 = .ok (.iload_n 1, 1) := by decide +kernel
theorem dX8_four_16 : decode cX8_four 16 = .ok (.iload_n 2, 1) := by decide +kernel
theorem dX8_four_17 : decode cX8_four 17 = .ok (.ishr, 1) := by decide +kernel
theorem dX8_four_18 : decode cX8_four 18 = .ok (.sipush 255, 3) := by decide +kernel
theorem dX8_four_21 : decode cX8_four 21 = .ok (.iand, 1) := by decide +kernel
theorem dX8_four_22 : decode cX8_four 22 = .ok (.iastore, 1) := by decide +kernel
theorem dX8_four_23 : decode cX8_four 23 = .ok (.aload_n 0, 1) := by decide +kernel
theorem dX8_four_24 : decode cX8_four 24 = .ok (.dup, 1) := by decide +kernel
theorem dX8_four_25 : decode cX8_four 25 = .ok (.getfield 143, 3) := by decide +kernel
theorem dX8_four_28 : decode cX8_four 28 = .ok (.iconst 1, 1) := by decide +kernel
theorem dX8_four_29 : decode cX8_four 29 = .ok (.iadd, 1) := by decide +kernel
theorem dX8_four_30 : decode cX8_four 30 = .ok (.putfield 143, 3) := by decide +kernel
theorem dX8_four_33 : decode cX8_four 33 = .ok (.iinc 2 (-8), 3) := by decide +kernel
theorem dX8_four_36 : decode cX8_four 36 = .ok (.goto (-33), 3) := by decide +kernel
theorem dX8_four_39 : decode cX8_four 39 = .ok (.return_, 1) := by decide +kernel
theorem dX8_errorOffset_0 : decode cX8_errorOffset 0 = .ok (.aload_n 0, 1) := by decide +kernel
theorem dX8_errorOffset_1 : decode cX8_errorOffset 1 = .ok (.iconst 0, 1) := by decide +kernel
theorem dX8_errorOffset_2 : decode cX8_errorOffset 2 = .ok (.putfield 61, 3) := by decide +kernel
theorem dX8_errorOffset_5 : decode cX8_errorOffset 5 = .ok (.aload_n 0, 1) := by decide +kernel
theorem dX8_errorOffset_6 : decode cX8_errorOffset 6 = .ok (.getfield 37, 3) := by decide +kernel
theorem dX8_errorOffset_9 : decode cX8_errorOffset 9 = .ok (.ireturn, 1) := by decide +kernel
theorem dX8_fails_0 : decode cX8_fails 0 = .ok (.aload_n 0, 1) := by decide +kernel
theorem dX8_fails_1 : decode cX8_fails 1 = .ok (.getfield 149, 3) := by decide +kernel
theorem dX8_fails_4 : decode cX8_fails 4 = .ok (.ifCond .eq 5, 3) := by decide +kernel
theorem dX8_fails_7 : decode cX8_fails 7 = .ok (.iconst 0, 1) := by decide +kernel
theorem dX8_fails_8 : decode cX8_fails 8 = .ok (.ireturn, 1) := by decide +kernel
theorem dX8_fails_9 : decode cX8_fails 9 = .ok (.aload_n 0, 1) := by decide +kernel
theorem dX8_fails_10 : decode cX8_fails 10 = .ok (.iload_n 1, 1) := by decide +kernel
theorem dX8_fails_11 : decode cX8_fails 11 = .ok (.putfield 149, 3) := by decide +kernel
theorem dX8_fails_14 : decode cX8_fails 14 = .ok (.aload_n 0, 1) := by decide +kernel
theorem dX8_fails_15 : decode cX8_fails 15 = .ok (.iload_n 2, 1) := by decide +kernel
theorem dX8_fails_16 : decode cX8_fails 16 = .ok (.putfield 37, 3) := by decide +kernel
theorem dX8_fails_19 : decode cX8_fails 19 = .ok (.iconst 0, 1) := by decide +kernel
theorem dX8_fails_20 : decode cX8_fails 20 = .ok (.ireturn, 1) := by decide +kernel
theorem dX8_here_0 : decode cX8_here 0 = .ok (.aload_n 0, 1) := by decide +kernel
theorem dX8_here_1 : decode cX8_here 1 = .ok (.getfield 152, 3) := by decide +kernel
