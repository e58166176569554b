theorem dX8_faulty_15 : decode cX8_faulty 15 = .ok (.invokevirtual 298, 3) := by decide +kernel
theorem dX8_faulty_18 : decode cX8_faulty 18 = .ok (.ifCond .eq 11, 3) := by decide +kernel
theorem dX8_faulty_21 : decode cX8_faulty 21 = .ok (.aload_n 0, 1) := by decide +kernel
theorem dX8_faulty_22 : decode cX8_faulty 22 = .ok (.iload_n 3, 1) := by decide +kernel
theorem dX8_faulty_23 : decode cX8_faulty 23 = .ok (.invokevirtual 289, 3) := by decide +kernel
theorem dX8_faulty_26 : decode cX8_faulty 26 = .ok (.ifCond .ne 5, 3) := by decide +kernel
theorem dX8_faulty_29 : decode cX8_faulty 29 = .ok (.iconst 0, 1) := by decide +kernel
theorem dX8_faulty_30 : decode cX8_faulty 30 = .ok (.ireturn, 1) := by decide +kernel
theorem dX8_faulty_31 : decode cX8_faulty 31 = .ok (.aload_n 0, 1) := by decide +kernel
theorem dX8_faulty_32 : decode cX8_faulty 32 = .ok (.iload_n 1, 1) := by decide +kernel
theorem dX8_faulty_33 : decode cX8_faulty 33 = .ok (.invokevirtual 115, 3) := by decide +kernel
theorem dX8_faulty_36 : decode cX8_faulty 36 = .ok (.aload_n 0, 1) := by decide +kernel
theorem dX8_faulty_37 : decode cX8_faulty 37 = .ok (.iload_n 2, 1) := by decide +kernel
theorem dX8_faulty_38 : decode cX8_faulty 38 = .ok (.invokevirtual 105, 3) := by decide +kernel
theorem dX8_faulty_41 : decode cX8_faulty 41 = .ok (.aload_n 0, 1) := by decide +kernel
theorem dX8_faulty_42 : decode cX8_faulty 42 = .ok (.getfield 25, 3) := by decide +kernel
theorem dX8_faulty_45 : decode cX8_faulty 45 = .ok (.iload_n 3, 1) := by decide +kernel
theorem dX8_faulty_46 : decode cX8_faulty 46 = .ok (.iaload, 1) := by decide +kernel
theorem dX8_faulty_47 : decode cX8_faulty 47 = .ok (.ireturn, 1) := by decide +kernel
set_option maxRecDepth 20000 in
theorem ggX8_finds_X8_isTest : GoodIn wsX8_finds wsX8_isTest := goodIn_r _ [6, 7, 8, 9, 5, 10, 11, 12, 13, 14, 15, 16, 17, 18, 19, 20, 21, 22, 23, 1, 89, 90, 91, 92, 93, 94, 95, 96, 97, 98, 99, 100, 101, 102, 103, 104, 105, 106, 107, 108, 109, 110, 111] (by decide +kernel) (by decide +kernel)
set_option maxRecDepth 20000 in
theorem gX8_finds_X8_isTest : GoodIn wsX8_finds (wsV RX8 295 RX8 yX8_isTest wsX8_isTest) := goodIn_app (goodIn_of _ (by decide +kernel)) ggX8_finds_X8_isTest
set_option maxRecDepth 20000 in
theorem ggX8_finds_X8_isFault : GoodIn wsX8_finds wsX8_isFault := goodIn_r _ [27, 28, 29, 30, 5, 31, 32, 33, 34, 35, 11, 12, 13, 14, 15, 16, 17, 18, 19, 20, 21, 22, 23, 1, 89, 90, 91, 92, 93, 94, 95, 96, 97, 98, 99, 100, 101, 102, 103, 104, 105, 106, 107, 108, 109, 110, 111] (by decide +kernel) (by decide +kernel)
set_option maxRecDepth 20000 in
theorem gX8_finds_X8_isFault : GoodIn wsX8_finds (wsV RX8 298 RX8 yX8_isFault wsX8_isFault) := goodIn_app (goodIn_of _ (by decide +kernel)) ggX8_finds_X8_isFault
set_option maxRecDepth 20000 in
theorem ggX8_finds_X8_asksTest : GoodIn wsX8_finds wsX8_asksTest := goodIn_r _ [39, 40, 41, 42, 43, 5, 44, 11, 12, 13, 14, 15, 16, 45, 46, 47, 48, 49, 32, 33, 34, 35, 50, 51, 52, 53, 54, 55, 56, 57, 58, 59, 60, 61, 62, 63, 64, 65, 66, 67, 68, 69, 70, 71, 89, 90, 91, 92, 93, 94, 95, 96, 97, 98, 99, 100, 101, 102, 103, 104, 105, 106, 107, 108, 109, 110, 111] (by decide +kernel) (by decide +kernel)
set_option maxRecDepth 20000 in
theorem gX8_finds_X8_asksTest : GoodIn wsX8_finds (wsV RX8 115 RX8 yX8_asksTest wsX8_asksTest) := goodIn_app (goodIn_of _ (by decide +kernel)) ggX8_finds_X8_asksTest
set_option maxRecDepth 20000 in
theorem ggX8_finds_X8_found : GoodIn wsX8_finds wsX8_found := goodIn_r _ [75, 49, 76, 77, 78, 79, 5, 80, 40, 32, 33, 34, 35, 11, 12, 13, 14, 15, 16, 69, 70, 71, 41, 42, 43, 44, 50, 51, 52, 53, 54, 55, 56, 57, 58, 59, 60, 61, 62, 63, 64, 65, 66, 67, 68, 81, 82, 83, 84, 85, 86, 87, 88, 89, 90, 91, 92, 93, 94, 95, 96, 97, 98, 99, 100, 101, 102, 103, 104, 105, 106, 107, 108, 109, 110, 111] (by decide +kernel) (by decide +kernel)
set_option maxRecDepth 20000 in
theorem gX8_finds_X8_found : GoodIn wsX8_finds (wsV RX8 121 RX8 yX8_found wsX8_found) := goodIn_app (goodIn_of _ (by decide +kernel)) ggX8_finds_X8_found
theorem dX8_finds_0 : decode cX8_finds 0 = .ok (.aload_n 0, 1) := by decide +kernel
theorem dX8_finds_1 : decode cX8_finds 1 = .ok (.iconst 0, 1) := by decide +kernel
theorem dX8_finds_2 : decode cX8_finds 2 = .ok (.putfield 61, 3) := by decide +kernel
theorem dX8_finds_5 : decode cX8_finds 5 = .ok (.aload_n 0, 1) := by decide +kernel
theorem dX8_finds_6 : decode cX8_finds 6 = .ok (.iload_n 1, 1) := by decide +kernel
theorem dX8_finds_7 : decode cX8_finds 7 = .ok (.invokevirtual 295, 3) := by decide +kernel
theorem dX8_finds_10 : decode cX8_finds 10 = .ok (.ifCond .eq 11, 3) := by decide +kernel
theorem dX8_finds_13 : decode cX8_finds 13 = .ok (.aload_n 0, 1) := by decide +kernel
theorem dX8_finds_14 : decode cX8_finds 14 = .ok (.iload_n 2, 1) := by decide +kernel
theorem dX8_finds_15 : decode cX8_finds 15 = .ok (.invokevirtual 298, 3) := by decide +kernel
theorem dX8_finds_18 : decode cX8_finds 18 = .ok (.ifCond .ne 5, 3) := by decide +kernel
theorem dX8_finds_21 : decode cX8_finds 21 = .ok (.iconst 0, 1) := by decide +kernel
theorem dX8_finds_22 : decode cX8_finds 22 = .ok (.ireturn, 1) := by decide +kernel
theorem dX8_finds_23 : decode cX8_finds 23 = .ok (.aload_n 0, 1) := by decide +kernel
theorem dX8_finds_24 : decode cX8_finds 24 = .ok (.iload_n 1, 1) := by decide +kernel
theorem dX8_finds_25 : decode cX8_finds 25 = .ok (.invokevirtual 115, 3) := by decide +kernel
theorem dX8_finds_28 : decode cX8_finds 28 = .ok (.aload_n 0, 1) := by decide +kernel
theorem dX8_finds_29 : decode cX8_finds 29 = .ok (.iload_n 2, 1) := by decide +kernel
theorem dX8_finds_30 : decode cX8_finds 30 = .ok (.invokevirtual 121, 3) := by decide +kernel
theorem dX8_finds_33 : decode cX8_finds 33 = .ok (.ireturn, 1) := by decide +kernel
set_option maxRecDepth 20000 in
theorem ggX8_tellsApart_X8_isTest : GoodIn wsX8_tellsApart wsX8_isTest := goodIn_r _ [8, 9, 10, 11, 7, 12, 13, 14, 15, 16, 17, 18, 19, 20, 21, 22, 23, 24, 25, 1, 86, 87, 88, 89, 90, 91, 92, 93, 94, 95, 96, 97, 98, 99, 100, 101, 102, 103, 104, 105, 106, 107, 108] (by decide +kernel) (by decide +kernel)
set_option maxRecDepth 20000 in
theorem gX8_tellsApart_X8_isTest : GoodIn wsX8_tellsApart (wsV RX8 295 RX8 yX8_isTest wsX8_isTest) := goodIn_app (goodIn_of _ (by decide +kernel)) ggX8_tellsApart_X8_isTest
set_option maxRecDepth 20000 in
theorem ggX8_tellsApart_X8_isFault : GoodIn wsX8_tellsApart wsX8_isFault := goodIn_r _ [29, 30, 31, 32, 7, 33, 34, 35, 36, 37, 13, 14, 15, 16, 17, 18, 19, 20, 21, 22, 23, 24, 25, 1, 86, 87, 88, 89, 90, 91, 92, 93, 94, 95, 96, 97, 98, 99, 100, 101, 102, 103, 104, 105, 106, 107, 108] (by decide +kernel) (by decide +kernel)
set_option maxRecDepth 20000 in
theorem gX8_tellsApart_X8_isFault : GoodIn wsX8_tellsApart (wsV RX8 298 RX8 yX8_isFault wsX8_isFault) := goodIn_app (goodIn_of _ (by decide +kernel)) ggX8_tellsApart_X8_isFault
set_option maxRecDepth 20000 in
theorem ggX8_tellsApart_X8_asksTest : GoodIn wsX8_tellsApart wsX8_asksTest := goodIn_r _ [41, 42, 43, 44, 45, 7, 46, 13, 14, 15, 16, 17, 18, 47, 48, 49, 50, 51, 34, 35, 36, 37, 52, 53, 54, 55, 56, 57, 58, 59, 60, 61, 62, 63, 64, 65, 66, 67, 68, 69, 70, 71, 72, 73, 86, 87, 88, 89, 90, 91, 92, 93, 94, 95, 96, 97, 98, 99, 100, 101, 102, 103, 104, 105, 106, 107, 108] (by decide +kernel) (by decide +kernel)
set_option maxRecDepth 20000 in
theorem gX8_tellsApart_X8_asksTest : GoodIn wsX8_tellsApart (wsV RX8 115 RX8 yX8_asksTest wsX8_asksTest) := goodIn_app (goodIn_of _ (by decide +kernel)) ggX8_tellsApart_X8_asksTest
set_option maxRecDepth 20000 in
theorem ggX8_tellsApart_X8_bends : GoodIn wsX8_tellsApart wsX8_bends := goodIn_r _ [77, 51, 3, 42, 34, 35, 36, 7, 37, 13, 14, 15, 16, 17, 18, 71, 72, 73, 43, 44, 45, 46, 52, 53, 54, 55, 56, 57, 58, 59, 60, 61, 62, 63, 64, 65, 66, 67, 68, 69, 70, 86, 87, 88, 89, 90, 91, 92, 93, 94, 95, 96, 97, 98, 99, 100, 101, 102, 103, 104, 105, 106, 107, 108] (by decide +kernel) (by decide +kernel)
set_option maxRecDepth 20000 in
theorem gX8_tellsApart_X8_bends : GoodIn wsX8_tellsApart (wsV RX8 105 RX8 yX8_bends wsX8_bends) := goodIn_app (goodIn_of _ (by decide +kernel)) ggX8_tellsApart_X8_bends
set_option maxRecDepth 20000 in
theorem ggX8_tellsApart_X8_outputs : GoodIn wsX8_tellsApart wsX8_outputs := goodIn_r _ [81, 13, 14, 15, 7, 16, 17, 18, 86, 87, 88, 89, 90, 91, 92, 93, 94, 95, 96, 97, 98, 99, 100, 101, 102, 103, 104, 105, 106, 107, 108] (by decide +kernel) (by decide +kernel)
set_option maxRecDepth 20000 in
theorem gX8_tellsApart_X8_outputs : GoodIn wsX8_tellsApart (wsV RX8 109 RX8 yX8_outputs wsX8_outputs) := goodIn_app (goodIn_of _ (by decide +kernel)) ggX8_tellsApart_X8_outputs
set_option maxRecDepth 20000 in
theorem ggX8_tellsApart_X8_atOutput : GoodIn wsX8_tellsApart wsX8_atOutput := goodIn_r _ [85, 13, 14, 15, 7, 16, 17, 18, 86, 87, 88, 89, 90, 91, 92, 93, 94, 95, 96, 97, 98, 99, 100, 101, 102, 103, 104, 105, 106, 107, 108] (by decide +kernel) (by decide +kernel)
set_option maxRecDepth 20000 in
theorem gX8_tellsApart_X8_atOutput : GoodIn wsX8_tellsApart (wsV RX8 112 RX8 yX8_atOutput wsX8_atOutput) := goodIn_app (goodIn_of _ (by decide +kernel)) ggX8_tellsApart_X8_atOutput
theorem dX8_tellsApart_0 : decode cX8_tellsApart 0 = .ok (.aload_n 0, 1) := by decide +kernel
theorem dX8_tellsApart_1 : decode cX8_tellsApart 1 = .ok (.iconst 0, 1) := by decide +kernel
theorem dX8_tellsApart_2 : decode cX8_tellsApart 2 = .ok (.putfield 61, 3) := by decide +kernel
theorem dX8_tellsApart_5 : decode cX8_tellsApart 5 = .ok (.aload_n 0, 1) := by decide +kernel
theorem dX8_tellsApart_6 : decode cX8_tellsApart 6 = .ok (.iload_n 1, 1) := by decide +kernel
theorem dX8_tellsApart_7 : decode cX8_tellsApart 7 = .ok (.invokevirtual 295, 3) := by decide +kernel
theorem dX8_tellsApart_10 : decode cX8_tellsApart 10 = .ok (.ifCond .eq 19, 3) := by decide +kernel
theorem dX8_tellsApart_13 : decode cX8_tellsApart 13 = .ok (.aload_n 0, 1) := by decide +kernel
theorem dX8_tellsApart_14 : decode cX8_tellsApart 14 = .ok (.iload_n 2, 1) := by decide +kernel
theorem dX8_tellsApart_15 : decode cX8_tellsApart 15 = .ok (.invokevirtual 298, 3) := by decide +kernel
theorem dX8_tellsApart_18 : decode cX8_tellsApart 18 = .ok (.ifCond .eq 11, 3) := by decide +kernel
theorem dX8_tellsApart_21 : decode cX8_tellsApart 21 = .ok (.aload_n 0, 1) := by decide +kernel
theorem dX8_tellsApart_22 : decode cX8_tellsApart 22 = .ok (.iload_n 3, 1) := by decide +kernel
theorem dX8_tellsApart_23 : decode cX8_tellsApart 23 = .ok (.invokevirtual 298, 3) := by decide +kernel
theorem dX8_tellsApart_26 : decode cX8_tellsApart 26 = .ok (.ifCond .ne 5, 3) := by decide +kernel
theorem dX8_tellsApart_29 : decode cX8_tellsApart 29 = .ok (.iconst 0, 1) := by decide +kernel
theorem dX8_tellsApart_30 : decode cX8_tellsApart 30 = .ok (.ireturn, 1) := by decide +kernel
theorem dX8_tellsApart_31 : decode cX8_tellsApart 31 = .ok (.aload_n 0, 1) := by decide +kernel
theorem dX8_tellsApart_32 : decode cX8_tellsApart 32 = .ok (.iload_n 1, 1) := by decide +kernel
theorem dX8_tellsApart_33 : decode cX8_tellsApart 33 = .ok (.invokevirtual 115, 3) := by decide +kernel
theorem dX8_tellsApart_36 : decode cX8_tellsApart 36 = .ok (.aload_n 0, 1) := by decide +kernel
theorem dX8_tellsApart_37 : decode cX8_tellsApart 37 = .ok (.iload_n 2, 1) := by decide +kernel
theorem dX8_tellsApart_38 : decode cX8_tellsApart 38 = .ok (.invokevirtual 105, 3) := by decide +kernel
theorem dX8_tellsApart_41 : decode cX8_tellsApart 41 = .ok (.iconst 0, 1) := by decide +kernel
theorem dX8_tellsApart_42 : decode cX8_tellsApart 42 = .ok (.istore 4, 2) := by decide +kernel
theorem dX8_tellsApart_44 : decode cX8_tellsApart 44 = .ok (.iload 4, 2) := by decide +kernel
theorem dX8_tellsApart_46 : decode cX8_tellsApart 46 = .ok (.aload_n 0, 1) := by decide +kernel
theorem dX8_tellsApart_47 : decode cX8_tellsApart 47 = .ok (.invokevirtual 109, 3) := by decide +kernel
theorem dX8_tellsApart_50 : decode cX8_tellsApart 50 = .ok (.if_icmp .ge 26, 3) := by decide +kernel
theorem dX8_tellsApart_53 : decode cX8_tellsApart 53 = .ok (.aload_n 0, 1) := by decide +kernel
theorem dX8_tellsApart_54 : decode cX8_tellsApart 54 = .ok (.getfield 45, 3) := by decide +kernel
theorem dX8_tellsApart_57 : decode cX8_tellsApart 57 = .ok (.iload 4, 2) := by decide +kernel
theorem dX8_tellsApart_59 : decode cX8_tellsApart 59 = .ok (.aload_n 0, 1) := by decide +kernel
theorem dX8_tellsApart_60 : decode cX8_tellsApart 60 = .ok (.iload 4, 2) := by decide +kernel
theorem dX8_tellsApart_62 : decode cX8_tellsApart 62 = .ok (.aload_n 0, 1) := by decide +kernel
theorem dX8_tellsApart_63 : decode cX8_tellsApart 63 = .ok (.getfield 25, 3) := by decide +kernel
theorem dX8_tellsApart_66 : decode cX8_tellsApart 66 = .ok (.invokevirtual 112, 3) := by decide +kernel
theorem dX8_tellsApart_69 : decode cX8_tellsApart 69 = .ok (.iastore, 1) := by decide +kernel
theorem dX8_tellsApart_70 : decode cX8_tellsApart 70 = .ok (.iinc 4 1, 3) := by decide +kernel
theorem dX8_tellsApart_73 : decode cX8_tellsApart 73 = .ok (.goto (-29), 3) := by decide +kernel
theorem dX8_tellsApart_76 : decode cX8_tellsApart 76 = .ok (.aload_n 0, 1) := by decide +kernel
theorem dX8_tellsApart_77 : decode cX8_tellsApart 77 = .ok (.iload_n 3, 1) := by decide +kernel
theorem dX8_tellsApart_78 : decode cX8_tellsApart 78 = .ok (.invokevirtual 105, 3) := by decide +kernel
theorem dX8_tellsApart_81 : decode cX8_tellsApart 81 = .ok (.iconst 0, 1) := by decide +kernel
theorem dX8_tellsApart_82 : decode cX8_tellsApart 82 = .ok (.istore 4, 2) := by decide +kernel
theorem dX8_tellsApart_84 : decode cX8_tellsApart 84 = .ok (.iload 4, 2) := by decide +kernel
theorem dX8_tellsApart_86 : decode cX8_tellsApart 86 = .ok (.aload_n 0, 1) := by decide +kernel
theorem dX8_tellsApart_87 : decode cX8_tellsApart 87 = .ok (.invokevirtual 109, 3) := by decide +kernel
theorem dX8_tellsApart_90 : decode cX8_tellsApart 90 = .ok (.if_icmp .ge 56, 3) := by decide +kernel
theorem dX8_tellsApart_93 : decode cX8_tellsApart 93 = .ok (.aload_n 0, 1) := by decide +kernel
theorem dX8_tellsApart_94 : decode cX8_tellsApart 94 = .ok (.getfield 45, 3) := by decide +kernel
theorem dX8_tellsApart_97 : decode cX8_tellsApart 97 = .ok (.iload 4, 2) := by decide +kernel
theorem dX8_tellsApart_99 : decode cX8_tellsApart 99 = .ok (.iaload, 1) := by decide +kernel
theorem dX8_tellsApart_100 : decode cX8_tellsApart 100 = .ok (.iconst 2, 1) := by decide +kernel
theorem dX8_tellsApart_101 : decode cX8_tellsApart 101 = .ok (.if_icmp .eq 39, 3) := by decide +kernel
theorem dX8_tellsApart_104 : decode cX8_tellsApart 104 = .ok (.aload_n 0, 1) := by decide +kernel
theorem dX8_tellsApart_105 : decode cX8_tellsApart 105 = .ok (.iload 4, 2) := by decide +kernel
theorem dX8_tellsApart_107 : decode cX8_tellsApart 107 = .ok (.aload_n 0, 1) := by decide +kernel
theorem dX8_tellsApart_108 : decode cX8_tellsApart 108 = .ok (.getfield 25, 3) := by decide +kernel
theorem dX8_tellsApart_111 : decode cX8_tellsApart 111 = .ok (.invokevirtual 112, 3) := by decide +kernel
theorem dX8_tellsApart_114 : decode cX8_tellsApart 114 = .ok (.iconst 2, 1) := by decide +kernel
theorem dX8_tellsApart_115 : decode cX8_tellsApart 115 = .ok (.if_icmp .eq 25, 3) := by decide +kernel
theorem dX8_tellsApart_118 : decode cX8_tellsApart 118 = .ok (.aload_n 0, 1) := by decide +kernel
theorem dX8_tellsApart_119 : decode cX8_tellsApart 119 = .ok (.getfield 45, 3) := by decide +kernel
theorem dX8_tellsApart_122 : decode cX8_tellsApart 122 = .ok (.iload 4, 2) := by decide +kernel
theorem dX8_tellsApart_124 : decode cX8_tellsApart 124 = .ok (.iaload, 1) := by decide +kernel
theorem dX8_tellsApart_125 : decode cX8_tellsApart 125 = .ok (.aload_n 0, 1) := by decide +kernel
theorem dX8_tellsApart_126 : decode cX8_tellsApart 126 = .ok (.iload 4, 2) := by decide +kernel
theorem dX8_tellsApart_128 : decode cX8_tellsApart 128 = .ok (.aload_n 0, 1) := by decide +kernel
theorem dX8_tellsApart_129 : decode cX8_tellsApart 129 = .ok (.getfield 25, 3) := by decide +kernel
theorem dX8_tellsApart_132 : decode cX8_tellsApart 132 = .ok (.invokevirtual 112, 3) := by decide +kernel
theorem dX8_tellsApart_135 : decode cX8_tellsApart 135 = .ok (.if_icmp .eq 5, 3) := by decide +kernel
theorem dX8_tellsApart_138 : decode cX8_tellsApart 138 = .ok (.iconst 1, 1) := by decide +kernel
theorem dX8_tellsApart_139 : decode cX8_tellsApart 139 = .ok (.ireturn, 1) := by decide +kernel
theorem dX8_tellsApart_140 : decode cX8_tellsApart 140 = .ok (.iinc 4 1, 3) := by decide +kernel
theorem dX8_tellsApart_143 : decode cX8_tellsApart 143 = .ok (.goto (-59), 3) := by decide +kernel
theorem dX8_tellsApart_146 : decode cX8_tellsApart 146 = .ok (.iconst 0, 1) := by decide +kernel
theorem dX8_tellsApart_147 : decode cX8_tellsApart 147 = .ok (.ireturn, 1) := by decide +kernel
set_option maxRecDepth 20000 in
theorem ggX8_worth_X8_isTest : GoodIn wsX8_worth wsX8_isTest := goodIn_r _ [6, 7, 8, 9, 5, 10, 11, 12, 13, 14, 15, 16, 17, 18, 19, 20, 21, 22, 23, 1, 89, 90, 91, 92, 93, 94, 95, 96, 97, 98, 99, 100, 101, 102, 103, 104, 105, 106, 107, 108, 109, 110, 111] (by decide +kernel) (by decide +kernel)
set_option maxRecDepth 20000 in
theorem gX8_worth_X8_isTest : GoodIn wsX8_worth (wsV RX8 295 RX8 yX8_isTest wsX8_isTest) := goodIn_app (goodIn_of _ (by decide +kernel)) ggX8_worth_X8_isTest
set_option maxRecDepth 20000 in
theorem ggX8_worth_X8_worthOf : GoodIn wsX8_worth wsX8_worthOf := goodIn_r _ [27, 28, 29, 30, 5, 31, 32, 33, 34, 35, 36, 11, 12, 13, 14, 15, 16, 37, 38, 39, 40, 41, 42, 43, 44, 45, 46, 47, 48, 49, 50, 51, 52, 53, 54, 55, 56, 57, 58, 59, 60, 61, 62, 63, 64, 65, 66, 67, 68, 69, 70, 71, 72, 73, 74, 75, 76, 77, 78, 79, 80, 81, 82, 83, 84, 85, 86, 87, 88, 89, 90, 91, 92, 93, 94, 95, 96, 97, 98, 99, 100, 101, 102, 103, 104, 105, 106, 107, 108, 109, 110, 111] (by decide +kernel) (by decide +kernel)
set_option maxRecDepth 20000 in
theorem gX8_worth_X8_worthOf : GoodIn wsX8_worth (wsV RX8 301 RX8 yX8_worthOf wsX8_worthOf) := goodIn_app (goodIn_of _ (by decide +kernel)) ggX8_worth_X8_worthOf
theorem dX8_worth_0 : decode cX8_worth 0 = .ok (.aload_n 0, 1) := by decide +kernel
theorem dX8_worth_1 : decode cX8_worth 1 = .ok (.iconst 0, 1) := by decide +kernel
theorem dX8_worth_2 : decode cX8_worth 2 = .ok (.putfield 61, 3) := by decide +kernel
theorem dX8_worth_5 : decode cX8_worth 5 = .ok (.aload_n 0, 1) := by decide +kernel
theorem dX8_worth_6 : decode cX8_worth 6 = .ok (.iload_n 1, 1) := by decide +kernel
theorem dX8_worth_7 : decode cX8_worth 7 = .ok (.invokevirtual 295, 3) := by decide +kernel
theorem dX8_worth_10 : decode cX8_worth 10 = .ok (.ifCond .eq 11, 3) := by decide +kernel
theorem dX8_worth_13 : decode cX8_worth 13 = .ok (.aload_n 0, 1) := by decide +kernel
theorem dX8_worth_14 : decode cX8_worth 14 = .ok (.iload_n 1, 1) := by decide +kernel
theorem dX8_worth_15 : decode cX8_worth 15 = .ok (.invokevirtual 301, 3) := by decide +kernel
theorem dX8_worth_18 : decode cX8_worth 18 = .ok (.goto 4, 3) := by decide +kernel
theorem dX8_worth_21 : decode cX8_worth 21 = .ok (.iconst 0, 1) := by decide +kernel
theorem dX8_worth_22 : decode cX8_worth 22 = .ok (.ireturn, 1) := by decide +kernel
set_option maxRecDepth 20000 in
theorem ggX8_testFor_X8_isFault : GoodIn wsX8_testFor wsX8_isFault := goodIn_r _ [6, 7, 8, 9, 5, 10, 11, 12, 13, 14, 15, 16, 17, 18, 19, 20, 21, 22, 23, 24, 25, 26, 27, 1, 94, 95, 96, 97, 98, 99, 100, 101, 102, 103, 104, 105, 106, 107, 108, 109, 110, 111, 112, 113, 114, 115, 116] (by decide +kernel) (by decide +kernel)
set_option maxRecDepth 20000 in
theorem gX8_testFor_X8_isFault : GoodIn wsX8_testFor (wsV RX8 298 RX8 yX8_isFault wsX8_isFault) := goodIn_app (goodIn_of _ (by decide +kernel)) ggX8_testFor_X8_isFault
set_option maxRecDepth 20000 in
theorem ggX8_testFor_X8_lays : GoodIn wsX8_testFor wsX8_lays := goodIn_r _ [31, 32, 33, 34, 35, 36, 37, 5, 38, 39, 40, 41, 42, 15, 16, 17, 18, 19, 20, 43, 44, 45, 46, 47, 48, 49, 50, 51, 11, 12, 13, 14, 52, 53, 54, 55, 56, 57, 58, 59, 60, 61, 62, 63, 64, 65, 66, 67, 68, 69, 70, 71, 72, 73, 74, 75, 76, 77, 78, 79, 80, 81, 82, 83, 84, 85, 7, 8, 9, 10, 86, 87, 88, 89, 94, 95, 96, 97, 98, 99, 100, 101, 102, 103, 104, 105, 106, 107, 108, 109, 110, 111, 112, 113, 114, 115, 116] (by decide +kernel) (by decide +kernel)
set_option maxRecDepth 20000 in
theorem gX8_testFor_X8_lays : GoodIn wsX8_testFor (wsV RX8 304 RX8 yX8_lays wsX8_lays) := goodIn_app (goodIn_of _ (by decide +kernel)) ggX8_testFor_X8_lays
set_option maxRecDepth 20000 in
theorem ggX8_testFor_X8_between : GoodIn wsX8_testFor wsX8_between := goodIn_r _ [93, 32, 35, 36, 37, 5, 38, 39, 40, 41, 42, 15, 16, 17, 18, 19, 20, 94, 95, 96, 97, 98, 99, 100, 101, 102, 103, 104, 105, 106, 107, 108, 109, 110, 111, 112, 113, 114, 115, 116] (by decide +kernel) (by decide +kernel)
set_option maxRecDepth 20000 in
theorem gX8_testFor_X8_between : GoodIn wsX8_testFor (wsV RX8 140 RX8 yX8_between wsX8_between) := goodIn_app (goodIn_of _ (by decide +kernel)) ggX8_testFor_X8_between
theorem dX8_testFor_0 : decode cX8_testFor 0 = .ok (.aload_n 0, 1) := by decide +kernel
theorem dX8_testFor_1 : decode cX8_testFor 1 = .ok (.iconst 0, 1) := by decide +kernel
theorem dX8_testFor_2 : decode cX8_testFor 2 = .ok (.putfield 61, 3) := by decide +kernel
theorem dX8_testFor_5 : decode cX8_testFor 5 = .ok (.aload_n 0, 1) := by decide +kernel
theorem dX8_testFor_6 : decode cX8_testFor 6 = .ok (.iload_n 1, 1) := by decide +kernel
theorem dX8_testFor_7 : decode cX8_testFor 7 = .ok (.invokevirtual 298, 3) := by decide +kernel
theorem dX8_testFor_10 : decode cX8_testFor 10 = .ok (.ifCond .ne 5, 3) := by decide +kernel
theorem dX8_testFor_13 : decode cX8_testFor 13 = .ok (.iconst 0, 1) := by decide +kernel
theorem dX8_testFor_14 : decode cX8_testFor 14 = .ok (.ireturn, 1) := by decide +kernel
theorem dX8_testFor_15 : decode cX8_testFor 15 = .ok (.aload_n 0, 1) := by decide +kernel
theorem dX8_testFor_16 : decode cX8_testFor 16 = .ok (.invokevirtual 304, 3) := by decide +kernel
theorem dX8_testFor_19 : decode cX8_testFor 19 = .ok (.aload_n 0, 1) := by decide +kernel
theorem dX8_testFor_20 : decode cX8_testFor 20 = .ok (.iload_n 1, 1) := by decide +kernel
theorem dX8_testFor_21 : decode cX8_testFor 21 = .ok (.bipush 56, 2) := by decide +kernel
theorem dX8_testFor_23 : decode cX8_testFor 23 = .ok (.invokevirtual 140, 3) := by decide +kernel
theorem dX8_testFor_26 : decode cX8_testFor 26 = .ok (.ireturn, 1) := by decide +kernel
set_option maxRecDepth 20000 in
theorem ggX8_testBetween_X8_isFault : GoodIn wsX8_testBetween wsX8_isFault := goodIn_r _ [6, 7, 8, 9, 5, 10, 11, 12, 13, 14, 15, 16, 17, 18, 19, 20, 21, 22, 23, 24, 25, 26, 27, 1, 94, 95, 96, 97, 98, 99, 100, 101, 102, 103, 104, 105, 106, 107, 108, 109, 110, 111, 112, 113, 114, 115, 116] (by decide +kernel) (by decide +kernel)
set_option maxRecDepth 20000 in
theorem gX8_testBetween_X8_isFault : GoodIn wsX8_testBetween (wsV RX8 298 RX8 yX8_isFault wsX8_isFault) := goodIn_app (goodIn_of _ (by decide +kernel)) ggX8_testBetween_X8_isFault
set_option maxRecDepth 20000 in
theorem ggX8_testBetween_X8_lays : GoodIn wsX8_testBetween wsX8_lays := goodIn_r _ [31, 32, 33, 34, 35, 36, 37, 5, 38, 39, 40, 41, 42, 15, 16, 17, 18, 19, 20, 43, 44, 45, 46, 47, 48, 49, 50, 51, 11, 12, 13, 14, 52, 53, 54, 55, 56, 57, 58, 59, 60, 61, 62, 63, 64, 65, 66, 67, 68, 69, 70, 71, 72, 73, 74, 75, 76, 77, 78, 79, 80, 81, 82, 83, 84, 85, 7, 8, 9, 10, 86, 87, 88, 89, 94, 95, 96, 97, 98, 99, 100, 101, 102, 103, 104, 105, 106, 107, 108, 109, 110, 111, 112, 113, 114, 115, 116] (by decide +kernel) (by decide +kernel)
set_option maxRecDepth 20000 in
theorem gX8_testBetween_X8_lays : GoodIn wsX8_testBetween (wsV RX8 304 RX8 yX8_lays wsX8_lays) := goodIn_app (goodIn_of _ (by decide +kernel)) ggX8_testBetween_X8_lays
set_option maxRecDepth 20000 in
theorem ggX8_testBetween_X8_between : GoodIn wsX8_testBetween wsX8_between := goodIn_r _ [93, 32, 35, 36, 37, 5, 38, 39, 40, 41, 42, 15, 16, 17, 18, 19, 20, 94, 95, 96, 97, 98, 99, 100, 101, 102, 103, 104, 105, 106, 107, 108, 109, 110, 111, 112, 113, 114, 115, 116] (by decide +kernel) (by decide +kernel)
set_option maxRecDepth 20000 in
theorem gX8_testBetween_X8_between : GoodIn wsX8_testBetween (wsV RX8 140 RX8 yX8_between wsX8_between) := goodIn_app (goodIn_of _ (by decide +kernel)) ggX8_testBetween_X8_between
theorem dX8_testBetween_0 : decode cX8_testBetween 0 = .ok (.aload_n 0, 1) := by decide +kernel
theorem dX8_testBetween_1 : decode cX8_testBetween 1 = .ok (.iconst 0, 1) := by decide +kernel
theorem dX8_testBetween_2 : decode cX8_testBetween 2 = .ok (.putfield 61, 3) := by decide +kernel
theorem dX8_testBetween_5 : decode cX8_testBetween 5 = .ok (.aload_n 0, 1) := by decide +kernel
theorem dX8_testBetween_6 : decode cX8_testBetween 6 = .ok (.iload_n 1, 1) := by decide +kernel
theorem dX8_testBetween_7 : decode cX8_testBetween 7 = .ok (.invokevirtual 298, 3) := by decide +kernel
theorem dX8_testBetween_10 : decode cX8_testBetween 10 = .ok (.ifCond .eq 11, 3) := by decide +kernel
theorem dX8_testBetween_13 : decode cX8_testBetween 13 = .ok (.aload_n 0, 1) := by decide +kernel
theorem dX8_testBetween_14 : decode cX8_testBetween 14 = .ok (.iload_n 2, 1) := by decide +kernel
theorem dX8_testBetween_15 : decode cX8_testBetween 15 = .ok (.invokevirtual 298, 3) := by decide +kernel
theorem dX8_testBetween_18 : decode cX8_testBetween 18 = .ok (.ifCond .ne 5, 3) := by decide +kernel
theorem dX8_testBetween_21 : decode cX8_testBetween 21 = .ok (.iconst 0, 1) := by decide +kernel
theorem dX8_testBetween_22 : decode cX8_testBetween 22 = .ok (.ireturn, 1) := by decide +kernel
theorem dX8_testBetween_23 : decode cX8_testBetween 23 = .ok (.aload_n 0, 1) := by decide +kernel
theorem dX8_testBetween_24 : decode cX8_testBetween 24 = .ok (.invokevirtual 304, 3) := by decide +kernel
theorem dX8_testBetween_27 : decode cX8_testBetween 27 = .ok (.aload_n 0, 1) := by decide +kernel
theorem dX8_testBetween_28 : decode cX8_testBetween 28 = .ok (.iload_n 1, 1) := by decide +kernel
theorem dX8_testBetween_29 : decode cX8_testBetween 29 = .ok (.iload_n 2, 1) := by decide +kernel
theorem dX8_testBetween_30 : decode cX8_testBetween 30 = .ok (.invokevirtual 140, 3) := by decide +kernel
theorem dX8_testBetween_33 : decode cX8_testBetween 33 = .ok (.ireturn, 1) := by decide +kernel
set_option maxRecDepth 20000 in
theorem ggX8_hiddenMany_X8_lays : GoodIn wsX8_hiddenMany wsX8_lays := goodIn_r _ [5, 6, 7, 8, 9, 10, 11, 4, 12, 13, 14, 15, 16, 17, 18, 19, 20, 21, 22, 23, 24, 25, 26, 27, 28, 29, 30, 31, 32, 33, 34, 35, 36, 37, 38, 39, 40, 41, 42, 43, 44, 45, 46, 47, 48, 49, 50, 51, 52, 53, 54, 55, 56, 57, 58, 59, 60, 61, 62, 63, 64, 65, 66, 67, 68, 69, 70, 71, 72, 73, 74, 75, 76, 77, 86, 87, 88, 89, 90, 91, 92, 93, 94, 95, 96, 97, 98, 99, 100, 101, 102, 103, 104, 105, 106, 107, 108] (by decide +kernel) (by decide +kernel)
set_option maxRecDepth 20000 in
theorem gX8_hiddenMany_X8_lays : GoodIn wsX8_hiddenMany (wsV RX8 304 RX8 yX8_lays wsX8_lays) := goodIn_app (goodIn_of _ (by decide +kernel)) ggX8_hiddenMany_X8_lays
set_option maxRecDepth 20000 in
theorem ggX8_hiddenMany_X8_faults : GoodIn wsX8_hiddenMany wsX8_faults := goodIn_r _ [73, 32, 33, 34, 4, 35, 17, 18, 19, 20, 21, 22, 86, 87, 88, 89, 90, 91, 92, 93, 94, 95, 96, 97, 98, 99, 100, 101, 102, 103, 104, 105, 106, 107, 108] (by decide +kernel) (by decide +kernel)
set_option maxRecDepth 20000 in
theorem gX8_hiddenMany_X8_faults : GoodIn wsX8_hiddenMany (wsV RX8 118 RX8 yX8_faults wsX8_faults) := goodIn_app (goodIn_of _ (by decide +kernel)) ggX8_hiddenMany_X8_faults
set_option maxRecDepth 20000 in
theorem ggX8_hiddenMany_X8_isHidden : GoodIn wsX8_hiddenMany wsX8_isHidden := goodIn_r _ [81, 82, 83, 84, 4, 85, 6, 9, 10, 11, 12, 13, 14, 15, 16, 17, 18, 19, 20, 21, 22, 86, 87, 88, 89, 90, 91, 92, 93, 94, 95, 96, 97, 98, 99, 100, 101, 102, 103, 104, 105, 106, 107, 108] (by decide +kernel) (by decide +kernel)
set_option maxRecDepth 20000 in
theorem gX8_hiddenMany_X8_isHidden : GoodIn wsX8_hiddenMany (wsV RX8 307 RX8 yX8_isHidden wsX8_isHidden) := goodIn_app (goodIn_of _ (by decide +kernel)) ggX8_hiddenMany_X8_isHidden
theorem dX8_hiddenMany_0 : decode cX8_hiddenMany 0 = .ok (.aload_n 0, 1) := by decide +kernel
theorem dX8_hiddenMany_1 : decode cX8_hiddenMany 1 = .ok (.invokevirtual 304, 3) := by decide +kernel
theorem dX8_hiddenMany_4 : decode cX8_hiddenMany 4 = .ok (.iconst 0, 1) := by decide +kernel
theorem dX8_hiddenMany_5 : decode cX8_hiddenMany 5 = .ok (.istore_n 1, 1) := by decide +kernel
theorem dX8_hiddenMany_6 : decode cX8_hiddenMany 6 = .ok (.iconst 0, 1) := by decide +kernel
theorem dX8_hiddenMany_7 : decode cX8_hiddenMany 7 = .ok (.istore_n 2, 1) := by decide +kernel
theorem dX8_hiddenMany_8 : decode cX8_hiddenMany 8 = .ok (.iload_n 2, 1) := by decide +kernel
theorem dX8_hiddenMany_9 : decode cX8_hiddenMany 9 = .ok (.aload_n 0, 1) := by decide +kernel
theorem dX8_hiddenMany_10 : decode cX8_hiddenMany 10 = .ok (.invokevirtual 118, 3) := by decide +kernel
theorem dX8_hiddenMany_13 : decode cX8_hiddenMany 13 = .ok (.if_icmp .ge 25, 3) := by decide +kernel
theorem dX8_hiddenMany_16 : decode cX8_hiddenMany 16 = .ok (.iload_n 1, 1) := by decide +kernel
theorem dX8_hiddenMany_17 : decode cX8_hiddenMany 17 = .ok (.aload_n 0, 1) := by decide +kernel
theorem dX8_hiddenMany_18 : decode cX8_hiddenMany 18 = .ok (.iload_n 2, 1) := by decide +kernel
theorem dX8_hiddenMany_19 : decode cX8_hiddenMany 19 = .ok (.invokevirtual 307, 3) := by decide +kernel
theorem dX8_hiddenMany_22 : decode cX8_hiddenMany 22 = .ok (.ifCond .eq 7, 3) := by decide +kernel
theorem dX8_hiddenMany_25 : decode cX8_hiddenMany 25 = .ok (.iconst 1, 1) := by decide +kernel
theorem dX8_hiddenMany_26 : decode cX8_hiddenMany 26 = .ok (.goto 4, 3) := by decide +kernel
theorem dX8_hiddenMany_29 : decode cX8_hiddenMany 29 = .ok (.iconst 0, 1) := by decide +kernel
theorem dX8_hiddenMany_30 : decode cX8_hiddenMany 30 = .ok (.iadd, 1) := by decide +kernel
theorem dX8_hiddenMany_31 : decode cX8_hiddenMany 31 = .ok (.istore_n 1, 1) := by decide +kernel
theorem dX8_hiddenMany_32 : decode cX8_hiddenMany 32 = .ok (.iinc 2 1, 3) := by decide +kernel
theorem dX8_hiddenMany_35 : decode cX8_hiddenMany 35 = .ok (.goto (-27), 3) := by decide +kernel
theorem dX8_hiddenMany_38 : decode cX8_hiddenMany 38 = .ok (.iload_n 1, 1) := by decide +kernel
theorem dX8_hiddenMany_39 : decode cX8_hiddenMany 39 = .ok (.ireturn, 1) := by decide +kernel
set_option maxRecDepth 20000 in
theorem ggX8_hidden_X8_hiddenMany : GoodIn wsX8_hidden wsX8_hiddenMany := goodIn_r _ [6, 7, 8, 9, 5, 10, 11, 12, 13, 14, 15, 16, 17, 18, 19, 20, 21, 22, 23, 24, 25, 26, 27, 28, 29, 30, 31, 32, 33, 34, 35, 36, 37, 38, 39, 40, 41, 42, 43, 44, 45, 46, 47, 48, 49, 50, 51, 52, 53, 54, 55, 56, 57, 58, 59, 60, 61, 62, 63, 64, 65, 66, 67, 68, 69, 70, 71, 72, 73, 74, 75, 76, 77, 78, 79, 80, 81, 82, 83, 84, 85, 86, 87, 88, 89, 90, 91, 92, 93, 94, 95, 96, 97, 98, 99, 100, 101, 102, 103, 104, 105, 106, 107, 108, 109, 110, 111, 112, 113] (by decide +kernel) (by decide +kernel)
set_option maxRecDepth 20000 in
theorem gX8_hidden_X8_hiddenMany : GoodIn wsX8_hidden (wsV RX8 310 RX8 yX8_hiddenMany wsX8_hiddenMany) := goodIn_app (goodIn_of _ (by decide +kernel)) ggX8_hidden_X8_hiddenMany
theorem dX8_hidden_0 : decode cX8_hidden 0 = .ok (.aload_n 0, 1) := by decide +kernel
theorem dX8_hidden_1 : decode cX8_hidden 1 = .ok (.iconst 0, 1) := by decide +kernel
theorem dX8_hidden_2 : decode cX8_hidden 2 = .ok (.putfield 61, 3) := by decide +kernel
theorem dX8_hidden_5 : decode cX8_hidden 5 = .ok (.aload_n 0, 1) := by decide +kernel
theorem dX8_hidden_6 : decode cX8_hidden 6 = .ok (.invokevirtual 310, 3) := by decide +kernel
theorem dX8_hidden_9 : decode cX8_hidden 9 = .ok (.ireturn, 1) := by decide +kernel
set_option maxRecDepth 20000 in
theorem ggX8_firstAlike_X8_between : GoodIn wsX8_firstAlike wsX8_between := goodIn_r _ [5, 6, 7, 8, 9, 4, 10, 11, 12, 13, 14, 15, 16, 17, 18, 19, 20, 21, 22, 23, 24, 25, 26, 27, 28, 29, 30, 31, 32, 33, 34, 35, 36, 37, 38, 39, 40, 41, 42, 43] (by decide +kernel) (by decide +kernel)
set_option maxRecDepth 20000 in
theorem gX8_firstAlike_X8_between : GoodIn wsX8_firstAlike (wsV RX8 140 RX8 yX8_between wsX8_between) := goodIn_app (goodIn_of _ (by decide +kernel)) ggX8_firstAlike_X8_between
theorem dX8_firstAlike_0 : decode cX8_firstAlike 0 = .ok (.iconst 0, 1) := by decide +kernel
theorem dX8_firstAlike_1 : decode cX8_firstAlike 1 = .ok (.istore_n 2, 1) := by decide +kernel
theorem dX8_firstAlike_2 : decode cX8_firstAlike 2 = .ok (.aload_n 0, 1) := by decide +kernel
theorem dX8_firstAlike_3 : decode cX8_firstAlike 3 = .ok (.iload_n 1, 1) := by decide +kernel
theorem dX8_firstAlike_4 : decode cX8_firstAlike 4 = .ok (.iload_n 2, 1) := by decide +kernel
theorem dX8_firstAlike_5 : decode cX8_firstAlike 5 = .ok (.invokevirtual 140, 3) := by decide +kernel
theorem dX8_firstAlike_8 : decode cX8_firstAlike 8 = .ok (.iconst (-1), 1) := by decide +kernel
theorem dX8_firstAlike_9 : decode cX8_firstAlike 9 = .ok (.if_icmp .eq 9, 3) := by decide +kernel
theorem dX8_firstAlike_12 : decode cX8_firstAlike 12 = .ok (.iinc 2 1, 3) := by decide +kernel
theorem dX8_firstAlike_15 : decode cX8_firstAlike 15 = .ok (.goto (-13), 3) := by decide +kernel
theorem dX8_firstAlike_18 : decode cX8_firstAlike 18 = .ok (.iload_n 2, 1) := by decide +kernel
theorem dX8_firstAlike_19 : decode cX8_firstAlike 19 = .ok (.ireturn, 1) := by decide +kernel
set_option maxRecDepth 20000 in
theorem ggX8_alike_X8_isFault : GoodIn wsX8_alike wsX8_isFault := goodIn_r _ [6, 7, 8, 9, 5, 10, 11, 12, 13, 14, 15, 16, 17, 18, 19, 20, 21, 22, 23, 24, 25, 26, 27, 1, 98, 99, 100, 101, 102, 103, 104, 105, 106, 107, 108, 109, 110, 111, 112, 113, 114, 115, 116, 117, 118, 119, 120] (by decide +kernel) (by decide +kernel)
set_option maxRecDepth 20000 in
theorem gX8_alike_X8_isFault : GoodIn wsX8_alike (wsV RX8 298 RX8 yX8_isFault wsX8_isFault) := goodIn_app (goodIn_of _ (by decide +kernel)) ggX8_alike_X8_isFault
set_option maxRecDepth 20000 in
theorem ggX8_alike_X8_lays : GoodIn wsX8_alike wsX8_lays := goodIn_r _ [31, 32, 33, 34, 35, 36, 37, 5, 38, 39, 40, 41, 42, 15, 16, 17, 18, 19, 20, 43, 44, 45, 46, 47, 48, 49, 50, 51, 11, 12, 13, 14, 52, 53, 54, 55, 56, 57, 58, 59, 60, 61, 62, 63, 64, 65, 66, 67, 68, 69, 70, 71, 72, 73, 74, 75, 76, 77, 78, 79, 80, 81, 82, 83, 84, 85, 7, 8, 9, 10, 86, 87, 88, 89, 98, 99, 100, 101, 102, 103, 104, 105, 106, 107, 108, 109, 110, 111, 112, 113, 114, 115, 116, 117, 118, 119, 120] (by decide +kernel) (by decide +kernel)
set_option maxRecDepth 20000 in
theorem gX8_alike_X8_lays : GoodIn wsX8_alike (wsV RX8 304 RX8 yX8_lays wsX8_lays) := goodIn_app (goodIn_of _ (by decide +kernel)) ggX8_alike_X8_lays
set_option maxRecDepth 20000 in
theorem ggX8_alike_X8_firstAlike : GoodIn wsX8_alike wsX8_firstAlike := goodIn_r _ [93, 94, 95, 96, 5, 97, 32, 35, 36, 37, 38, 39, 40, 41, 42, 15, 16, 17, 18, 19, 20, 98, 99, 100, 101, 102, 103, 104, 105, 106, 107, 108, 109, 110, 111, 112, 113, 114, 115, 116, 117, 118, 119, 120] (by decide +kernel) (by decide +kernel)
set_option maxRecDepth 20000 in
theorem gX8_alike_X8_firstAlike : GoodIn wsX8_alike (wsV RX8 313 RX8 yX8_firstAlike wsX8_firstAlike) := goodIn_app (goodIn_of _ (by decide +kernel)) ggX8_alike_X8_firstAlike
theorem dX8_alike_0 : decode cX8_alike 0 = .ok (.aload_n 0, 1) := by decide +kernel
theorem dX8_alike_1 : decode cX8_alike 1 = .ok (.iconst 0, 1) := by decide +kernel
theorem dX8_alike_2 : decode cX8_alike 2 = .ok (.putfield 61, 3) := by decide +kernel
theorem dX8_alike_5 : decode cX8_alike 5 = .ok (.aload_n 0, 1) := by decide +kernel
theorem dX8_alike_6 : decode cX8_alike 6 = .ok (.iload_n 1, 1) := by decide +kernel
theorem dX8_alike_7 : decode cX8_alike 7 = .ok (.invokevirtual 298, 3) := by decide +kernel
theorem dX8_alike_10 : decode cX8_alike 10 = .ok (.ifCond .ne 5, 3) := by decide +kernel
theorem dX8_alike_13 : decode cX8_alike 13 = .ok (.iconst 0, 1) := by decide +kernel
theorem dX8_alike_14 : decode cX8_alike 14 = .ok (.ireturn, 1) := by decide +kernel
theorem dX8_alike_15 : decode cX8_alike 15 = .ok (.aload_n 0, 1) := by decide +kernel
theorem dX8_alike_16 : decode cX8_alike 16 = .ok (.invokevirtual 304, 3) := by decide +kernel
theorem dX8_alike_19 : decode cX8_alike 19 = .ok (.aload_n 0, 1) := by decide +kernel
theorem dX8_alike_20 : decode cX8_alike 20 = .ok (.iload_n 1, 1) := by decide +kernel
theorem dX8_alike_21 : decode cX8_alike 21 = .ok (.invokevirtual 313, 3) := by decide +kernel
theorem dX8_alike_24 : decode cX8_alike 24 = .ok (.ireturn, 1) := by decide +kernel
set_option maxRecDepth 20000 in
theorem ggX8_classes_X8_lays : GoodIn wsX8_classes wsX8_lays := goodIn_r _ [6, 7, 8, 9, 10, 11, 12, 5, 13, 14, 15, 16, 17, 18, 19, 20, 21, 22, 23, 24, 25, 26, 27, 28, 29, 30, 31, 32, 33, 34, 35, 36, 37, 38, 39, 40, 41, 42, 43, 44, 45, 46, 47, 48, 49, 50, 51, 52, 53, 54, 55, 56, 57, 58, 59, 60, 61, 62, 63, 64, 65, 66, 67, 68, 69, 70, 71, 72, 73, 74, 75, 76, 77, 78, 87, 88, 89, 90, 91, 92, 93, 94, 95, 96, 97, 98, 99, 100, 101, 102, 103, 104, 105, 106, 107, 108, 109] (by decide +kernel) (by decide +kernel)
set_option maxRecDepth 20000 in
theorem gX8_classes_X8_lays : GoodIn wsX8_classes (wsV RX8 304 RX8 yX8_lays wsX8_lays) := goodIn_app (goodIn_of _ (by decide +kernel)) ggX8_classes_X8_lays
set_option maxRecDepth 20000 in
theorem ggX8_classes_X8_faults : GoodIn wsX8_classes wsX8_faults := goodIn_r _ [74, 33, 34, 35, 5, 36, 18, 19, 20, 21, 22, 23, 87, 88, 89, 90, 91, 92, 93, 94, 95, 96, 97, 98, 99, 100, 101, 102, 103, 104, 105, 106, 107, 108, 109] (by decide +kernel) (by decide +kernel)
set_option maxRecDepth 20000 in
theorem gX8_classes_X8_faults : GoodIn wsX8_classes (wsV RX8 118 RX8 yX8_faults wsX8_faults) := goodIn_app (goodIn_of _ (by decide +kernel)) ggX8_classes_X8_faults
set_option maxRecDepth 20000 in
theorem ggX8_classes_X8_firstAlike : GoodIn wsX8_classes wsX8_firstAlike := goodIn_r _ [82, 83, 84, 85, 5, 86, 7, 10, 11, 12, 13, 14, 15, 16, 17, 18, 19, 20, 21, 22, 23, 87, 88, 89, 90, 91, 92, 93, 94, 95, 96, 97, 98, 99, 100, 101, 102, 103, 104, 105, 106, 107, 108, 109] (by decide +kernel) (by decide +kernel)
set_option maxRecDepth 20000 in
theorem gX8_classes_X8_firstAlike : GoodIn wsX8_classes (wsV RX8 313 RX8 yX8_firstAlike wsX8_firstAlike) := goodIn_app (goodIn_of _ (by decide +kernel)) ggX8_classes_X8_firstAlike
theorem dX8_classes_0 : decode cX8_classes 0 = .ok (.aload_n 0, 1) := by decide +kernel
theorem dX8_classes_1 : decode cX8_classes 1 = .ok (.iconst 0, 1) := by decide +kernel
theorem dX8_classes_2 : decode cX8_classes 2 = .ok (.putfield 61, 3) := by decide +kernel
theorem dX8_classes_5 : decode cX8_classes 5 = .ok (.aload_n 0, 1) := by decide +kernel
theorem dX8_classes_6 : decode cX8_classes 6 = .ok (.invokevirtual 304, 3) := by decide +kernel
theorem dX8_classes_9 : decode cX8_classes 9 = .ok (.iconst 0, 1) := by decide +kernel
theorem dX8_classes_10 : decode cX8_classes 10 = .ok (.istore_n 1, 1) := by decide +kernel
theorem dX8_classes_11 : decode cX8_classes 11 = .ok (.iconst 0, 1) := by decide +kernel
theorem dX8_classes_12 : decode cX8_classes 12 = .ok (.istore_n 2, 1) := by decide +kernel
theorem dX8_classes_13 : decode cX8_classes 13 = .ok (.iload_n 2, 1) := by decide +kernel
theorem dX8_classes_14 : decode cX8_classes 14 = .ok (.aload_n 0, 1) := by decide +kernel
theorem dX8_classes_15 : decode cX8_classes 15 = .ok (.invokevirtual 118, 3) := by decide +kernel
theorem dX8_classes_18 : decode cX8_classes 18 = .ok (.if_icmp .ge 26, 3) := by decide +kernel
theorem dX8_classes_21 : decode cX8_classes 21 = .ok (.iload_n 1, 1) := by decide +kernel
theorem dX8_classes_22 : decode cX8_classes 22 = .ok (.aload_n 0, 1) := by decide +kernel
theorem dX8_classes_23 : decode cX8_classes 23 = .ok (.iload_n 2, 1) := by decide +kernel
theorem dX8_classes_24 : decode cX8_classes 24 = .ok (.invokevirtual 313, 3) := by decide +kernel
theorem dX8_classes_27 : decode cX8_classes 27 = .ok (.iload_n 2, 1) := by decide +kernel
theorem dX8_classes_28 : decode cX8_classes 28 = .ok (.if_icmp .ne 7, 3) := by decide +kernel
theorem dX8_classes_31 : decode cX8_classes 31 = .ok (.iconst 1, 1) := by decide +kernel
theorem dX8_classes_32 : decode cX8_classes 32 = .ok (.goto 4, 3) := by decide +kernel
theorem dX8_classes_35 : decode cX8_classes 35 = .ok (.iconst 0, 1) := by decide +kernel
theorem dX8_classes_36 : decode cX8_classes 36 = .ok (.iadd, 1) := by decide +kernel
theorem dX8_classes_37 : decode cX8_classes 37 = .ok (.istore_n 1, 1) := by decide +kernel
theorem dX8_classes_38 : decode cX8_classes 38 = .ok (.iinc 2 1, 3) := by decide +kernel
theorem dX8_classes_41 : decode cX8_classes 41 = .ok (.goto (-28), 3) := by decide +kernel
theorem dX8_classes_44 : decode cX8_classes 44 = .ok (.iload_n 1, 1) := by decide +kernel
theorem dX8_classes_45 : decode cX8_classes 45 = .ok (.ireturn, 1) := by decide +kernel
set_option maxRecDepth 20000 in
theorem ggX8_coverage_X8_faults : GoodIn wsX8_coverage wsX8_faults := goodIn_r _ [6, 7, 8, 9, 5, 10, 11, 12, 13, 14, 15, 16, 112, 113, 114, 115, 116, 117, 118, 119, 120, 121, 122, 123, 124, 125, 126, 127, 128, 129, 130, 131, 132, 133, 134] (by decide +kernel) (by decide +kernel)
set_option maxRecDepth 20000 in
theorem gX8_coverage_X8_faults : GoodIn wsX8_coverage (wsV RX8 118 RX8 yX8_faults wsX8_faults) := goodIn_app (goodIn_of _ (by decide +kernel)) ggX8_coverage_X8_faults
set_option maxRecDepth 20000 in
theorem ggX8_coverage_X8_hiddenMany : GoodIn wsX8_coverage wsX8_hiddenMany := goodIn_r _ [20, 21, 22, 23, 5, 24, 25, 26, 27, 28, 29, 30, 31, 32, 33, 34, 35, 11, 12, 13, 14, 15, 16, 36, 37, 38, 39, 40, 41, 42, 43, 44, 7, 8, 9, 10, 45, 46, 47, 48, 49, 50, 51, 52, 53, 54, 55, 56, 57, 58, 59, 60, 61, 62, 63, 64, 65, 66, 67, 68, 69, 70, 71, 72, 73, 74, 75, 76, 77, 78, 2, 3, 4, 6, 79, 80, 81, 82, 83, 84, 85, 86, 87, 88, 89, 90, 112, 113, 114, 115, 116, 117, 118, 119, 120, 121, 122, 123, 124, 125, 126, 127, 128, 129, 130, 131, 132, 133, 134] (by decide +kernel) (by decide +kernel)
set_option maxRecDepth 20000 in
theorem gX8_coverage_X8_hiddenMany : GoodIn wsX8_coverage (wsV RX8 310 RX8 yX8_hiddenMany wsX8_hiddenMany) := goodIn_app (goodIn_of _ (by decide +kernel)) ggX8_coverage_X8_hiddenMany
set_option maxRecDepth 20000 in
theorem ggX8_coverage_X8_foundMany : GoodIn wsX8_coverage wsX8_foundMany := goodIn_r _ [94, 95, 96, 97, 98, 5, 99, 2, 3, 4, 6, 7, 8, 9, 10, 11, 12, 13, 14, 15, 16, 100, 101, 102, 103, 104, 105, 106, 107, 40, 32, 33, 34, 35, 41, 42, 43, 44, 26, 45, 46, 47, 48, 49, 50, 51, 52, 53, 54, 55, 56, 57, 58, 59, 60, 61, 62, 63, 64, 65, 66, 108, 109, 110, 111, 27, 79, 80, 81, 82, 71, 72, 73, 74, 75, 76, 77, 78, 112, 113, 114, 115, 116, 117, 118, 119, 120, 121, 122, 123, 124, 125, 126, 127, 128, 129, 130, 131, 132, 133, 134] (by decide +kernel) (by decide +kernel)
set_option maxRecDepth 20000 in
theorem gX8_coverage_X8_foundMany : GoodIn wsX8_coverage (wsV RX8 274 RX8 yX8_foundMany wsX8_foundMany) := goodIn_app (goodIn_of _ (by decide +kernel)) ggX8_coverage_X8_foundMany
theorem dX8_coverage_0 : decode cX8_coverage 0 = .ok (.aload_n 0, 1) := by decide +kernel
theorem dX8_coverage_1 : decode cX8_coverage 1 = .ok (.iconst 0, 1) := by decide +kernel
theorem dX8_coverage_2 : decode cX8_coverage 2 = .ok (.putfield 61, 3) := by decide +kernel
theorem dX8_coverage_5 : decode cX8_coverage 5 = .ok (.aload_n 0, 1) := by decide +kernel
theorem dX8_coverage_6 : decode cX8_coverage 6 = .ok (.invokevirtual 118, 3) := by decide +kernel
theorem dX8_coverage_9 : decode cX8_coverage 9 = .ok (.aload_n 0, 1) := by decide +kernel
theorem dX8_coverage_10 : decode cX8_coverage 10 = .ok (.invokevirtual 310, 3) := by decide +kernel
theorem dX8_coverage_13 : decode cX8_coverage 13 = .ok (.isub, 1) := by decide +kernel
theorem dX8_coverage_14 : decode cX8_coverage 14 = .ok (.istore_n 1, 1) := by decide +kernel
theorem dX8_coverage_15 : decode cX8_coverage 15 = .ok (.iload_n 1, 1) := by decide +kernel
theorem dX8_coverage_16 : decode cX8_coverage 16 = .ok (.ifCond .ne 7, 3) := by decide +kernel
theorem dX8_coverage_19 : decode cX8_coverage 19 = .ok (.dconst 1, 1) := by decide +kernel
theorem dX8_coverage_20 : decode cX8_coverage 20 = .ok (.goto 11, 3) := by decide +kernel
theorem dX8_coverage_23 : decode cX8_coverage 23 = .ok (.aload_n 0, 1) := by decide +kernel
theorem dX8_coverage_24 : decode cX8_coverage 24 = .ok (.invokevirtual 274, 3) := by decide +kernel
theorem dX8_coverage_27 : decode cX8_coverage 27 = .ok (.i2d, 1) := by decide +kernel
theorem dX8_coverage_28 : decode cX8_coverage 28 = .ok (.iload_n 1, 1) := by decide +kernel
theorem dX8_coverage_29 : decode cX8_coverage 29 = .ok (.i2d, 1) := by decide +kernel
theorem dX8_coverage_30 : decode cX8_coverage 30 = .ok (.ddiv, 1) := by decide +kernel
theorem dX8_coverage_31 : decode cX8_coverage 31 = .ok (.dreturn, 1) := by decide +kernel
theorem dX8_bitsOf_0 : decode cX8_bitsOf 0 = .ok (.iconst 0, 1) := by decide +kernel
theorem dX8_bitsOf_1 : decode cX8_bitsOf 1 = .ok (.istore_n 1, 1) := by decide +kernel
theorem dX8_bitsOf_2 : decode cX8_bitsOf 2 = .ok (.iload_n 0, 1) := by decide +kernel
theorem dX8_bitsOf_3 : decode cX8_bitsOf 3 = .ok (.istore_n 2, 1) := by decide +kernel
theorem dX8_bitsOf_4 : decode cX8_bitsOf 4 = .ok (.iload_n 2, 1) := by decide +kernel
theorem dX8_bitsOf_5 : decode cX8_bitsOf 5 = .ok (.ifCond .eq 15, 3) := by decide +kernel
theorem dX8_bitsOf_8 : decode cX8_bitsOf 8 = .ok (.iinc 1 1, 3) := by decide +kernel
theorem dX8_bitsOf_11 : decode cX8_bitsOf 11 = .ok (.iload_n 2, 1) := by decide +kernel
theorem dX8_bitsOf_12 : decode cX8_bitsOf 12 = .ok (.iload_n 2, 1) := by decide +kernel
theorem dX8_bitsOf_13 : decode cX8_bitsOf 13 = .ok (.iconst 1, 1) := by decide +kernel
theorem dX8_bitsOf_14 : decode cX8_bitsOf 14 = .ok (.isub, 1) := by decide +kernel
theorem dX8_bitsOf_15 : decode cX8_bitsOf 15 = .ok (.iand, 1) := by decide +kernel
theorem dX8_bitsOf_16 : decode cX8_bitsOf 16 = .ok (.istore_n 2, 1) := by decide +kernel
theorem dX8_bitsOf_17 : decode cX8_bitsOf 17 = .ok (.goto (-13), 3) := by decide +kernel
theorem dX8_bitsOf_20 : decode cX8_bitsOf 20 = .ok (.iload_n 1, 1) := by decide +kernel
theorem dX8_bitsOf_21 : decode cX8_bitsOf 21 = .ok (.ireturn, 1) := by decide +kernel
set_option maxRecDepth 20000 in
theorem ggX8_findsAll_X8_faults : GoodIn wsX8_findsAll wsX8_faults := goodIn_r _ [6, 7, 8, 9, 5, 10, 11, 12, 13, 14, 15, 16, 17, 18, 19, 20, 21, 22, 23, 24, 25, 26, 27, 28, 29, 30, 31, 32, 33, 34, 35, 36, 37, 38, 39] (by decide +kernel) (by decide +kernel)
set_option maxRecDepth 20000 in
theorem gX8_findsAll_X8_faults : GoodIn wsX8_findsAll (wsV RX8 118 RX8 yX8_faults wsX8_faults) := goodIn_app (goodIn_of _ (by decide +kernel)) ggX8_findsAll_X8_faults
theorem dX8_findsAll_0 : decode cX8_findsAll 0 = .ok (.iconst 0, 1) := by decide +kernel
theorem dX8_findsAll_1 : decode cX8_findsAll 1 = .ok (.istore_n 2, 1) := by decide +kernel
theorem dX8_findsAll_2 : decode cX8_findsAll 2 = .ok (.iload_n 2, 1) := by decide +kernel
theorem dX8_findsAll_3 : decode cX8_findsAll 3 = .ok (.aload_n 0, 1) := by decide +kernel
theorem dX8_findsAll_4 : decode cX8_findsAll 4 = .ok (.invokevirtual 118, 3) := by decide +kernel
theorem dX8_findsAll_7 : decode cX8_findsAll 7 = .ok (.if_icmp .ge 31, 3) := by decide +kernel
theorem dX8_findsAll_10 : decode cX8_findsAll 10 = .ok (.aload_n 0, 1) := by decide +kernel
theorem dX8_findsAll_11 : decode cX8_findsAll 11 = .ok (.getfield 28, 3) := by decide +kernel
theorem dX8_findsAll_14 : decode cX8_findsAll 14 = .ok (.iload_n 2, 1) := by decide +kernel
theorem dX8_findsAll_15 : decode cX8_findsAll 15 = .ok (.iaload, 1) := by decide +kernel
theorem dX8_findsAll_16 : decode cX8_findsAll 16 = .ok (.ifCond .eq 16, 3) := by decide +kernel
theorem dX8_findsAll_19 : decode cX8_findsAll 19 = .ok (.aload_n 0, 1) := by decide +kernel
theorem dX8_findsAll_20 : decode cX8_findsAll 20 = .ok (.getfield 28, 3) := by decide +kernel
theorem dX8_findsAll_23 : decode cX8_findsAll 23 = .ok (.iload_n 2, 1) := by decide +kernel
theorem dX8_findsAll_24 : decode cX8_findsAll 24 = .ok (.iaload, 1) := by decide +kernel
theorem dX8_findsAll_25 : decode cX8_findsAll 25 = .ok (.iload_n 1, 1) := by decide +kernel
theorem dX8_findsAll_26 : decode cX8_findsAll 26 = .ok (.iand, 1) := by decide +kernel
theorem dX8_findsAll_27 : decode cX8_findsAll 27 = .ok (.ifCond .ne 5, 3) := by decide +kernel
theorem dX8_findsAll_30 : decode cX8_findsAll 30 = .ok (.iconst 0, 1) := by decide +kernel
theorem dX8_findsAll_31 : decode cX8_findsAll 31 = .ok (.ireturn, 1) := by decide +kernel
theorem dX8_findsAll_32 : decode cX8_findsAll 32 = .ok (.iinc 2 1, 3) := by decide +kernel
theorem dX8_findsAll_35 : decode cX8_findsAll 35 = .ok (.goto (-33), 3) := by decide +kernel
theorem dX8_findsAll_38 : decode cX8_findsAll 38 = .ok (.iconst 1, 1) := by decide +kernel
theorem dX8_findsAll_39 : decode cX8_findsAll 39 = .ok (.ireturn, 1) := by decide +kernel
set_option maxRecDepth 20000 in
theorem ggX8_leastSet_X8_finders : GoodIn wsX8_leastSet wsX8_finders := goodIn_r _ [6, 7, 8, 9, 10, 5, 11, 12, 13, 14, 15, 16, 17, 18, 19, 20, 21, 22, 23, 24, 25, 26, 27, 28, 29, 30, 31, 32, 33, 34, 35, 36, 37, 38, 39, 40, 41, 42, 43, 44, 45, 46, 47, 48, 49, 50, 51, 52, 53, 54, 55, 56, 57, 58, 59, 60, 61, 62, 63, 64, 65, 66, 67, 68, 69, 70, 71, 72, 73, 74, 75, 76, 77, 78, 86, 87, 88, 89, 90, 91, 92, 93, 94, 95, 96, 97, 98, 99, 100, 101, 102, 103, 104, 105, 106, 107, 108] (by decide +kernel) (by decide +kernel)
set_option maxRecDepth 20000 in
theorem gX8_leastSet_X8_finders : GoodIn wsX8_leastSet (wsV RX8 127 RX8 yX8_finders wsX8_finders) := goodIn_app (goodIn_of _ (by decide +kernel)) ggX8_leastSet_X8_finders
set_option maxRecDepth 20000 in
theorem ggX8_leastSet_X8_tests : GoodIn wsX8_leastSet wsX8_tests := goodIn_r _ [25, 16, 17, 18, 5, 19, 20, 21, 86, 87, 88, 89, 90, 91, 92, 93, 94, 95, 96, 97, 98, 99, 100, 101, 102, 103, 104, 105, 106, 107, 108] (by decide +kernel) (by decide +kernel)
set_option maxRecDepth 20000 in
theorem gX8_leastSet_X8_tests : GoodIn wsX8_leastSet (wsV RX8 124 RX8 yX8_tests wsX8_tests) := goodIn_app (goodIn_of _ (by decide +kernel)) ggX8_leastSet_X8_tests
set_option maxRecDepth 20000 in
theorem ggX8_leastSet_X8_bitsOf : GoodIn wsX8_leastSet wsX8_bitsOf := goodIn_r _ [81] (by decide +kernel) (by decide +kernel)
set_option maxRecDepth 20000 in
theorem gX8_leastSet_X8_bitsOf : GoodIn wsX8_leastSet (va_wsS RX8 316 yX8_bitsOf wsX8_bitsOf) := goodIn_app (goodIn_of _ (by decide +kernel)) ggX8_leastSet_X8_bitsOf
set_option maxRecDepth 20000 in
theorem ggX8_leastSet_X8_findsAll : GoodIn wsX8_leastSet wsX8_findsAll := goodIn_r _ [85, 7, 8, 9, 10, 5, 11, 12, 13, 14, 15, 16, 17, 18, 19, 20, 21, 86, 87, 88, 89, 90, 91, 92, 93, 94, 95, 96, 97, 98, 99, 100, 101, 102, 103, 104, 105, 106, 107, 108] (by decide +kernel) (by decide +kernel)
set_option maxRecDepth 20000 in
theorem gX8_leastSet_X8_findsAll : GoodIn wsX8_leastSet (wsV RX8 319 RX8 yX8_findsAll wsX8_findsAll) := goodIn_app (goodIn_of _ (by decide +kernel)) ggX8_leastSet_X8_findsAll
theorem dX8_leastSet_0 : decode cX8_leastSet 0 = .ok (.aload_n 0, 1) := by decide +kernel
theorem dX8_leastSet_1 : decode cX8_leastSet 1 = .ok (.iconst 0, 1) := by decide +kernel
theorem dX8_leastSet_2 : decode cX8_leastSet 2 = .ok (.putfield 61, 3) := by decide +kernel
theorem dX8_leastSet_5 : decode cX8_leastSet 5 = .ok (.aload_n 0, 1) := by decide +kernel
theorem dX8_leastSet_6 : decode cX8_leastSet 6 = .ok (.invokevirtual 127, 3) := by decide +kernel
theorem dX8_leastSet_9 : decode cX8_leastSet 9 = .ok (.iconst 1, 1) := by decide +kernel
theorem dX8_leastSet_10 : decode cX8_leastSet 10 = .ok (.aload_n 0, 1) := by decide +kernel
theorem dX8_leastSet_11 : decode cX8_leastSet 11 = .ok (.invokevirtual 124, 3) := by decide +kernel
theorem dX8_leastSet_14 : decode cX8_leastSet 14 = .ok (.ishl, 1) := by decide +kernel
theorem dX8_leastSet_15 : decode cX8_leastSet 15 = .ok (.iconst 1, 1) := by decide +kernel
theorem dX8_leastSet_16 : decode cX8_leastSet 16 = .ok (.isub, 1) := by decide +kernel
theorem dX8_leastSet_17 : decode cX8_leastSet 17 = .ok (.istore_n 1, 1) := by decide +kernel
theorem dX8_leastSet_18 : decode cX8_leastSet 18 = .ok (.iconst 0, 1) := by decide +kernel
theorem dX8_leastSet_19 : decode cX8_leastSet 19 = .ok (.istore_n 2, 1) := by decide +kernel
theorem dX8_leastSet_20 : decode cX8_leastSet 20 = .ok (.iload_n 2, 1) := by decide +kernel
theorem dX8_leastSet_21 : decode cX8_leastSet 21 = .ok (.iconst 1, 1) := by decide +kernel
theorem dX8_leastSet_22 : decode cX8_leastSet 22 = .ok (.aload_n 0, 1) := by decide +kernel
theorem dX8_leastSet_23 : decode cX8_leastSet 23 = .ok (.invokevirtual 124, 3) := by decide +kernel
theorem dX8_leastSet_26 : decode cX8_leastSet 26 = .ok (.ishl, 1) := by decide +kernel
theorem dX8_leastSet_27 : decode cX8_leastSet 27 = .ok (.if_icmp .ge 30, 3) := by decide +kernel
theorem dX8_leastSet_30 : decode cX8_leastSet 30 = .ok (.iload_n 2, 1) := by decide +kernel
theorem dX8_leastSet_31 : decode cX8_leastSet 31 = .ok (.invokestatic 316, 3) := by decide +kernel
theorem dX8_leastSet_34 : decode cX8_leastSet 34 = .ok (.iload_n 1, 1) := by decide +kernel
theorem dX8_leastSet_35 : decode cX8_leastSet 35 = .ok (.invokestatic 316, 3) := by decide +kernel
theorem dX8_leastSet_38 : decode cX8_leastSet 38 = .ok (.if_icmp .ge 13, 3) := by decide +kernel
theorem dX8_leastSet_41 : decode cX8_leastSet 41 = .ok (.aload_n 0, 1) := by decide +kernel
theorem dX8_leastSet_42 : decode cX8_leastSet 42 = .ok (.iload_n 2, 1) := by decide +kernel
theorem dX8_leastSet_43 : decode cX8_leastSet 43 = .ok (.invokevirtual 319, 3) := by decide +kernel
theorem dX8_leastSet_46 : decode cX8_leastSet 46 = .ok (.ifCond .eq 5, 3) := by decide +kernel
theorem dX8_leastSet_49 : decode cX8_leastSet 49 = .ok (.iload_n 2, 1) := by decide +kernel
theorem dX8_leastSet_50 : decode cX8_leastSet 50 = .ok (.istore_n 1, 1) := by decide +kernel
theorem dX8_leastSet_51 : decode cX8_leastSet 51 = .ok (.iinc 2 1, 3) := by decide +kernel
theorem dX8_leastSet_54 : decode cX8_leastSet 54 = .ok (.goto (-34), 3) := by decide +kernel
theorem dX8_leastSet_57 : decode cX8_leastSet 57 = .ok (.iload_n 1, 1) := by decide +kernel
theorem dX8_leastSet_58 : decode cX8_leastSet 58 = .ok (.ireturn, 1) := by decide +kernel
set_option maxRecDepth 20000 in
theorem ggX8_seenAt_X8_get : GoodIn wsX8_seenAt wsX8_get := goodIn_r _ [5, 6, 7, 8, 9, 10, 11, 12, 13, 14, 15, 16, 17, 18, 19, 20, 21, 22, 23, 24, 25, 26, 27, 28, 29, 30] (by decide +kernel) (by decide +kernel)
set_option maxRecDepth 20000 in
theorem gX8_seenAt_X8_get : GoodIn wsX8_seenAt (wsV RX8 67 RX8 yX8_get wsX8_get) := goodIn_app (goodIn_of _ (by decide +kernel)) ggX8_seenAt_X8_get
theorem dX8_seenAt_0 : decode cX8_seenAt 0 = .ok (.aload_n 0, 1) := by decide +kernel
theorem dX8_seenAt_1 : decode cX8_seenAt 1 = .ok (.sipush 310, 3) := by decide +kernel
theorem dX8_seenAt_4 : decode cX8_seenAt 4 = .ok (.bipush 6, 2) := by decide +kernel
theorem dX8_seenAt_6 : decode cX8_seenAt 6 = .ok (.iload_n 1, 1) := by decide +kernel
theorem dX8_seenAt_7 : decode cX8_seenAt 7 = .ok (.imul, 1) := by decide +kernel
theorem dX8_seenAt_8 : decode cX8_seenAt 8 = .ok (.iadd, 1) := by decide +kernel
theorem dX8_seenAt_9 : decode cX8_seenAt 9 = .ok (.iload_n 2, 1) := by decide +kernel
theorem dX8_seenAt_10 : decode cX8_seenAt 10 = .ok (.iadd, 1) := by decide +kernel
theorem dX8_seenAt_11 : decode cX8_seenAt 11 = .ok (.invokevirtual 67, 3) := by decide +kernel
theorem dX8_seenAt_14 : decode cX8_seenAt 14 = .ok (.ireturn, 1) := by decide +kernel
set_option maxRecDepth 20000 in
theorem ggX8_seenMany_X8_tests : GoodIn wsX8_seenMany wsX8_tests := goodIn_r _ [5, 6, 7, 8, 4, 9, 10, 11, 20, 21, 22, 23, 24, 25, 26, 27, 28, 29, 30, 31, 32, 33, 34, 35, 36, 37, 38, 39, 40, 41, 42] (by decide +kernel) (by decide +kernel)
set_option maxRecDepth 20000 in
theorem gX8_seenMany_X8_tests : GoodIn wsX8_seenMany (wsV RX8 124 RX8 yX8_tests wsX8_tests) := goodIn_app (goodIn_of _ (by decide +kernel)) ggX8_seenMany_X8_tests
set_option maxRecDepth 20000 in
theorem ggX8_seenMany_X8_outputs : GoodIn wsX8_seenMany wsX8_outputs := goodIn_r _ [15, 6, 7, 8, 4, 9, 10, 11, 20, 21, 22, 23, 24, 25, 26, 27, 28, 29, 30, 31, 32, 33, 34, 35, 36, 37, 38, 39, 40, 41, 42] (by decide +kernel) (by decide +kernel)
set_option maxRecDepth 20000 in
theorem gX8_seenMany_X8_outputs : GoodIn wsX8_seenMany (wsV RX8 109 RX8 yX8_outputs wsX8_outputs) := goodIn_app (goodIn_of _ (by decide +kernel)) ggX8_seenMany_X8_outputs
set_option maxRecDepth 20000 in
theorem ggX8_seenMany_X8_seenAt : GoodIn wsX8_seenMany wsX8_seenAt := goodIn_r _ [19, 6, 7, 8, 4, 9, 10, 11, 20, 21, 22, 23, 24, 25, 26, 27, 28, 29, 30, 31, 32, 33, 34, 35, 36, 37, 38, 39, 40, 41, 42] (by decide +kernel) (by decide +kernel)
set_option maxRecDepth 20000 in
theorem gX8_seenMany_X8_seenAt : GoodIn wsX8_seenMany (wsV RX8 322 RX8 yX8_seenAt wsX8_seenAt) := goodIn_app (goodIn_of _ (by decide +kernel)) ggX8_seenMany_X8_seenAt
theorem dX8_seenMany_0 : decode cX8_seenMany 0 = .ok (.iconst 0, 1) := by decide +kernel
theorem dX8_seenMany_1 : decode cX8_seenMany 1 = .ok (.istore_n 1, 1) := by decide +kernel
theorem dX8_seenMany_2 : decode cX8_seenMany 2 = .ok (.iconst 0, 1) := by decide +kernel
theorem dX8_seenMany_3 : decode cX8_seenMany 3 = .ok (.istore_n 2, 1) := by decide +kernel
theorem dX8_seenMany_4 : decode cX8_seenMany 4 = .ok (.iload_n 2, 1) := by decide +kernel
theorem dX8_seenMany_5 : decode cX8_seenMany 5 = .ok (.aload_n 0, 1) := by decide +kernel
theorem dX8_seenMany_6 : decode cX8_seenMany 6 = .ok (.invokevirtual 124, 3) := by decide +kernel
theorem dX8_seenMany_9 : decode cX8_seenMany 9 = .ok (.if_icmp .ge 43, 3) := by decide +kernel
theorem dX8_seenMany_12 : decode cX8_seenMany 12 = .ok (.iconst 0, 1) := by decide +kernel
theorem dX8_seenMany_13 : decode cX8_seenMany 13 = .ok (.istore_n 3, 1) := by decide +kernel
theorem dX8_seenMany_14 : decode cX8_seenMany 14 = .ok (.iload_n 3, 1) := by decide +kernel
theorem dX8_seenMany_15 : decode cX8_seenMany 15 = .ok (.aload_n 0, 1) := by decide +kernel
theorem dX8_seenMany_16 : decode cX8_seenMany 16 = .ok (.invokevirtual 109, 3) := by decide +kernel
theorem dX8_seenMany_19 : decode cX8_seenMany 19 = .ok (.if_icmp .ge 27, 3) := by decide +kernel
theorem dX8_seenMany_22 : decode cX8_seenMany 22 = .ok (.iload_n 1, 1) := by decide +kernel
theorem dX8_seenMany_23 : decode cX8_seenMany 23 = .ok (.aload_n 0, 1) := by decide +kernel
theorem dX8_seenMany_24 : decode cX8_seenMany 24 = .ok (.iload_n 2, 1) := by decide +kernel
theorem dX8_seenMany_25 : decode cX8_seenMany 25 = .ok (.iload_n 3, 1) := by decide +kernel
theorem dX8_seenMany_26 : decode cX8_seenMany 26 = .ok (.invokevirtual 322, 3) := by decide +kernel
theorem dX8_seenMany_29 : decode cX8_seenMany 29 = .ok (.iconst 2, 1) := by decide +kernel
theorem dX8_seenMany_30 : decode cX8_seenMany 30 = .ok (.if_icmp .eq 7, 3) := by decide +kernel
theorem dX8_seenMany_33 : decode cX8_seenMany 33 = .ok (.iconst 1, 1) := by decide +kernel
theorem dX8_seenMany_34 : decode cX8_seenMany 34 = .ok (.goto 4, 3) := by decide +kernel
theorem dX8_seenMany_37 : decode cX8_seenMany 37 = .ok (.iconst 0, 1) := by decide +kernel
theorem dX8_seenMany_38 : decode cX8_seenMany 38 = .ok (.iadd, 1) := by decide +kernel
theorem dX8_seenMany_39 : decode cX8_seenMany 39 = .ok (.istore_n 1, 1) := by decide +kernel
theorem dX8_seenMany_40 : decode cX8_seenMany 40 = .ok (.iinc 3 1, 3) := by decide +kernel
theorem dX8_seenMany_43 : decode cX8_seenMany 43 = .ok (.goto (-29), 3) := by decide +kernel
theorem dX8_seenMany_46 : decode cX8_seenMany 46 = .ok (.iinc 2 1, 3) := by decide +kernel
theorem dX8_seenMany_49 : decode cX8_seenMany 49 = .ok (.goto (-45), 3) := by decide +kernel
theorem dX8_seenMany_52 : decode cX8_seenMany 52 = .ok (.iload_n 1, 1) := by decide +kernel
theorem dX8_seenMany_53 : decode cX8_seenMany 53 = .ok (.ireturn, 1) := by decide +kernel
set_option maxRecDepth 20000 in
theorem ggX8_isFit_X8_outputs : GoodIn wsX8_isFit wsX8_outputs := goodIn_r _ [6, 7, 8, 9, 5, 10, 11, 12, 21, 22, 23, 24, 25, 26, 27, 28, 29, 30, 31, 32, 33, 34, 35, 36, 37, 38, 39, 40, 41, 42, 43] (by decide +kernel) (by decide +kernel)
set_option maxRecDepth 20000 in
theorem gX8_isFit_X8_outputs : GoodIn wsX8_isFit (wsV RX8 109 RX8 yX8_outputs wsX8_outputs) := goodIn_app (goodIn_of _ (by decide +kernel)) ggX8_isFit_X8_outputs
set_option maxRecDepth 20000 in
theorem ggX8_isFit_X8_atOutput : GoodIn wsX8_isFit wsX8_atOutput := goodIn_r _ [16, 7, 8, 9, 5, 10, 11, 12, 21, 22, 23, 24, 25, 26, 27, 28, 29, 30, 31, 32, 33, 34, 35, 36, 37, 38, 39, 40, 41, 42, 43] (by decide +kernel) (by decide +kernel)
set_option maxRecDepth 20000 in
theorem gX8_isFit_X8_atOutput : GoodIn wsX8_isFit (wsV RX8 112 RX8 yX8_atOutput wsX8_atOutput) := goodIn_app (goodIn_of _ (by decide +kernel)) ggX8_isFit_X8_atOutput
set_option maxRecDepth 20000 in
theorem ggX8_isFit_X8_seenAt : GoodIn wsX8_isFit wsX8_seenAt := goodIn_r _ [20, 7, 8, 9, 5, 10, 11, 12, 21, 22, 23, 24, 25, 26, 27, 28, 29, 30, 31, 32, 33, 34, 35, 36, 37, 38, 39, 40, 41, 42, 43] (by decide +kernel) (by decide +kernel)
set_option maxRecDepth 20000 in
theorem gX8_isFit_X8_seenAt : GoodIn wsX8_isFit (wsV RX8 322 RX8 yX8_seenAt wsX8_seenAt) := goodIn_app (goodIn_of _ (by decide +kernel)) ggX8_isFit_X8_seenAt
theorem dX8_isFit_0 : decode cX8_isFit 0 = .ok (.iconst 0, 1) := by decide +kernel
theorem dX8_isFit_1 : decode cX8_isFit 1 = .ok (.istore_n 2, 1) := by decide +kernel
theorem dX8_isFit_2 : decode cX8_isFit 2 = .ok (.iload_n 2, 1) := by decide +kernel
theorem dX8_isFit_3 : decode cX8_isFit 3 = .ok (.aload_n 0, 1) := by decide +kernel
theorem dX8_isFit_4 : decode cX8_isFit 4 = .ok (.invokevirtual 109, 3) := by decide +kernel
theorem dX8_isFit_7 : decode cX8_isFit 7 = .ok (.if_icmp .ge 46, 3) := by decide +kernel
theorem dX8_isFit_10 : decode cX8_isFit 10 = .ok (.aload_n 0, 1) := by decide +kernel
theorem dX8_isFit_11 : decode cX8_isFit 11 = .ok (.iload_n 2, 1) := by decide +kernel
theorem dX8_isFit_12 : decode cX8_isFit 12 = .ok (.aload_n 0, 1) := by decide +kernel
theorem dX8_isFit_13 : decode cX8_isFit 13 = .ok (.getfield 25, 3) := by decide +kernel
theorem dX8_isFit_16 : decode cX8_isFit 16 = .ok (.invokevirtual 112, 3) := by decide +kernel
theorem dX8_isFit_19 : decode cX8_isFit 19 = .ok (.istore_n 3, 1) := by decide +kernel
theorem dX8_isFit_20 : decode cX8_isFit 20 = .ok (.aload_n 0, 1) := by decide +kernel
theorem dX8_isFit_21 : decode cX8_isFit 21 = .ok (.iload_n 1, 1) := by decide +kernel
theorem dX8_isFit_22 : decode cX8_isFit 22 = .ok (.iload_n 2, 1) := by decide +kernel
theorem dX8_isFit_23 : decode cX8_isFit 23 = .ok (.invokevirtual 322, 3) := by decide +kernel
theorem dX8_isFit_26 : decode cX8_isFit 26 = .ok (.iconst 2, 1) := by decide +kernel
theorem dX8_isFit_27 : decode cX8_isFit 27 = .ok (.if_icmp .eq 20, 3) := by decide +kernel
theorem dX8_isFit_30 : decode cX8_isFit 30 = .ok (.iload_n 3, 1) := by decide +kernel
theorem dX8_isFit_31 : decode cX8_isFit 31 = .ok (.iconst 2, 1) := by decide +kernel
theorem dX8_isFit_32 : decode cX8_isFit 32 = .ok (.if_icmp .eq 15, 3) := by decide +kernel
theorem dX8_isFit_35 : decode cX8_isFit 35 = .ok (.iload_n 3, 1) := by decide +kernel
theorem dX8_isFit_36 : decode cX8_isFit 36 = .ok (.aload_n 0, 1) := by decide +kernel
theorem dX8_isFit_37 : decode cX8_isFit 37 = .ok (.iload_n 1, 1) := by decide +kernel
theorem dX8_isFit_38 : decode cX8_isFit 38 = .ok (.iload_n 2, 1) := by decide +kernel
theorem dX8_isFit_39 : decode cX8_isFit 39 = .ok (.invokevirtual 322, 3) := by decide +kernel
theorem dX8_isFit_42 : decode cX8_isFit 42 = .ok (.if_icmp .eq 5, 3) := by decide +kernel
theorem dX8_isFit_45 : decode cX8_isFit 45 = .ok (.iconst 0, 1) := by decide +kernel
theorem dX8_isFit_46 : decode cX8_isFit 46 = .ok (.ireturn, 1) := by decide +kernel
theorem dX8_isFit_47 : decode cX8_isFit 47 = .ok (.iinc 2 1, 3) := by decide +kernel
theorem dX8_isFit_50 : decode cX8_isFit 50 = .ok (.goto (-48), 3) := by decide +kernel
theorem dX8_isFit_53 : decode cX8_isFit 53 = .ok (.iconst 1, 1) := by decide +kernel
theorem dX8_isFit_54 : decode cX8_isFit 54 = .ok (.ireturn, 1) := by decide +kernel
theorem dX8_faultAtIndex_0 : decode cX8_faultAtIndex 0 = .ok (.iload_n 1, 1) := by decide +kernel
theorem dX8_faultAtIndex_1 : decode cX8_faultAtIndex 1 = .ok (.bipush 56, 2) := by decide +kernel
theorem dX8_faultAtIndex_3 : decode cX8_faultAtIndex 3 = .ok (.if_icmp .ne 7, 3) := by decide +kernel
theorem dX8_faultAtIndex_6 : decode cX8_faultAtIndex 6 = .ok (.iconst (-1), 1) := by decide +kernel
theorem dX8_faultAtIndex_7 : decode cX8_faultAtIndex 7 = .ok (.goto 4, 3) := by decide +kernel
theorem dX8_faultAtIndex_10 : decode cX8_faultAtIndex 10 = .ok (.iload_n 1, 1) := by decide +kernel
theorem dX8_faultAtIndex_11 : decode cX8_faultAtIndex 11 = .ok (.ireturn, 1) := by decide +kernel
set_option maxRecDepth 20000 in
theorem ggX8_fitting_X8_faults : GoodIn wsX8_fitting wsX8_faults := goodIn_r _ [6, 7, 8, 9, 5, 10, 11, 12, 13, 14, 15, 16, 82, 83, 84, 85, 86, 87, 88, 89, 90, 91, 92, 93, 94, 95, 96, 97, 98, 99, 100, 101, 102, 103, 104] (by decide +kernel) (by decide +kernel)
set_option maxRecDepth 20000 in
theorem gX8_fitting_X8_faults : GoodIn wsX8_fitting (wsV RX8 118 RX8 yX8_faults wsX8_faults) := goodIn_app (goodIn_of _ (by decide +kernel)) ggX8_fitting_X8_faults
set_option maxRecDepth 20000 in
theorem ggX8_fitting_X8_tests : GoodIn wsX8_fitting wsX8_tests := goodIn_r _ [20, 11, 12, 13, 5, 14, 15, 16, 82, 83, 84, 85, 86, 87, 88, 89, 90, 91, 92, 93, 94, 95, 96, 97, 98, 99, 100, 101, 102, 103, 104] (by decide +kernel) (by decide +kernel)
set_option maxRecDepth 20000 in
theorem gX8_fitting_X8_tests : GoodIn wsX8_fitting (wsV RX8 124 RX8 yX8_tests wsX8_tests) := goodIn_app (goodIn_of _ (by decide +kernel)) ggX8_fitting_X8_tests
set_option maxRecDepth 20000 in
theorem ggX8_fitting_X8_asksTest : GoodIn wsX8_fitting wsX8_asksTest := goodIn_r _ [24, 25, 26, 27, 28, 5, 29, 11, 12, 13, 14, 15, 16, 30, 31, 32, 33, 34, 7, 8, 9, 10, 35, 36, 37, 38, 39, 40, 41, 42, 43, 44, 45, 46, 47, 48, 49, 50, 51, 52, 53, 54, 55, 56, 82, 83, 84, 85, 86, 87, 88, 89, 90, 91, 92, 93, 94, 95, 96, 97, 98, 99, 100, 101, 102, 103, 104] (by decide +kernel) (by decide +kernel)
set_option maxRecDepth 20000 in
theorem gX8_fitting_X8_asksTest : GoodIn wsX8_fitting (wsV RX8 115 RX8 yX8_asksTest wsX8_asksTest) := goodIn_app (goodIn_of _ (by decide +kernel)) ggX8_fitting_X8_asksTest
set_option maxRecDepth 20000 in
theorem ggX8_fitting_X8_faultAtIndex : GoodIn wsX8_fitting wsX8_faultAtIndex := goodIn_r _ [60] (by decide +kernel) (by decide +kernel)
set_option maxRecDepth 20000 in
theorem gX8_fitting_X8_faultAtIndex : GoodIn wsX8_fitting (wsV RX8 325 RX8 yX8_faultAtIndex wsX8_faultAtIndex) := goodIn_app (goodIn_of _ (by decide +kernel)) ggX8_fitting_X8_faultAtIndex
set_option maxRecDepth 20000 in
theorem ggX8_fitting_X8_bends : GoodIn wsX8_fitting wsX8_bends := goodIn_r _ [64, 34, 65, 25, 7, 8, 9, 5, 10, 11, 12, 13, 14, 15, 16, 54, 55, 56, 26, 27, 28, 29, 35, 36, 37, 38, 39, 40, 41, 42, 43, 44, 45, 46, 47, 48, 49, 50, 51, 52, 53, 82, 83, 84, 85, 86, 87, 88, 89, 90, 91, 92, 93, 94, 95, 96, 97, 98, 99, 100, 101, 102, 103, 104] (by decide +kernel) (by decide +kernel)
set_option maxRecDepth 20000 in
theorem gX8_fitting_X8_bends : GoodIn wsX8_fitting (wsV RX8 105 RX8 yX8_bends wsX8_bends) := goodIn_app (goodIn_of _ (by decide +kernel)) ggX8_fitting_X8_bends
set_option maxRecDepth 20000 in
theorem ggX8_fitting_X8_isFit : GoodIn wsX8_fitting wsX8_isFit := goodIn_r _ [69, 65, 70, 71, 72, 5, 73, 11, 12, 13, 14, 15, 16, 74, 75, 76, 77, 78, 79, 80, 81, 82, 83, 84, 85, 86, 87, 88, 89, 90, 91, 92, 93, 94, 95, 96, 97, 98, 99, 100, 101, 102, 103, 104] (by decide +kernel) (by decide +kernel)
set_option maxRecDepth 20000 in
theorem gX8_fitting_X8_isFit : GoodIn wsX8_fitting (wsV RX8 328 RX8 yX8_isFit wsX8_isFit) := goodIn_app (goodIn_of _ (by decide +kernel)) ggX8_fitting_X8_isFit
theorem dX8_fitting_0 : decode cX8_fitting 0 = .ok (.iconst 0, 1) := by decide +kernel
theorem dX8_fitting_1 : decode cX8_fitting 1 = .ok (.istore_n 1, 1) := by decide +kernel
theorem dX8_fitting_2 : decode cX8_fitting 2 = .ok (.iload_n 1, 1) := by decide +kernel
theorem dX8_fitting_3 : decode cX8_fitting 3 = .ok (.bipush 57, 2) := by decide +kernel
theorem dX8_fitting_5 : decode cX8_fitting 5 = .ok (.if_icmp .ge 34, 3) := by decide +kernel
theorem dX8_fitting_8 : decode cX8_fitting 8 = .ok (.aload_n 0, 1) := by decide +kernel
theorem dX8_fitting_9 : decode cX8_fitting 9 = .ok (.getfield 48, 3) := by decide +kernel
theorem dX8_fitting_12 : decode cX8_fitting 12 = .ok (.iload_n 1, 1) := by decide +kernel
theorem dX8_fitting_13 : decode cX8_fitting 13 = .ok (.iload_n 1, 1) := by decide +kernel
theorem dX8_fitting_14 : decode cX8_fitting 14 = .ok (.aload_n 0, 1) := by decide +kernel
theorem dX8_fitting_15 : decode cX8_fitting 15 = .ok (.invokevirtual 118, 3) := by decide +kernel
theorem dX8_fitting_18 : decode cX8_fitting 18 = .ok (.if_icmp .lt 9, 3) := by decide +kernel
theorem dX8_fitting_21 : decode cX8_fitting 21 = .ok (.iload_n 1, 1) := by decide +kernel
theorem dX8_fitting_22 : decode cX8_fitting 22 = .ok (.bipush 56, 2) := by decide +kernel
theorem dX8_fitting_24 : decode cX8_fitting 24 = .ok (.if_icmp .ne 7, 3) := by decide +kernel
theorem dX8_fitting_27 : decode cX8_fitting 27 = .ok (.iconst 1, 1) := by decide +kernel
theorem dX8_fitting_28 : decode cX8_fitting 28 = .ok (.goto 4, 3) := by decide +kernel
theorem dX8_fitting_31 : decode cX8_fitting 31 = .ok (.iconst 0, 1) := by decide +kernel
theorem dX8_fitting_32 : decode cX8_fitting 32 = .ok (.bastore, 1) := by decide +kernel
theorem dX8_fitting_33 : decode cX8_fitting 33 = .ok (.iinc 1 1, 3) := by decide +kernel
theorem dX8_fitting_36 : decode cX8_fitting 36 = .ok (.goto (-34), 3) := by decide +kernel
theorem dX8_fitting_39 : decode cX8_fitting 39 = .ok (.iconst 0, 1) := by decide +kernel
theorem dX8_fitting_40 : decode cX8_fitting 40 = .ok (.istore_n 1, 1) := by decide +kernel
theorem dX8_fitting_41 : decode cX8_fitting 41 = .ok (.iload_n 1, 1) := by decide +kernel
theorem dX8_fitting_42 : decode cX8_fitting 42 = .ok (.aload_n 0, 1) := by decide +kernel
theorem dX8_fitting_43 : decode cX8_fitting 43 = .ok (.invokevirtual 124, 3) := by decide +kernel
theorem dX8_fitting_46 : decode cX8_fitting 46 = .ok (.if_icmp .ge 60, 3) := by decide +kernel
theorem dX8_fitting_49 : decode cX8_fitting 49 = .ok (.aload_n 0, 1) := by decide +kernel
theorem dX8_fitting_50 : decode cX8_fitting 50 = .ok (.iload_n 1, 1) := by decide +kernel
theorem dX8_fitting_51 : decode cX8_fitting 51 = .ok (.invokevirtual 115, 3) := by decide +kernel
theorem dX8_fitting_54 : decode cX8_fitting 54 = .ok (.iconst 0, 1) := by decide +kernel
theorem dX8_fitting_55 : decode cX8_fitting 55 = .ok (.istore_n 2, 1) := by decide +kernel
theorem dX8_fitting_56 : decode cX8_fitting 56 = .ok (.iload_n 2, 1) := by decide +kernel
theorem dX8_fitting_57 : decode cX8_fitting 57 = .ok (.bipush 57, 2) := by decide +kernel
theorem dX8_fitting_59 : decode cX8_fitting 59 = .ok (.if_icmp .ge 41, 3) := by decide +kernel
theorem dX8_fitting_62 : decode cX8_fitting 62 = .ok (.aload_n 0, 1) := by decide +kernel
theorem dX8_fitting_63 : decode cX8_fitting 63 = .ok (.getfield 48, 3) := by decide +kernel
theorem dX8_fitting_66 : decode cX8_fitting 66 = .ok (.iload_n 2, 1) := by decide +kernel
theorem dX8_fitting_67 : decode cX8_fitting 67 = .ok (.baload, 1) := by decide +kernel
theorem dX8_fitting_68 : decode cX8_fitting 68 = .ok (.ifCond .ne 6, 3) := by decide +kernel
theorem dX8_fitting_71 : decode cX8_fitting 71 = .ok (.goto 23, 3) := by decide +kernel
theorem dX8_fitting_74 : decode cX8_fitting 74 = .ok (.aload_n 0, 1) := by decide +kernel
theorem dX8_fitting_75 : decode cX8_fitting 75 = .ok (.aload_n 0, 1) := by decide +kernel
theorem dX8_fitting_76 : decode cX8_fitting 76 = .ok (.iload_n 2, 1) := by decide +kernel
theorem dX8_fitting_77 : decode cX8_fitting 77 = .ok (.invokevirtual 325, 3) := by decide +kernel
theorem dX8_fitting_80 : decode cX8_fitting 80 = .ok (.invokevirtual 105, 3) := by decide +kernel
theorem dX8_fitting_83 : decode cX8_fitting 83 = .ok (.aload_n 0, 1) := by decide +kernel
theorem dX8_fitting_84 : decode cX8_fitting 84 = .ok (.getfield 48, 3) := by decide +kernel
theorem dX8_fitting_87 : decode cX8_fitting 87 = .ok (.iload_n 2, 1) := by decide +kernel
theorem dX8_fitting_88 : decode cX8_fitting 88 = .ok (.aload_n 0, 1) := by decide +kernel
theorem dX8_fitting_89 : decode cX8_fitting 89 = .ok (.iload_n 1, 1) := by decide +kernel
theorem dX8_fitting_90 : decode cX8_fitting 90 = .ok (.invokevirtual 328, 3) := by decide +kernel
theorem dX8_fitting_93 : decode cX8_fitting 93 = .ok (.bastore, 1) := by decide +kernel
theorem dX8_fitting_94 : decode cX8_fitting 94 = .ok (.iinc 2 1, 3) := by decide +kernel
theorem dX8_fitting_97 : decode cX8_fitting 97 = .ok (.goto (-41), 3) := by decide +kernel
theorem dX8_fitting_100 : decode cX8_fitting 100 = .ok (.iinc 1 1, 3) := by decide +kernel
theorem dX8_fitting_103 : decode cX8_fitting 103 = .ok (.goto (-62), 3) := by decide +kernel
theorem dX8_fitting_106 : decode cX8_fitting 106 = .ok (.iconst 0, 1) := by decide +kernel
theorem dX8_fitting_107 : decode cX8_fitting 107 = .ok (.istore_n 1, 1) := by decide +kernel
theorem dX8_fitting_108 : decode cX8_fitting 108 = .ok (.iconst 0, 1) := by decide +kernel
theorem dX8_fitting_109 : decode cX8_fitting 109 = .ok (.istore_n 2, 1) := by decide +kernel
theorem dX8_fitting_110 : decode cX8_fitting 110 = .ok (.iload_n 2, 1) := by decide +kernel
theorem dX8_fitting_111 : decode cX8_fitting 111 = .ok (.bipush 57, 2) := by decide +kernel
theorem dX8_fitting_113 : decode cX8_fitting 113 = .ok (.if_icmp .ge 26, 3) := by decide +kernel
theorem dX8_fitting_116 : decode cX8_fitting 116 = .ok (.iload_n 1, 1) := by decide +kernel
theorem dX8_fitting_117 : decode cX8_fitting 117 = .ok (.aload_n 0, 1) := by decide +kernel
theorem dX8_fitting_118 : decode cX8_fitting 118 = .ok (.getfield 48, 3) := by decide +kernel
theorem dX8_fitting_121 : decode cX8_fitting 121 = .ok (.iload_n 2, 1) := by decide +kernel
theorem dX8_fitting_122 : decode cX8_fitting 122 = .ok (.baload, 1) := by decide +kernel
theorem dX8_fitting_123 : decode cX8_fitting 123 = .ok (.ifCond .eq 7, 3) := by decide +kernel
theorem dX8_fitting_126 : decode cX8_fitting 126 = .ok (.iconst 1, 1) := by decide +kernel
theorem dX8_fitting_127 : decode cX8_fitting 127 = .ok (.goto 4, 3) := by decide +kernel
theorem dX8_fitting_130 : decode cX8_fitting 130 = .ok (.iconst 0, 1) := by decide +kernel
theorem dX8_fitting_131 : decode cX8_fitting 131 = .ok (.iadd, 1) := by decide +kernel
theorem dX8_fitting_132 : decode cX8_fitting 132 = .ok (.istore_n 1, 1) := by decide +kernel
theorem dX8_fitting_133 : decode cX8_fitting 133 = .ok (.iinc 2 1, 3) := by decide +kernel
theorem dX8_fitting_136 : decode cX8_fitting 136 = .ok (.goto (-26), 3) := by decide +kernel
theorem dX8_fitting_139 : decode cX8_fitting 139 = .ok (.iload_n 1, 1) := by decide +kernel
theorem dX8_fitting_140 : decode cX8_fitting 140 = .ok (.ireturn, 1) := by decide +kernel
set_option maxRecDepth 20000 in
theorem ggX8_suspects_X8_fitting : GoodIn wsX8_suspects wsX8_fitting := goodIn_r _ [6, 7, 8, 9, 10, 5, 11, 12, 13, 14, 15, 16, 17, 18, 19, 20, 21, 22, 23, 24, 25, 26, 27, 28, 29, 30, 31, 32, 33, 34, 35, 36, 37, 38, 39, 40, 41, 42, 43, 44, 45, 46, 47, 48, 49, 50, 51, 52, 53, 54, 55, 56, 57, 58, 59, 60, 61, 62, 63, 64, 65, 66, 67, 68, 69, 70, 71, 72, 73, 74, 75, 76, 77, 78, 79, 80, 81, 82, 83, 84, 85, 86, 87, 88, 89, 90, 91, 92, 93, 94, 95, 96, 97, 98, 99, 100, 101, 102, 103, 104, 105, 106, 107, 108, 109] (by decide +kernel) (by decide +kernel)
set_option maxRecDepth 20000 in
theorem gX8_suspects_X8_fitting : GoodIn wsX8_suspects (wsV RX8 331 RX8 yX8_fitting wsX8_fitting) := goodIn_app (goodIn_of _ (by decide +kernel)) ggX8_suspects_X8_fitting
theorem dX8_suspects_0 : decode cX8_suspects 0 = .ok (.aload_n 0, 1) := by decide +kernel
theorem dX8_suspects_1 : decode cX8_suspects 1 = .ok (.iconst 0, 1) := by decide +kernel
theorem dX8_suspects_2 : decode cX8_suspects 2 = .ok (.putfield 61, 3) := by decide +kernel
theorem dX8_suspects_5 : decode cX8_suspects 5 = .ok (.aload_n 0, 1) := by decide +kernel
theorem dX8_suspects_6 : decode cX8_suspects 6 = .ok (.invokevirtual 331, 3) := by decide +kernel
theorem dX8_suspects_9 : decode cX8_suspects 9 = .ok (.ireturn, 1) := by decide +kernel
set_option maxRecDepth 20000 in
theorem ggX8_suspect_X8_fitting : GoodIn wsX8_suspect wsX8_fitting := goodIn_r _ [7, 2, 8, 9, 10, 6, 11, 12, 13, 14, 15, 16, 17, 18, 19, 20, 21, 22, 23, 24, 25, 26, 27, 28, 29, 30, 31, 32, 33, 34, 35, 36, 37, 38, 39, 40, 41, 42, 43, 44, 45, 46, 47, 48, 49, 50, 51, 52, 53, 54, 55, 56, 57, 58, 59, 60, 61, 62, 63, 64, 65, 66, 67, 68, 69, 70, 71, 72, 73, 74, 75, 76, 77, 78, 79, 80, 81, 82, 83, 84, 85, 86, 94, 95, 96, 97, 98, 99, 100, 101, 102, 103, 104, 105, 106, 107, 108, 109, 110, 111, 112, 113, 114, 115, 116] (by decide +kernel) (by decide +kernel)
set_option maxRecDepth 20000 in
theorem gX8_suspect_X8_fitting : GoodIn wsX8_suspect (wsV RX8 331 RX8 yX8_fitting wsX8_fitting) := goodIn_app (goodIn_of _ (by decide +kernel)) ggX8_suspect_X8_fitting
set_option maxRecDepth 20000 in
theorem ggX8_suspect_X8_isIn : GoodIn wsX8_suspect wsX8_isIn := goodIn_r _ [89] (by decide +kernel) (by decide +kernel)
set_option maxRecDepth 20000 in
theorem gX8_suspect_X8_isIn : GoodIn wsX8_suspect (va_wsS RX8 187 yX8_isIn wsX8_isIn) := goodIn_app (goodIn_of _ (by decide +kernel)) ggX8_suspect_X8_isIn
set_option maxRecDepth 20000 in
theorem ggX8_suspect_X8_right : GoodIn wsX8_suspect wsX8_right := goodIn_r _ [93, 1, 94, 95, 96, 97, 98, 99, 100, 101, 102, 103, 104, 105, 106, 107, 108, 109, 110, 111, 112, 113, 114, 115, 116] (by decide +kernel) (by decide +kernel)
set_option maxRecDepth 20000 in
theorem gX8_suspect_X8_right : GoodIn wsX8_suspect (wsV RX8 261 RX8 yX8_right wsX8_right) := goodIn_app (goodIn_of _ (by decide +kernel)) ggX8_suspect_X8_right
theorem dX8_suspect_0 : decode cX8_suspect 0 = .ok (.aload_n 0, 1) := by decide +kernel
theorem dX8_suspect_1 : decode cX8_suspect 1 = .ok (.iconst 0, 1) := by decide +kernel
theorem dX8_suspect_2 : decode cX8_suspect 2 = .ok (.putfield 61, 3) := by decide +kernel
theorem dX8_suspect_5 : decode cX8_suspect 5 = .ok (.aload_n 0, 1) := by decide +kernel
theorem dX8_suspect_6 : decode cX8_suspect 6 = .ok (.invokevirtual 331, 3) := by decide +kernel
theorem dX8_suspect_9 : decode cX8_suspect 9 = .ok (.istore_n 2, 1) := by decide +kernel
theorem dX8_suspect_10 : decode cX8_suspect 10 = .ok (.aload_n 0, 1) := by decide +kernel
theorem dX8_suspect_11 : decode cX8_suspect 11 = .ok (.iload_n 1, 1) := by decide +kernel
theorem dX8_suspect_12 : decode cX8_suspect 12 = .ok (.iconst 0, 1) := by decide +kernel
theorem dX8_suspect_13 : decode cX8_suspect 13 = .ok (.iload_n 2, 1) := by decide +kernel
theorem dX8_suspect_14 : decode cX8_suspect 14 = .ok (.iconst 1, 1) := by decide +kernel
theorem dX8_suspect_15 : decode cX8_suspect 15 = .ok (.isub, 1) := by decide +kernel
theorem dX8_suspect_16 : decode cX8_suspect 16 = .ok (.invokestatic 187, 3) := by decide +kernel
theorem dX8_suspect_19 : decode cX8_suspect 19 = .ok (.iconst 1, 1) := by decide +kernel
theorem dX8_suspect_20 : decode cX8_suspect 20 = .ok (.invokevirtual 261, 3) := by decide +kernel
theorem dX8_suspect_23 : decode cX8_suspect 23 = .ok (.ifCond .ne 5, 3) := by decide +kernel
theorem dX8_suspect_26 : decode cX8_suspect 26 = .ok (.iconst 0, 1) := by decide +kernel
theorem dX8_suspect_27 : decode cX8_suspect 27 = .ok (.ireturn, 1) := by decide +kernel
theorem dX8_suspect_28 : decode cX8_suspect 28 = .ok (.aload_n 0, 1) := by decide +kernel
theorem dX8_suspect_29 : decode cX8_suspect 29 = .ok (.getfield 48, 3) := by decide +kernel
theorem dX8_suspect_32 : decode cX8_suspect 32 = .ok (.bipush 56, 2) := by decide +kernel
theorem dX8_suspect_34 : decode cX8_suspect 34 = .ok (.baload, 1) := by decide +kernel
theorem dX8_suspect_35 : decode cX8_suspect 35 = .ok (.ifCond .eq 9, 3) := by decide +kernel
theorem dX8_suspect_38 : decode cX8_suspect 38 = .ok (.iload_n 1, 1) := by decide +kernel
theorem dX8_suspect_39 : decode cX8_suspect 39 = .ok (.iconst 1, 1) := by decide +kernel
theorem dX8_suspect_40 : decode cX8_suspect 40 = .ok (.isub, 1) := by decide +kernel
theorem dX8_suspect_41 : decode cX8_suspect 41 = .ok (.goto 4, 3) := by decide +kernel
theorem dX8_suspect_44 : decode cX8_suspect 44 = .ok (.iload_n 1, 1) := by decide +kernel
theorem dX8_suspect_45 : decode cX8_suspect 45 = .ok (.istore_n 3, 1) := by decide +kernel
theorem dX8_suspect_46 : decode cX8_suspect 46 = .ok (.iload_n 3, 1) := by decide +kernel
theorem dX8_suspect_47 : decode cX8_suspect 47 = .ok (.ifCond .ge 5, 3) := by decide +kernel
theorem dX8_suspect_50 : decode cX8_suspect 50 = .ok (.iconst (-1), 1) := by decide +kernel
theorem dX8_suspect_51 : decode cX8_suspect 51 = .ok (.ireturn, 1) := by decide +kernel
theorem dX8_suspect_52 : decode cX8_suspect 52 = .ok (.iconst 0, 1) := by decide +kernel
theorem dX8_suspect_53 : decode cX8_suspect 53 = .ok (.istore 4, 2) := by decide +kernel
theorem dX8_suspect_55 : decode cX8_suspect 55 = .ok (.aload_n 0, 1) := by decide +kernel
theorem dX8_suspect_56 : decode cX8_suspect 56 = .ok (.getfield 48, 3) := by decide +kernel
theorem dX8_suspect_59 : decode cX8_suspect 59 = .ok (.iload 4, 2) := by decide +kernel
theorem dX8_suspect_61 : decode cX8_suspect 61 = .ok (.baload, 1) := by decide +kernel
theorem dX8_suspect_62 : decode cX8_suspect 62 = .ok (.ifCond .eq 7, 3) := by decide +kernel
theorem dX8_suspect_65 : decode cX8_suspect 65 = .ok (.iload_n 3, 1) := by decide +kernel
theorem dX8_suspect_66 : decode cX8_suspect 66 = .ok (.ifCond .le 27, 3) := by decide +kernel
theorem dX8_suspect_69 : decode cX8_suspect 69 = .ok (.iload_n 3, 1) := by decide +kernel
theorem dX8_suspect_70 : decode cX8_suspect 70 = .ok (.aload_n 0, 1) := by decide +kernel
theorem dX8_suspect_71 : decode cX8_suspect 71 = .ok (.getfield 48, 3) := by decide +kernel
theorem dX8_suspect_74 : decode cX8_suspect 74 = .ok (.iload 4, 2) := by decide +kernel
theorem dX8_suspect_76 : decode cX8_suspect 76 = .ok (.baload, 1) := by decide +kernel
theorem dX8_suspect_77 : decode cX8_suspect 77 = .ok (.ifCond .eq 7, 3) := by decide +kernel
theorem dX8_suspect_80 : decode cX8_suspect 80 = .ok (.iconst 1, 1) := by decide +kernel
theorem dX8_suspect_81 : decode cX8_suspect 81 = .ok (.goto 4, 3) := by decide +kernel
theorem dX8_suspect_84 : decode cX8_suspect 84 = .ok (.iconst 0, 1) := by decide +kernel
theorem dX8_suspect_85 : decode cX8_suspect 85 = .ok (.isub, 1) := by decide +kernel
theorem dX8_suspect_86 : decode cX8_suspect 86 = .ok (.istore_n 3, 1) := by decide +kernel
theorem dX8_suspect_87 : decode cX8_suspect 87 = .ok (.iinc 4 1, 3) := by decide +kernel
theorem dX8_suspect_90 : decode cX8_suspect 90 = .ok (.goto (-35), 3) := by decide +kernel
theorem dX8_suspect_93 : decode cX8_suspect 93 = .ok (.iload 4, 2) := by decide +kernel
theorem dX8_suspect_95 : decode cX8_suspect 95 = .ok (.ireturn, 1) := by decide +kernel
set_option maxRecDepth 20000 in
theorem ggX8_greatest_X8_asksTest : GoodIn wsX8_greatest wsX8_asksTest := goodIn_r _ [8, 9, 10, 11, 12, 7, 13, 14, 15, 16, 17, 18, 19, 20, 21, 22, 23, 24, 25, 26, 27, 28, 29, 30, 31, 32, 33, 34, 35, 36, 37, 38, 39, 40, 41, 42, 43, 44, 45, 46, 47, 48, 49, 50, 67, 68, 69, 70, 71, 72, 73, 74, 75, 76, 77, 78, 79, 80, 81, 82, 83, 84, 85, 86, 87, 88, 89] (by decide +kernel) (by decide +kernel)
set_option maxRecDepth 20000 in
theorem gX8_greatest_X8_asksTest : GoodIn wsX8_greatest (wsV RX8 115 RX8 yX8_asksTest wsX8_asksTest) := goodIn_app (goodIn_of _ (by decide +kernel)) ggX8_greatest_X8_asksTest
set_option maxRecDepth 20000 in
theorem ggX8_greatest_X8_faultAtIndex : GoodIn wsX8_greatest wsX8_faultAtIndex := goodIn_r _ [54] (by decide +kernel) (by decide +kernel)
set_option maxRecDepth 20000 in
theorem gX8_greatest_X8_faultAtIndex : GoodIn wsX8_greatest (wsV RX8 325 RX8 yX8_faultAtIndex wsX8_faultAtIndex) := goodIn_app (goodIn_of _ (by decide +kernel)) ggX8_greatest_X8_faultAtIndex
set_option maxRecDepth 20000 in
theorem ggX8_greatest_X8_bends : GoodIn wsX8_greatest wsX8_bends := goodIn_r _ [58, 24, 3, 9, 25, 26, 27, 7, 28, 14, 15, 16, 17, 18, 19, 48, 49, 50, 10, 11, 12, 13, 29, 30, 31, 32, 33, 34, 35, 36, 37, 38, 39, 40, 41, 42, 43, 44, 45, 46, 47, 67, 68, 69, 70, 71, 72, 73, 74, 75, 76, 77, 78, 79, 80, 81, 82, 83, 84, 85, 86, 87, 88, 89] (by decide +kernel) (by decide +kernel)
set_option maxRecDepth 20000 in
theorem gX8_greatest_X8_bends : GoodIn wsX8_greatest (wsV RX8 105 RX8 yX8_bends wsX8_bends) := goodIn_app (goodIn_of _ (by decide +kernel)) ggX8_greatest_X8_bends
set_option maxRecDepth 20000 in
theorem ggX8_greatest_X8_outputs : GoodIn wsX8_greatest wsX8_outputs := goodIn_r _ [62, 14, 15, 16, 7, 17, 18, 19, 67, 68, 69, 70, 71, 72, 73, 74, 75, 76, 77, 78, 79, 80, 81, 82, 83, 84, 85, 86, 87, 88, 89] (by decide +kernel) (by decide +kernel)
set_option maxRecDepth 20000 in
theorem gX8_greatest_X8_outputs : GoodIn wsX8_greatest (wsV RX8 109 RX8 yX8_outputs wsX8_outputs) := goodIn_app (goodIn_of _ (by decide +kernel)) ggX8_greatest_X8_outputs
set_option maxRecDepth 20000 in
theorem ggX8_greatest_X8_atOutput : GoodIn wsX8_greatest wsX8_atOutput := goodIn_r _ [66, 14, 15, 16, 7, 17, 18, 19, 67, 68, 69, 70, 71, 72, 73, 74, 75, 76, 77, 78, 79, 80, 81, 82, 83, 84, 85, 86, 87, 88, 89] (by decide +kernel) (by decide +kernel)
set_option maxRecDepth 20000 in
theorem gX8_greatest_X8_atOutput : GoodIn wsX8_greatest (wsV RX8 112 RX8 yX8_atOutput wsX8_atOutput) := goodIn_app (goodIn_of _ (by decide +kernel)) ggX8_greatest_X8_atOutput
theorem dX8_greatest_0 : decode cX8_greatest 0 = .ok (.iconst 0, 1) := by decide +kernel
theorem dX8_greatest_1 : decode cX8_greatest 1 = .ok (.istore_n 2, 1) := by decide +kernel
theorem dX8_greatest_2 : decode cX8_greatest 2 = .ok (.iload_n 2, 1) := by decide +kernel
theorem dX8_greatest_3 : decode cX8_greatest 3 = .ok (.sipush 729, 3) := by decide +kernel
theorem dX8_greatest_6 : decode cX8_greatest 6 = .ok (.if_icmp .ge 16, 3) := by decide +kernel
theorem dX8_greatest_9 : decode cX8_greatest 9 = .ok (.aload_n 0, 1) := by decide +kernel
theorem dX8_greatest_10 : decode cX8_greatest 10 = .ok (.getfield 51, 3) := by decide +kernel
theorem dX8_greatest_13 : decode cX8_greatest 13 = .ok (.iload_n 2, 1) := by decide +kernel
theorem dX8_greatest_14 : decode cX8_greatest 14 = .ok (.iconst 0, 1) := by decide +kernel
theorem dX8_greatest_15 : decode cX8_greatest 15 = .ok (.iastore, 1) := by decide +kernel
theorem dX8_greatest_16 : decode cX8_greatest 16 = .ok (.iinc 2 1, 3) := by decide +kernel
theorem dX8_greatest_19 : decode cX8_greatest 19 = .ok (.goto (-17), 3) := by decide +kernel
theorem dX8_greatest_22 : decode cX8_greatest 22 = .ok (.aload_n 0, 1) := by decide +kernel
theorem dX8_greatest_23 : decode cX8_greatest 23 = .ok (.iload_n 1, 1) := by decide +kernel
theorem dX8_greatest_24 : decode cX8_greatest 24 = .ok (.invokevirtual 115, 3) := by decide +kernel
theorem dX8_greatest_27 : decode cX8_greatest 27 = .ok (.iconst 0, 1) := by decide +kernel
theorem dX8_greatest_28 : decode cX8_greatest 28 = .ok (.istore_n 2, 1) := by decide +kernel
theorem dX8_greatest_29 : decode cX8_greatest 29 = .ok (.iconst 0, 1) := by decide +kernel
theorem dX8_greatest_30 : decode cX8_greatest 30 = .ok (.istore_n 3, 1) := by decide +kernel
theorem dX8_greatest_31 : decode cX8_greatest 31 = .ok (.iload_n 3, 1) := by decide +kernel
theorem dX8_greatest_32 : decode cX8_greatest 32 = .ok (.bipush 57, 2) := by decide +kernel
theorem dX8_greatest_34 : decode cX8_greatest 34 = .ok (.if_icmp .ge 102, 3) := by decide +kernel
theorem dX8_greatest_37 : decode cX8_greatest 37 = .ok (.aload_n 0, 1) := by decide +kernel
theorem dX8_greatest_38 : decode cX8_greatest 38 = .ok (.getfield 48, 3) := by decide +kernel
theorem dX8_greatest_41 : decode cX8_greatest 41 = .ok (.iload_n 3, 1) := by decide +kernel
theorem dX8_greatest_42 : decode cX8_greatest 42 = .ok (.baload, 1) := by decide +kernel
theorem dX8_greatest_43 : decode cX8_greatest 43 = .ok (.ifCond .ne 6, 3) := by decide +kernel
theorem dX8_greatest_46 : decode cX8_greatest 46 = .ok (.goto 84, 3) := by decide +kernel
theorem dX8_greatest_49 : decode cX8_greatest 49 = .ok (.aload_n 0, 1) := by decide +kernel
theorem dX8_greatest_50 : decode cX8_greatest 50 = .ok (.aload_n 0, 1) := by decide +kernel
theorem dX8_greatest_51 : decode cX8_greatest 51 = .ok (.iload_n 3, 1) := by decide +kernel
theorem dX8_greatest_52 : decode cX8_greatest 52 = .ok (.invokevirtual 325, 3) := by decide +kernel
theorem dX8_greatest_55 : decode cX8_greatest 55 = .ok (.invokevirtual 105, 3) := by decide +kernel
theorem dX8_greatest_58 : decode cX8_greatest 58 = .ok (.iconst 0, 1) := by decide +kernel
theorem dX8_greatest_59 : decode cX8_greatest 59 = .ok (.istore 4, 2) := by decide +kernel
theorem dX8_greatest_61 : decode cX8_greatest 61 = .ok (.iconst 0, 1) := by decide +kernel
theorem dX8_greatest_62 : decode cX8_greatest 62 = .ok (.istore 5, 2) := by decide +kernel
theorem dX8_greatest_64 : decode cX8_greatest 64 = .ok (.iload 5, 2) := by decide +kernel
theorem dX8_greatest_66 : decode cX8_greatest 66 = .ok (.aload_n 0, 1) := by decide +kernel
theorem dX8_greatest_67 : decode cX8_greatest 67 = .ok (.invokevirtual 109, 3) := by decide +kernel
theorem dX8_greatest_70 : decode cX8_greatest 70 = .ok (.if_icmp .ge 26, 3) := by decide +kernel
theorem dX8_greatest_73 : decode cX8_greatest 73 = .ok (.iconst 3, 1) := by decide +kernel
theorem dX8_greatest_74 : decode cX8_greatest 74 = .ok (.iload 4, 2) := by decide +kernel
theorem dX8_greatest_76 : decode cX8_greatest 76 = .ok (.imul, 1) := by decide +kernel
theorem dX8_greatest_77 : decode cX8_greatest 77 = .ok (.aload_n 0, 1) := by decide +kernel
theorem dX8_greatest_78 : decode cX8_greatest 78 = .ok (.iload 5, 2) := by decide +kernel
theorem dX8_greatest_80 : decode cX8_greatest 80 = .ok (.aload_n 0, 1) := by decide +kernel
theorem dX8_greatest_81 : decode cX8_greatest 81 = .ok (.getfield 25, 3) := by decide +kernel
theorem dX8_greatest_84 : decode cX8_greatest 84 = .ok (.invokevirtual 112, 3) := by decide +kernel
theorem dX8_greatest_87 : decode cX8_greatest 87 = .ok (.iadd, 1) := by decide +kernel
theorem dX8_greatest_88 : decode cX8_greatest 88 = .ok (.istore 4, 2) := by decide +kernel
theorem dX8_greatest_90 : decode cX8_greatest 90 = .ok (.iinc 5 1, 3) := by decide +kernel
theorem dX8_greatest_93 : decode cX8_greatest 93 = .ok (.goto (-29), 3) := by decide +kernel
theorem dX8_greatest_96 : decode cX8_greatest 96 = .ok (.aload_n 0, 1) := by decide +kernel
theorem dX8_greatest_97 : decode cX8_greatest 97 = .ok (.getfield 51, 3) := by decide +kernel
theorem dX8_greatest_100 : decode cX8_greatest 100 = .ok (.iload 4, 2) := by decide +kernel
theorem dX8_greatest_102 : decode cX8_greatest 102 = .ok (.dup2, 1) := by decide +kernel
theorem dX8_greatest_103 : decode cX8_greatest 103 = .ok (.iaload, 1) := by decide +kernel
theorem dX8_greatest_104 : decode cX8_greatest 104 = .ok (.iconst 1, 1) := by decide +kernel
theorem dX8_greatest_105 : decode cX8_greatest 105 = .ok (.iadd, 1) := by decide +kernel
theorem dX8_greatest_106 : decode cX8_greatest 106 = .ok (.iastore, 1) := by decide +kernel
theorem dX8_greatest_107 : decode cX8_greatest 107 = .ok (.aload_n 0, 1) := by decide +kernel
theorem dX8_greatest_108 : decode cX8_greatest 108 = .ok (.getfield 51, 3) := by decide +kernel
theorem dX8_greatest_111 : decode cX8_greatest 111 = .ok (.iload 4, 2) := by decide +kernel
theorem dX8_greatest_113 : decode cX8_greatest 113 = .ok (.iaload, 1) := by decide +kernel
theorem dX8_greatest_114 : decode cX8_greatest 114 = .ok (.iload_n 2, 1) := by decide +kernel
theorem dX8_greatest_115 : decode cX8_greatest 115 = .ok (.if_icmp .le 13, 3) := by decide +kernel
theorem dX8_greatest_118 : decode cX8_greatest 118 = .ok (.aload_n 0, 1) := by decide +kernel
theorem dX8_greatest_119 : decode cX8_greatest 119 = .ok (.getfield 51, 3) := by decide +kernel
theorem dX8_greatest_122 : decode cX8_greatest 122 = .ok (.iload 4, 2) := by decide +kernel
theorem dX8_greatest_124 : decode cX8_greatest 124 = .ok (.iaload, 1) := by decide +kernel
theorem dX8_greatest_125 : decode cX8_greatest 125 = .ok (.goto 4, 3) := by decide +kernel
theorem dX8_greatest_128 : decode cX8_greatest 128 = .ok (.iload_n 2, 1) := by decide +kernel
theorem dX8_greatest_129 : decode cX8_greatest 129 = .ok (.istore_n 2, 1) := by decide +kernel
theorem dX8_greatest_130 : decode cX8_greatest 130 = .ok (.iinc 3 1, 3) := by decide +kernel
theorem dX8_greatest_133 : decode cX8_greatest 133 = .ok (.goto (-102), 3) := by decide +kernel
theorem dX8_greatest_136 : decode cX8_greatest 136 = .ok (.iload_n 2, 1) := by decide +kernel
theorem dX8_greatest_137 : decode cX8_greatest 137 = .ok (.ireturn, 1) := by decide +kernel
set_option maxRecDepth 20000 in
theorem ggX8_nextTest_X8_fitting : GoodIn wsX8_nextTest wsX8_fitting := goodIn_r _ [6, 7, 8, 9, 10, 5, 11, 12, 13, 14, 15, 16, 17, 18, 19, 20, 21, 22, 23, 24, 25, 26, 27, 28, 29, 30, 31, 32, 33, 34, 35, 36, 37, 38, 39, 40, 41, 42, 43, 44, 45, 46, 47, 48, 49, 50, 51, 52, 53, 54, 55, 56, 57, 58, 59, 60, 61, 62, 63, 64, 65, 66, 67, 68, 69, 70, 71, 72, 73, 74, 75, 76, 77, 78, 79, 80, 81, 82, 83, 84, 85, 86, 92, 93, 94, 95, 96, 97, 98, 99, 100, 101, 102, 103, 104, 105, 106, 107, 108, 109, 110, 111, 112, 113, 114] (by decide +kernel) (by decide +kernel)
set_option maxRecDepth 20000 in
theorem gX8_nextTest_X8_fitting : GoodIn wsX8_nextTest (wsV RX8 331 RX8 yX8_fitting wsX8_fitting) := goodIn_app (goodIn_of _ (by decide +kernel)) ggX8_nextTest_X8_fitting
set_option maxRecDepth 20000 in
theorem ggX8_nextTest_X8_tests : GoodIn wsX8_nextTest wsX8_tests := goodIn_r _ [25, 16, 17, 18, 5, 19, 20, 21, 92, 93, 94, 95, 96, 97, 98, 99, 100, 101, 102, 103, 104, 105, 106, 107, 108, 109, 110, 111, 112, 113, 114] (by decide +kernel) (by decide +kernel)
set_option maxRecDepth 20000 in
theorem gX8_nextTest_X8_tests : GoodIn wsX8_nextTest (wsV RX8 124 RX8 yX8_tests wsX8_tests) := goodIn_app (goodIn_of _ (by decide +kernel)) ggX8_nextTest_X8_tests
set_option maxRecDepth 20000 in
theorem ggX8_nextTest_X8_greatest : GoodIn wsX8_nextTest wsX8_greatest := goodIn_r _ [90, 91, 7, 70, 26, 27, 28, 5, 29, 30, 31, 32, 33, 34, 16, 17, 18, 19, 20, 21, 35, 36, 37, 38, 39, 12, 13, 14, 15, 40, 41, 42, 43, 44, 45, 46, 47, 48, 49, 50, 51, 52, 53, 54, 55, 56, 57, 58, 59, 60, 61, 62, 63, 64, 65, 66, 67, 68, 69, 75, 76, 77, 78, 79, 80, 81, 82, 92, 93, 94, 95, 96, 97, 98, 99, 100, 101, 102, 103, 104, 105, 106, 107, 108, 109, 110, 111, 112, 113, 114] (by decide +kernel) (by decide +kernel)
set_option maxRecDepth 20000 in
theorem gX8_nextTest_X8_greatest : GoodIn wsX8_nextTest (wsV RX8 334 RX8 yX8_greatest wsX8_greatest) := goodIn_app (goodIn_of _ (by decide +kernel)) ggX8_nextTest_X8_greatest
theorem dX8_nextTest_0 : decode cX8_nextTest 0 = .ok (.aload_n 0, 1) := by decide +kernel
theorem dX8_nextTest_1 : decode cX8_nextTest 1 = .ok (.iconst 0, 1) := by decide +kernel
theorem dX8_nextTest_2 : decode cX8_nextTest 2 = .ok (.putfield 61, 3) := by decide +kernel
theorem dX8_nextTest_5 : decode cX8_nextTest 5 = .ok (.aload_n 0, 1) := by decide +kernel
theorem dX8_nextTest_6 : decode cX8_nextTest 6 = .ok (.invokevirtual 331, 3) := by decide +kernel
theorem dX8_nextTest_9 : decode cX8_nextTest 9 = .ok (.iconst 2, 1) := by decide +kernel
theorem dX8_nextTest_10 : decode cX8_nextTest 10 = .ok (.if_icmp .ge 5, 3) := by decide +kernel
theorem dX8_nextTest_13 : decode cX8_nextTest 13 = .ok (.iconst (-1), 1) := by decide +kernel
theorem dX8_nextTest_14 : decode cX8_nextTest 14 = .ok (.ireturn, 1) := by decide +kernel
theorem dX8_nextTest_15 : decode cX8_nextTest 15 = .ok (.iconst (-1), 1) := by decide +kernel
theorem dX8_nextTest_16 : decode cX8_nextTest 16 = .ok (.istore_n 1, 1) := by decide +kernel
theorem dX8_nextTest_17 : decode cX8_nextTest 17 = .ok (.iconst 0, 1) := by decide +kernel
theorem dX8_nextTest_18 : decode cX8_nextTest 18 = .ok (.istore_n 2, 1) := by decide +kernel
theorem dX8_nextTest_19 : decode cX8_nextTest 19 = .ok (.iconst 0, 1) := by decide +kernel
theorem dX8_nextTest_20 : decode cX8_nextTest 20 = .ok (.istore_n 3, 1) := by decide +kernel
theorem dX8_nextTest_21 : decode cX8_nextTest 21 = .ok (.iload_n 3, 1) := by decide +kernel
theorem dX8_nextTest_22 : decode cX8_nextTest 22 = .ok (.aload_n 0, 1) := by decide +kernel
theorem dX8_nextTest_23 : decode cX8_nextTest 23 = .ok (.invokevirtual 124, 3) := by decide +kernel
theorem dX8_nextTest_26 : decode cX8_nextTest 26 = .ok (.if_icmp .ge 35, 3) := by decide +kernel
theorem dX8_nextTest_29 : decode cX8_nextTest 29 = .ok (.aload_n 0, 1) := by decide +kernel
theorem dX8_nextTest_30 : decode cX8_nextTest 30 = .ok (.iload_n 3, 1) := by decide +kernel
theorem dX8_nextTest_31 : decode cX8_nextTest 31 = .ok (.invokevirtual 334, 3) := by decide +kernel
theorem dX8_nextTest_34 : decode cX8_nextTest 34 = .ok (.istore 4, 2) := by decide +kernel
theorem dX8_nextTest_36 : decode cX8_nextTest 36 = .ok (.iload_n 1, 1) := by decide +kernel
theorem dX8_nextTest_37 : decode cX8_nextTest 37 = .ok (.iconst (-1), 1) := by decide +kernel
theorem dX8_nextTest_38 : decode cX8_nextTest 38 = .ok (.if_icmp .eq 12, 3) := by decide +kernel
theorem dX8_nextTest_41 : decode cX8_nextTest 41 = .ok (.iload 4, 2) := by decide +kernel
theorem dX8_nextTest_43 : decode cX8_nextTest 43 = .ok (.iload_n 2, 1) := by decide +kernel
theorem dX8_nextTest_44 : decode cX8_nextTest 44 = .ok (.if_icmp .lt 6, 3) := by decide +kernel
theorem dX8_nextTest_47 : decode cX8_nextTest 47 = .ok (.goto 8, 3) := by decide +kernel
theorem dX8_nextTest_50 : decode cX8_nextTest 50 = .ok (.iload_n 3, 1) := by decide +kernel
theorem dX8_nextTest_51 : decode cX8_nextTest 51 = .ok (.istore_n 1, 1) := by decide +kernel
theorem dX8_nextTest_52 : decode cX8_nextTest 52 = .ok (.iload 4, 2) := by decide +kernel
theorem dX8_nextTest_54 : decode cX8_nextTest 54 = .ok (.istore_n 2, 1) := by decide +kernel
theorem dX8_nextTest_55 : decode cX8_nextTest 55 = .ok (.iinc 3 1, 3) := by decide +kernel
theorem dX8_nextTest_58 : decode cX8_nextTest 58 = .ok (.goto (-37), 3) := by decide +kernel
theorem dX8_nextTest_61 : decode cX8_nextTest 61 = .ok (.iload_n 1, 1) := by decide +kernel
theorem dX8_nextTest_62 : decode cX8_nextTest 62 = .ok (.ireturn, 1) := by decide +kernel
set_option maxRecDepth 20000 in
theorem ggX8_adds_X8_tests : GoodIn wsX8_adds wsX8_tests := goodIn_r _ [5, 6, 7, 8, 4, 9, 10, 11, 20, 21, 22, 23, 24, 25, 26, 27, 28, 29, 30, 31, 32, 33, 34, 35, 36, 37, 38, 39, 40, 41, 42] (by decide +kernel) (by decide +kernel)
set_option maxRecDepth 20000 in
theorem gX8_adds_X8_tests : GoodIn wsX8_adds (wsV RX8 124 RX8 yX8_tests wsX8_tests) := goodIn_app (goodIn_of _ (by decide +kernel)) ggX8_adds_X8_tests
set_option maxRecDepth 20000 in
theorem ggX8_adds_X8_inputs : GoodIn wsX8_adds wsX8_inputs := goodIn_r _ [15, 6, 7, 8, 4, 9, 10, 11, 20, 21, 22, 23, 24, 25, 26, 27, 28, 29, 30, 31, 32, 33, 34, 35, 36, 37, 38, 39, 40, 41, 42] (by decide +kernel) (by decide +kernel)
set_option maxRecDepth 20000 in
theorem gX8_adds_X8_inputs : GoodIn wsX8_adds (wsV RX8 78 RX8 yX8_inputs wsX8_inputs) := goodIn_app (goodIn_of _ (by decide +kernel)) ggX8_adds_X8_inputs
set_option maxRecDepth 20000 in
theorem ggX8_adds_X8_put : GoodIn wsX8_adds wsX8_put := goodIn_r _ [19, 10, 11, 20, 21, 22, 23, 24, 25, 26, 27, 28, 29, 30, 31, 32, 33, 34, 35, 36, 37, 38, 39, 40, 41, 42] (by decide +kernel) (by decide +kernel)
set_option maxRecDepth 20000 in
theorem gX8_adds_X8_put : GoodIn wsX8_adds (wsV RX8 57 RX8 yX8_put wsX8_put) := goodIn_app (goodIn_of _ (by decide +kernel)) ggX8_adds_X8_put
theorem dX8_adds_0 : decode cX8_adds 0 = .ok (.sipush 182, 3) := by decide +kernel
theorem dX8_adds_3 : decode cX8_adds 3 = .ok (.bipush 8, 2) := by decide +kernel
theorem dX8_adds_5 : decode cX8_adds 5 = .ok (.aload_n 0, 1) := by decide +kernel
theorem dX8_adds_6 : decode cX8_adds 6 = .ok (.invokevirtual 124, 3) := by decide +kernel
theorem dX8_adds_9 : decode cX8_adds 9 = .ok (.imul, 1) := by decide +kernel
theorem dX8_adds_10 : decode cX8_adds 10 = .ok (.iadd, 1) := by decide +kernel
theorem dX8_adds_11 : decode cX8_adds 11 = .ok (.istore_n 3, 1) := by decide +kernel
theorem dX8_adds_12 : decode cX8_adds 12 = .ok (.iconst 0, 1) := by decide +kernel
theorem dX8_adds_13 : decode cX8_adds 13 = .ok (.istore 4, 2) := by decide +kernel
theorem dX8_adds_15 : decode cX8_adds 15 = .ok (.iload 4, 2) := by decide +kernel
theorem dX8_adds_17 : decode cX8_adds 17 = .ok (.aload_n 0, 1) := by decide +kernel
theorem dX8_adds_18 : decode cX8_adds 18 = .ok (.invokevirtual 78, 3) := by decide +kernel
theorem dX8_adds_21 : decode cX8_adds 21 = .ok (.if_icmp .ge 37, 3) := by decide +kernel
theorem dX8_adds_24 : decode cX8_adds 24 = .ok (.aload_n 0, 1) := by decide +kernel
theorem dX8_adds_25 : decode cX8_adds 25 = .ok (.iload_n 3, 1) := by decide +kernel
theorem dX8_adds_26 : decode cX8_adds 26 = .ok (.iload 4, 2) := by decide +kernel
theorem dX8_adds_28 : decode cX8_adds 28 = .ok (.iadd, 1) := by decide +kernel
theorem dX8_adds_29 : decode cX8_adds 29 = .ok (.iload_n 2, 1) := by decide +kernel
theorem dX8_adds_30 : decode cX8_adds 30 = .ok (.iload 4, 2) := by decide +kernel
theorem dX8_adds_32 : decode cX8_adds 32 = .ok (.ishr, 1) := by decide +kernel
theorem dX8_adds_33 : decode cX8_adds 33 = .ok (.iconst 1, 1) := by decide +kernel
theorem dX8_adds_34 : decode cX8_adds 34 = .ok (.iand, 1) := by decide +kernel
theorem dX8_adds_35 : decode cX8_adds 35 = .ok (.iconst 1, 1) := by decide +kernel
theorem dX8_adds_36 : decode cX8_adds 36 = .ok (.if_icmp .ne 7, 3) := by decide +kernel
theorem dX8_adds_39 : decode cX8_adds 39 = .ok (.iconst 2, 1) := by decide +kernel
theorem dX8_adds_40 : decode cX8_adds 40 = .ok (.goto 9, 3) := by decide +kernel
theorem dX8_adds_43 : decode cX8_adds 43 = .ok (.iload_n 1, 1) := by decide +kernel
theorem dX8_adds_44 : decode cX8_adds 44 = .ok (.iload 4, 2) := by decide +kernel
theorem dX8_adds_46 : decode cX8_adds 46 = .ok (.ishr, 1) := by decide +kernel
theorem dX8_adds_47 : decode cX8_adds 47 = .ok (.iconst 1, 1) := by decide +kernel
theorem dX8_adds_48 : decode cX8_adds 48 = .ok (.iand, 1) := by decide +kernel
theorem dX8_adds_49 : decode cX8_adds 49 = .ok (.invokevirtual 57, 3) := by decide +kernel
theorem dX8_adds_52 : decode cX8_adds 52 = .ok (.iinc 4 1, 3) := by decide +kernel
theorem dX8_adds_55 : decode cX8_adds 55 = .ok (.goto (-40), 3) := by decide +kernel
theorem dX8_adds_58 : decode cX8_adds 58 = .ok (.iconst 0, 1) := by decide +kernel
theorem dX8_adds_59 : decode cX8_adds 59 = .ok (.istore 4, 2) := by decide +kernel
theorem dX8_adds_61 : decode cX8_adds 61 = .ok (.iload 4, 2) := by decide +kernel
theorem dX8_adds_63 : decode cX8_adds 63 = .ok (.bipush 6, 2) := by decide +kernel
theorem dX8_adds_65 : decode cX8_adds 65 = .ok (.if_icmp .ge 28, 3) := by decide +kernel
theorem dX8_adds_68 : decode cX8_adds 68 = .ok (.aload_n 0, 1) := by decide +kernel
theorem dX8_adds_69 : decode cX8_adds 69 = .ok (.sipush 310, 3) := by decide +kernel
theorem dX8_adds_72 : decode cX8_adds 72 = .ok (.bipush 6, 2) := by decide +kernel
theorem dX8_adds_74 : decode cX8_adds 74 = .ok (.aload_n 0, 1) := by decide +kernel
theorem dX8_adds_75 : decode cX8_adds 75 = .ok (.invokevirtual 124, 3) := by decide +kernel
theorem dX8_adds_78 : decode cX8_adds 78 = .ok (.imul, 1) := by decide +kernel
theorem dX8_adds_79 : decode cX8_adds 79 = .ok (.iadd, 1) := by decide +kernel
theorem dX8_adds_80 : decode cX8_adds 80 = .ok (.iload 4, 2) := by decide +kernel
theorem dX8_adds_82 : decode cX8_adds 82 = .ok (.iadd, 1) := by decide +kernel
theorem dX8_adds_83 : decode cX8_adds 83 = .ok (.iconst 2, 1) := by decide +kernel
theorem dX8_adds_84 : decode cX8_adds 84 = .ok (.invokevirtual 57, 3) := by decide +kernel
theorem dX8_adds_87 : decode cX8_adds 87 = .ok (.iinc 4 1, 3) := by decide +kernel
theorem dX8_adds_90 : decode cX8_adds 90 = .ok (.goto (-29), 3) := by decide +kernel
theorem dX8_adds_93 : decode cX8_adds 93 = .ok (.aload_n 0, 1) := by decide +kernel
theorem dX8_adds_94 : decode cX8_adds 94 = .ok (.iconst 4, 1) := by decide +kernel
theorem dX8_adds_95 : decode cX8_adds 95 = .ok (.aload_n 0, 1) := by decide +kernel
theorem dX8_adds_96 : decode cX8_adds 96 = .ok (.invokevirtual 124, 3) := by decide +kernel
theorem dX8_adds_99 : decode cX8_adds 99 = .ok (.iconst 1, 1) := by decide +kernel
theorem dX8_adds_100 : decode cX8_adds 100 = .ok (.iadd, 1) := by decide +kernel
theorem dX8_adds_101 : decode cX8_adds 101 = .ok (.invokevirtual 57, 3) := by decide +kernel
theorem dX8_adds_104 : decode cX8_adds 104 = .ok (.return_, 1) := by decide +kernel
set_option maxRecDepth 20000 in
theorem ggX8_addTest_X8_fulls : GoodIn wsX8_addTest wsX8_fulls := goodIn_r _ [6, 7, 8, 9, 5, 10, 11, 12, 13, 14, 15, 16, 41, 42, 43, 44, 45, 46, 47, 48, 49, 50, 51, 52, 53, 54, 55, 56, 57, 58, 59, 60, 61, 62, 63] (by decide +kernel) (by decide +kernel)
set_option maxRecDepth 20000 in
theorem gX8_addTest_X8_fulls : GoodIn wsX8_addTest (wsV RX8 130 RX8 yX8_fulls wsX8_fulls) := goodIn_app (goodIn_of _ (by decide +kernel)) ggX8_addTest_X8_fulls
set_option maxRecDepth 20000 in
theorem ggX8_addTest_X8_isIn : GoodIn wsX8_addTest wsX8_isIn := goodIn_r _ [19] (by decide +kernel) (by decide +kernel)
set_option maxRecDepth 20000 in
theorem gX8_addTest_X8_isIn : GoodIn wsX8_addTest (va_wsS RX8 187 yX8_isIn wsX8_isIn) := goodIn_app (goodIn_of _ (by decide +kernel)) ggX8_addTest_X8_isIn
set_option maxRecDepth 20000 in
theorem ggX8_addTest_X8_right : GoodIn wsX8_addTest wsX8_right := goodIn_r _ [23, 1, 41, 42, 43, 44, 45, 46, 47, 48, 49, 50, 51, 52, 53, 54, 55, 56, 57, 58, 59, 60, 61, 62, 63] (by decide +kernel) (by decide +kernel)
set_option maxRecDepth 20000 in
theorem gX8_addTest_X8_right : GoodIn wsX8_addTest (wsV RX8 261 RX8 yX8_right wsX8_right) := goodIn_app (goodIn_of _ (by decide +kernel)) ggX8_addTest_X8_right
set_option maxRecDepth 20000 in
theorem ggX8_addTest_X8_tests : GoodIn wsX8_addTest wsX8_tests := goodIn_r _ [27, 11, 12, 13, 5, 14, 15, 16, 41, 42, 43, 44, 45, 46, 47, 48, 49, 50, 51, 52, 53, 54, 55, 56, 57, 58, 59, 60, 61, 62, 63] (by decide +kernel) (by decide +kernel)
set_option maxRecDepth 20000 in
theorem gX8_addTest_X8_tests : GoodIn wsX8_addTest (wsV RX8 124 RX8 yX8_tests wsX8_tests) := goodIn_app (goodIn_of _ (by decide +kernel)) ggX8_addTest_X8_tests
set_option maxRecDepth 20000 in
theorem ggX8_addTest_X8_change : GoodIn wsX8_addTest wsX8_change := goodIn_r _ [31, 16, 15, 32, 11, 12, 13, 5, 14, 41, 42, 43, 44, 45, 46, 47, 48, 49, 50, 51, 52, 53, 54, 55, 56, 57, 58, 59, 60, 61, 62, 63] (by decide +kernel) (by decide +kernel)
set_option maxRecDepth 20000 in
theorem gX8_addTest_X8_change : GoodIn wsX8_addTest (wsV RX8 268 RX8 yX8_change wsX8_change) := goodIn_app (goodIn_of _ (by decide +kernel)) ggX8_addTest_X8_change
set_option maxRecDepth 20000 in
theorem ggX8_addTest_X8_adds : GoodIn wsX8_addTest wsX8_adds := goodIn_r _ [36, 24, 25, 26, 5, 27, 11, 12, 13, 14, 15, 16, 7, 8, 9, 10, 37, 38, 39, 40, 41, 42, 43, 44, 45, 46, 47, 48, 49, 50, 51, 52, 53, 54, 55, 56, 57, 58, 59, 60, 61, 62, 63] (by decide +kernel) (by decide +kernel)
set_option maxRecDepth 20000 in
theorem gX8_addTest_X8_adds : GoodIn wsX8_addTest (wsV RX8 337 RX8 yX8_adds wsX8_adds) := goodIn_app (goodIn_of _ (by decide +kernel)) ggX8_addTest_X8_adds
theorem dX8_addTest_0 : decode cX8_addTest 0 = .ok (.aload_n 0, 1) := by decide +kernel
theorem dX8_addTest_1 : decode cX8_addTest 1 = .ok (.iconst 0, 1) := by decide +kernel
theorem dX8_addTest_2 : decode cX8_addTest 2 = .ok (.putfield 61, 3) := by decide +kernel
theorem dX8_addTest_5 : decode cX8_addTest 5 = .ok (.aload_n 0, 1) := by decide +kernel
theorem dX8_addTest_6 : decode cX8_addTest 6 = .ok (.iload_n 1, 1) := by decide +kernel
theorem dX8_addTest_7 : decode cX8_addTest 7 = .ok (.iconst 0, 1) := by decide +kernel
theorem dX8_addTest_8 : decode cX8_addTest 8 = .ok (.aload_n 0, 1) := by decide +kernel
theorem dX8_addTest_9 : decode cX8_addTest 9 = .ok (.invokevirtual 130, 3) := by decide +kernel
theorem dX8_addTest_12 : decode cX8_addTest 12 = .ok (.iconst 1, 1) := by decide +kernel
theorem dX8_addTest_13 : decode cX8_addTest 13 = .ok (.isub, 1) := by decide +kernel
theorem dX8_addTest_14 : decode cX8_addTest 14 = .ok (.invokestatic 187, 3) := by decide +kernel
theorem dX8_addTest_17 : decode cX8_addTest 17 = .ok (.ifCond .eq 27, 3) := by decide +kernel
theorem dX8_addTest_20 : decode cX8_addTest 20 = .ok (.iload_n 2, 1) := by decide +kernel
theorem dX8_addTest_21 : decode cX8_addTest 21 = .ok (.iconst 0, 1) := by decide +kernel
theorem dX8_addTest_22 : decode cX8_addTest 22 = .ok (.aload_n 0, 1) := by decide +kernel
theorem dX8_addTest_23 : decode cX8_addTest 23 = .ok (.invokevirtual 130, 3) := by decide +kernel
theorem dX8_addTest_26 : decode cX8_addTest 26 = .ok (.iconst 1, 1) := by decide +kernel
theorem dX8_addTest_27 : decode cX8_addTest 27 = .ok (.isub, 1) := by decide +kernel
theorem dX8_addTest_28 : decode cX8_addTest 28 = .ok (.invokestatic 187, 3) := by decide +kernel
theorem dX8_addTest_31 : decode cX8_addTest 31 = .ok (.ifCond .eq 13, 3) := by decide +kernel
theorem dX8_addTest_34 : decode cX8_addTest 34 = .ok (.iload_n 1, 1) := by decide +kernel
theorem dX8_addTest_35 : decode cX8_addTest 35 = .ok (.iload_n 2, 1) := by decide +kernel
theorem dX8_addTest_36 : decode cX8_addTest 36 = .ok (.iand, 1) := by decide +kernel
theorem dX8_addTest_37 : decode cX8_addTest 37 = .ok (.ifCond .ne 7, 3) := by decide +kernel
theorem dX8_addTest_40 : decode cX8_addTest 40 = .ok (.iconst 1, 1) := by decide +kernel
theorem dX8_addTest_41 : decode cX8_addTest 41 = .ok (.goto 4, 3) := by decide +kernel
theorem dX8_addTest_44 : decode cX8_addTest 44 = .ok (.iconst 0, 1) := by decide +kernel
theorem dX8_addTest_45 : decode cX8_addTest 45 = .ok (.iconst 1, 1) := by decide +kernel
theorem dX8_addTest_46 : decode cX8_addTest 46 = .ok (.invokevirtual 261, 3) := by decide +kernel
theorem dX8_addTest_49 : decode cX8_addTest 49 = .ok (.ifCond .eq 25, 3) := by decide +kernel
theorem dX8_addTest_52 : decode cX8_addTest 52 = .ok (.aload_n 0, 1) := by decide +kernel
theorem dX8_addTest_53 : decode cX8_addTest 53 = .ok (.aload_n 0, 1) := by decide +kernel
theorem dX8_addTest_54 : decode cX8_addTest 54 = .ok (.invokevirtual 124, 3) := by decide +kernel
theorem dX8_addTest_57 : decode cX8_addTest 57 = .ok (.bipush 16, 2) := by decide +kernel
theorem dX8_addTest_59 : decode cX8_addTest 59 = .ok (.if_icmp .ge 7, 3) := by decide +kernel
theorem dX8_addTest_62 : decode cX8_addTest 62 = .ok (.iconst 1, 1) := by decide +kernel
theorem dX8_addTest_63 : decode cX8_addTest 63 = .ok (.goto 4, 3) := by decide +kernel
theorem dX8_addTest_66 : decode cX8_addTest 66 = .ok (.iconst 0, 1) := by decide +kernel
theorem dX8_addTest_67 : decode cX8_addTest 67 = .ok (.iconst 2, 1) := by decide +kernel
theorem dX8_addTest_68 : decode cX8_addTest 68 = .ok (.invokevirtual 261, 3) := by decide +kernel
theorem dX8_addTest_71 : decode cX8_addTest 71 = .ok (.ifCond .ne 5, 3) := by decide +kernel
theorem dX8_addTest_74 : decode cX8_addTest 74 = .ok (.iconst 0, 1) := by decide +kernel
theorem dX8_addTest_75 : decode cX8_addTest 75 = .ok (.ireturn, 1) := by decide +kernel
theorem dX8_addTest_76 : decode cX8_addTest 76 = .ok (.aload_n 0, 1) := by decide +kernel
theorem dX8_addTest_77 : decode cX8_addTest 77 = .ok (.invokevirtual 268, 3) := by decide +kernel
theorem dX8_addTest_80 : decode cX8_addTest 80 = .ok (.aload_n 0, 1) := by decide +kernel
theorem dX8_addTest_81 : decode cX8_addTest 81 = .ok (.iload_n 1, 1) := by decide +kernel
theorem dX8_addTest_82 : decode cX8_addTest 82 = .ok (.iload_n 2, 1) := by decide +kernel
theorem dX8_addTest_83 : decode cX8_addTest 83 = .ok (.invokevirtual 337, 3) := by decide +kernel
theorem dX8_addTest_86 : decode cX8_addTest 86 = .ok (.aload_n 0, 1) := by decide +kernel
theorem dX8_addTest_87 : decode cX8_addTest 87 = .ok (.invokevirtual 124, 3) := by decide +kernel
theorem dX8_addTest_90 : decode cX8_addTest 90 = .ok (.iconst 1, 1) := by decide +kernel
theorem dX8_addTest_91 : decode cX8_addTest 91 = .ok (.isub, 1) := by decide +kernel
theorem dX8_addTest_92 : decode cX8_addTest 92 = .ok (.ireturn, 1) := by decide +kernel
set_option maxRecDepth 20000 in
theorem ggX8_removeTest_X8_isTest : GoodIn wsX8_removeTest wsX8_isTest := goodIn_r _ [6, 7, 8, 9, 5, 10, 11, 12, 13, 14, 15, 16, 17, 18, 19, 20, 21, 22, 23, 1, 33, 34, 35, 36, 37, 38, 39, 40, 41, 42, 43, 44, 45, 46, 47, 48, 49, 50, 51, 52, 53, 54, 55] (by decide +kernel) (by decide +kernel)
set_option maxRecDepth 20000 in
theorem gX8_removeTest_X8_isTest : GoodIn wsX8_removeTest (wsV RX8 295 RX8 yX8_isTest wsX8_isTest) := goodIn_app (goodIn_of _ (by decide +kernel)) ggX8_removeTest_X8_isTest
set_option maxRecDepth 20000 in
theorem ggX8_removeTest_X8_change : GoodIn wsX8_removeTest wsX8_change := goodIn_r _ [27, 16, 15, 28, 11, 12, 13, 5, 14, 33, 34, 35, 36, 37, 38, 39, 40, 41, 42, 43, 44, 45, 46, 47, 48, 49, 50, 51, 52, 53, 54, 55] (by decide +kernel) (by decide +kernel)
set_option maxRecDepth 20000 in
theorem gX8_removeTest_X8_change : GoodIn wsX8_removeTest (wsV RX8 268 RX8 yX8_change wsX8_change) := goodIn_app (goodIn_of _ (by decide +kernel)) ggX8_removeTest_X8_change
set_option maxRecDepth 20000 in
theorem ggX8_removeTest_X8_tests : GoodIn wsX8_removeTest wsX8_tests := goodIn_r _ [10, 11, 12, 13, 5, 14, 15, 16, 33, 34, 35, 36, 37, 38, 39, 40, 41, 42, 43, 44, 45, 46, 47, 48, 49, 50, 51, 52, 53, 54, 55] (by decide +kernel) (by decide +kernel)
set_option maxRecDepth 20000 in
theorem gX8_removeTest_X8_tests : GoodIn wsX8_removeTest (wsV RX8 124 RX8 yX8_tests wsX8_tests) := goodIn_app (goodIn_of _ (by decide +kernel)) ggX8_removeTest_X8_tests
set_option maxRecDepth 20000 in
theorem ggX8_removeTest_X8_get : GoodIn wsX8_removeTest wsX8_get := goodIn_r _ [14, 15, 16, 33, 34, 35, 36, 37, 38, 39, 40, 41, 42, 43, 44, 45, 46, 47, 48, 49, 50, 51, 52, 53, 54, 55] (by decide +kernel) (by decide +kernel)
set_option maxRecDepth 20000 in
theorem gX8_removeTest_X8_get : GoodIn wsX8_removeTest (wsV RX8 67 RX8 yX8_get wsX8_get) := goodIn_app (goodIn_of _ (by decide +kernel)) ggX8_removeTest_X8_get
set_option maxRecDepth 20000 in
theorem ggX8_removeTest_X8_put : GoodIn wsX8_removeTest wsX8_put := goodIn_r _ [32, 15, 16, 33, 34, 35, 36, 37, 38, 39, 40, 41, 42, 43, 44, 45, 46, 47, 48, 49, 50, 51, 52, 53, 54, 55] (by decide +kernel) (by decide +kernel)
set_option maxRecDepth 20000 in
theorem gX8_removeTest_X8_put : GoodIn wsX8_removeTest (wsV RX8 57 RX8 yX8_put wsX8_put) := goodIn_app (goodIn_of _ (by decide +kernel)) ggX8_removeTest_X8_put
theorem dX8_removeTest_0 : decode cX8_removeTest 0 = .ok (.aload_n 0, 1) := by decide +kernel
theorem dX8_removeTest_1 : decode cX8_removeTest 1 = .ok (.iconst 0, 1) := by decide +kernel
theorem dX8_removeTest_2 : decode cX8_removeTest 2 = .ok (.putfield 61, 3) := by decide +kernel
theorem dX8_removeTest_5 : decode cX8_removeTest 5 = .ok (.aload_n 0, 1) := by decide +kernel
theorem dX8_removeTest_6 : decode cX8_removeTest 6 = .ok (.iload_n 1, 1) := by decide +kernel
theorem dX8_removeTest_7 : decode cX8_removeTest 7 = .ok (.invokevirtual 295, 3) := by decide +kernel
theorem dX8_removeTest_10 : decode cX8_removeTest 10 = .ok (.ifCond .ne 5, 3) := by decide +kernel
theorem dX8_removeTest_13 : decode cX8_removeTest 13 = .ok (.iconst 0, 1) := by decide +kernel
theorem dX8_removeTest_14 : decode cX8_removeTest 14 = .ok (.ireturn, 1) := by decide +kernel
theorem dX8_removeTest_15 : decode cX8_removeTest 15 = .ok (.aload_n 0, 1) := by decide +kernel
theorem dX8_removeTest_16 : decode cX8_removeTest 16 = .ok (.invokevirtual 268, 3) := by decide +kernel
theorem dX8_removeTest_19 : decode cX8_removeTest 19 = .ok (.iload_n 1, 1) := by decide +kernel
theorem dX8_removeTest_20 : decode cX8_removeTest 20 = .ok (.istore_n 2, 1) := by decide +kernel
theorem dX8_removeTest_21 : decode cX8_removeTest 21 = .ok (.iload_n 2, 1) := by decide +kernel
theorem dX8_removeTest_22 : decode cX8_removeTest 22 = .ok (.iconst 1, 1) := by decide +kernel
theorem dX8_removeTest_23 : decode cX8_removeTest 23 = .ok (.iadd, 1) := by decide +kernel
theorem dX8_removeTest_24 : decode cX8_removeTest 24 = .ok (.aload_n 0, 1) := by decide +kernel
theorem dX8_removeTest_25 : decode cX8_removeTest 25 = .ok (.invokevirtual 124, 3) := by decide +kernel
theorem dX8_removeTest_28 : decode cX8_removeTest 28 = .ok (.if_icmp .ge 99, 3) := by decide +kernel
theorem dX8_removeTest_31 : decode cX8_removeTest 31 = .ok (.iconst 0, 1) := by decide +kernel
theorem dX8_removeTest_32 : decode cX8_removeTest 32 = .ok (.istore_n 3, 1) := by decide +kernel
theorem dX8_removeTest_33 : decode cX8_removeTest 33 = .ok (.iload_n 3, 1) := by decide +kernel
theorem dX8_removeTest_34 : decode cX8_removeTest 34 = .ok (.bipush 8, 2) := by decide +kernel
theorem dX8_removeTest_36 : decode cX8_removeTest 36 = .ok (.if_icmp .ge 40, 3) := by decide +kernel
theorem dX8_removeTest_39 : decode cX8_removeTest 39 = .ok (.aload_n 0, 1) := by decide +kernel
theorem dX8_removeTest_40 : decode cX8_removeTest 40 = .ok (.sipush 182, 3) := by decide +kernel
theorem dX8_removeTest_43 : decode cX8_removeTest 43 = .ok (.bipush 8, 2) := by decide +kernel
theorem dX8_removeTest_45 : decode cX8_removeTest 45 = .ok (.iload_n 2, 1) := by decide +kernel
theorem dX8_removeTest_46 : decode cX8_removeTest 46 = .ok (.imul, 1) := by decide +kernel
theorem dX8_removeTest_47 : decode cX8_removeTest 47 = .ok (.iadd, 1) := by decide +kernel
theorem dX8_removeTest_48 : decode cX8_removeTest 48 = .ok (.iload_n 3, 1) := by decide +kernel
theorem dX8_removeTest_49 : decode cX8_removeTest 49 = .ok (.iadd, 1) := by decide +kernel
theorem dX8_removeTest_50 : decode cX8_removeTest 50 = .ok (.aload_n 0, 1) := by decide +kernel
theorem dX8_removeTest_51 : decode cX8_removeTest 51 = .ok (.sipush 182, 3) := by decide +kernel
theorem dX8_removeTest_54 : decode cX8_removeTest 54 = .ok (.bipush 8, 2) := by decide +kernel
theorem dX8_removeTest_56 : decode cX8_removeTest 56 = .ok (.iload_n 2, 1) := by decide +kernel
theorem dX8_removeTest_57 : decode cX8_removeTest 57 = .ok (.imul, 1) := by decide +kernel
theorem dX8_removeTest_58 : decode cX8_removeTest 58 = .ok (.iadd, 1) := by decide +kernel
theorem dX8_removeTest_59 : decode cX8_removeTest 59 = .ok (.bipush 8, 2) := by decide +kernel
theorem dX8_removeTest_61 : decode cX8_removeTest 61 = .ok (.iadd, 1) := by decide +kernel
theorem dX8_removeTest_62 : decode cX8_removeTest 62 = .ok (.iload_n 3, 1) := by decide +kernel
theorem dX8_removeTest_63 : decode cX8_removeTest 63 = .ok (.iadd, 1) := by decide +kernel
theorem dX8_removeTest_64 : decode cX8_removeTest 64 = .ok (.invokevirtual 67, 3) := by decide +kernel
theorem dX8_removeTest_67 : decode cX8_removeTest 67 = .ok (.invokevirtual 57, 3) := by decide +kernel
theorem dX8_removeTest_70 : decode cX8_removeTest 70 = .ok (.iinc 3 1, 3) := by decide +kernel
theorem dX8_removeTest_73 : decode cX8_removeTest 73 = .ok (.goto (-40), 3) := by decide +kernel
theorem dX8_removeTest_76 : decode cX8_removeTest 76 = .ok (.iconst 0, 1) := by decide +kernel
theorem dX8_removeTest_77 : decode cX8_removeTest 77 = .ok (.istore_n 3, 1) := by decide +kernel
theorem dX8_removeTest_78 : decode cX8_removeTest 78 = .ok (.iload_n 3, 1) := by decide +kernel
theorem dX8_removeTest_79 : decode cX8_removeTest 79 = .ok (.bipush 6, 2) := by decide +kernel
theorem dX8_removeTest_81 : decode cX8_removeTest 81 = .ok (.if_icmp .ge 40, 3) := by decide +kernel
theorem dX8_removeTest_84 : decode cX8_removeTest 84 = .ok (.aload_n 0, 1) := by decide +kernel
theorem dX8_removeTest_85 : decode cX8_removeTest 85 = .ok (.sipush 310, 3) := by decide +kernel
theorem dX8_removeTest_88 : decode cX8_removeTest 88 = .ok (.bipush 6, 2) := by decide +kernel
theorem dX8_removeTest_90 : decode cX8_removeTest 90 = .ok (.iload_n 2, 1) := by decide +kernel
theorem dX8_removeTest_91 : decode cX8_removeTest 91 = .ok (.imul, 1) := by decide +kernel
theorem dX8_removeTest_92 : decode cX8_removeTest 92 = .ok (.iadd, 1) := by decide +kernel
theorem dX8_removeTest_93 : decode cX8_removeTest 93 = .ok (.iload_n 3, 1) := by decide +kernel
theorem dX8_removeTest_94 : decode cX8_removeTest 94 = .ok (.iadd, 1) := by decide +kernel
theorem dX8_removeTest_95 : decode cX8_removeTest 95 = .ok (.aload_n 0, 1) := by decide +kernel
theorem dX8_removeTest_96 : decode cX8_removeTest 96 = .ok (.sipush 310, 3) := by decide +kernel
theorem dX8_removeTest_99 : decode cX8_removeTest 99 = .ok (.bipush 6, 2) := by decide +kernel
theorem dX8_removeTest_101 : decode cX8_removeTest 101 = .ok (.iload_n 2, 1) := by decide +kernel
theorem dX8_removeTest_102 : decode cX8_removeTest 102 = .ok (.imul, 1) := by decide +kernel
theorem dX8_removeTest_103 : decode cX8_removeTest 103 = .ok (.iadd, 1) := by decide +kernel
theorem dX8_removeTest_104 : decode cX8_removeTest 104 = .ok (.bipush 6, 2) := by decide +kernel
theorem dX8_removeTest_106 : decode cX8_removeTest 106 = .ok (.iadd, 1) := by decide +kernel
theorem dX8_removeTest_107 : decode cX8_removeTest 107 = .ok (.iload_n 3, 1) := by decide +kernel
theorem dX8_removeTest_108 : decode cX8_removeTest 108 = .ok (.iadd, 1) := by decide +kernel
theorem dX8_removeTest_109 : decode cX8_removeTest 109 = .ok (.invokevirtual 67, 3) := by decide +kernel
theorem dX8_removeTest_112 : decode cX8_removeTest 112 = .ok (.invokevirtual 57, 3) := by decide +kernel
theorem dX8_removeTest_115 : decode cX8_removeTest 115 = .ok (.iinc 3 1, 3) := by decide +kernel
theorem dX8_removeTest_118 : decode cX8_removeTest 118 = .ok (.goto (-40), 3) := by decide +kernel
theorem dX8_removeTest_121 : decode cX8_removeTest 121 = .ok (.iinc 2 1, 3) := by decide +kernel
theorem dX8_removeTest_124 : decode cX8_removeTest 124 = .ok (.goto (-103), 3) := by decide +kernel
theorem dX8_removeTest_127 : decode cX8_removeTest 127 = .ok (.aload_n 0, 1) := by decide +kernel
theorem dX8_removeTest_128 : decode cX8_removeTest 128 = .ok (.iconst 4, 1) := by decide +kernel
theorem dX8_removeTest_129 : decode cX8_removeTest 129 = .ok (.aload_n 0, 1) := by decide +kernel
theorem dX8_removeTest_130 : decode cX8_removeTest 130 = .ok (.invokevirtual 124, 3) := by decide +kernel
theorem dX8_removeTest_133 : decode cX8_removeTest 133 = .ok (.iconst 1, 1) := by decide +kernel
theorem dX8_removeTest_134 : decode cX8_removeTest 134 = .ok (.isub, 1) := by decide +kernel
theorem dX8_removeTest_135 : decode cX8_removeTest 135 = .ok (.invokevirtual 57, 3) := by decide +kernel
theorem dX8_removeTest_138 : decode cX8_removeTest 138 = .ok (.aload_n 0, 1) := by decide +kernel
theorem dX8_removeTest_139 : decode cX8_removeTest 139 = .ok (.invokevirtual 124, 3) := by decide +kernel
theorem dX8_removeTest_142 : decode cX8_removeTest 142 = .ok (.ireturn, 1) := by decide +kernel
set_option maxRecDepth 20000 in
theorem ggX8_setKind_X8_isWire : GoodIn wsX8_setKind wsX8_isWire := goodIn_r _ [6, 7, 8, 9, 5, 10, 11, 12, 13, 14, 15, 16, 17, 18, 19, 20, 21, 22, 23, 1, 51, 52, 53, 54, 55, 56, 57, 58, 59, 60, 61, 62, 63, 64, 65, 66, 67, 68, 69, 70, 71, 72, 73] (by decide +kernel) (by decide +kernel)
set_option maxRecDepth 20000 in
theorem gX8_setKind_X8_isWire : GoodIn wsX8_setKind (wsV RX8 289 RX8 yX8_isWire wsX8_isWire) := goodIn_app (goodIn_of _ (by decide +kernel)) ggX8_setKind_X8_isWire
set_option maxRecDepth 20000 in
theorem ggX8_setKind_X8_inputs : GoodIn wsX8_setKind wsX8_inputs := goodIn_r _ [27, 11, 12, 13, 5, 14, 15, 16, 51, 52, 53, 54, 55, 56, 57, 58, 59, 60, 61, 62, 63, 64, 65, 66, 67, 68, 69, 70, 71, 72, 73] (by decide +kernel) (by decide +kernel)
set_option maxRecDepth 20000 in
theorem gX8_setKind_X8_inputs : GoodIn wsX8_setKind (wsV RX8 78 RX8 yX8_inputs wsX8_inputs) := goodIn_app (goodIn_of _ (by decide +kernel)) ggX8_setKind_X8_inputs
set_option maxRecDepth 20000 in
theorem ggX8_setKind_X8_isIn : GoodIn wsX8_setKind wsX8_isIn := goodIn_r _ [19] (by decide +kernel) (by decide +kernel)
set_option maxRecDepth 20000 in
theorem gX8_setKind_X8_isIn : GoodIn wsX8_setKind (va_wsS RX8 187 yX8_isIn wsX8_isIn) := goodIn_app (goodIn_of _ (by decide +kernel)) ggX8_setKind_X8_isIn
set_option maxRecDepth 20000 in
theorem ggX8_setKind_X8_right : GoodIn wsX8_setKind wsX8_right := goodIn_r _ [23, 1, 51, 52, 53, 54, 55, 56, 57, 58, 59, 60, 61, 62, 63, 64, 65, 66, 67, 68, 69, 70, 71, 72, 73] (by decide +kernel) (by decide +kernel)
set_option maxRecDepth 20000 in
theorem gX8_setKind_X8_right : GoodIn wsX8_setKind (wsV RX8 261 RX8 yX8_right wsX8_right) := goodIn_app (goodIn_of _ (by decide +kernel)) ggX8_setKind_X8_right
set_option maxRecDepth 20000 in
theorem ggX8_setKind_X8_have : GoodIn wsX8_setKind wsX8_have := goodIn_r _ [31, 11, 12, 13, 5, 14, 15, 16, 51, 52, 53, 54, 55, 56, 57, 58, 59, 60, 61, 62, 63, 64, 65, 66, 67, 68, 69, 70, 71, 72, 73] (by decide +kernel) (by decide +kernel)
set_option maxRecDepth 20000 in
theorem gX8_setKind_X8_have : GoodIn wsX8_setKind (wsV RX8 81 RX8 yX8_have wsX8_have) := goodIn_app (goodIn_of _ (by decide +kernel)) ggX8_setKind_X8_have
set_option maxRecDepth 20000 in
theorem ggX8_setKind_X8_fewest : GoodIn wsX8_setKind wsX8_fewest := goodIn_r _ [34] (by decide +kernel) (by decide +kernel)
set_option maxRecDepth 20000 in
theorem gX8_setKind_X8_fewest : GoodIn wsX8_setKind (va_wsS RX8 219 yX8_fewest wsX8_fewest) := goodIn_app (goodIn_of _ (by decide +kernel)) ggX8_setKind_X8_fewest
set_option maxRecDepth 20000 in
theorem ggX8_setKind_X8_mostOf : GoodIn wsX8_setKind wsX8_mostOf := goodIn_r _ [37] (by decide +kernel) (by decide +kernel)
set_option maxRecDepth 20000 in
theorem gX8_setKind_X8_mostOf : GoodIn wsX8_setKind (va_wsS RX8 222 yX8_mostOf wsX8_mostOf) := goodIn_app (goodIn_of _ (by decide +kernel)) ggX8_setKind_X8_mostOf
set_option maxRecDepth 20000 in
theorem ggX8_setKind_X8_change : GoodIn wsX8_setKind wsX8_change := goodIn_r _ [41, 16, 15, 42, 11, 12, 13, 5, 14, 51, 52, 53, 54, 55, 56, 57, 58, 59, 60, 61, 62, 63, 64, 65, 66, 67, 68, 69, 70, 71, 72, 73] (by decide +kernel) (by decide +kernel)
set_option maxRecDepth 20000 in
theorem gX8_setKind_X8_change : GoodIn wsX8_setKind (wsV RX8 268 RX8 yX8_change wsX8_change) := goodIn_app (goodIn_of _ (by decide +kernel)) ggX8_setKind_X8_change
set_option maxRecDepth 20000 in
theorem ggX8_setKind_X8_kindOf : GoodIn wsX8_setKind wsX8_kindOf := goodIn_r _ [46, 11, 12, 13, 5, 14, 15, 16, 51, 52, 53, 54, 55, 56, 57, 58, 59, 60, 61, 62, 63, 64, 65, 66, 67, 68, 69, 70, 71, 72, 73] (by decide +kernel) (by decide +kernel)
set_option maxRecDepth 20000 in
theorem gX8_setKind_X8_kindOf : GoodIn wsX8_setKind (wsV RX8 88 RX8 yX8_kindOf wsX8_kindOf) := goodIn_app (goodIn_of _ (by decide +kernel)) ggX8_setKind_X8_kindOf
set_option maxRecDepth 20000 in
theorem ggX8_setKind_X8_put : GoodIn wsX8_setKind wsX8_put := goodIn_r _ [50, 15, 16, 51, 52, 53, 54, 55, 56, 57, 58, 59, 60, 61, 62, 63, 64, 65, 66, 67, 68, 69, 70, 71, 72, 73] (by decide +kernel) (by decide +kernel)
set_option maxRecDepth 20000 in
theorem gX8_setKind_X8_put : GoodIn wsX8_setKind (wsV RX8 57 RX8 yX8_put wsX8_put) := goodIn_app (goodIn_of _ (by decide +kernel)) ggX8_setKind_X8_put
theorem dX8_setKind_0 : decode cX8_setKind 0 = .ok (.aload_n 0, 1) := by decide +kernel
theorem dX8_setKind_1 : decode cX8_setKind 1 = .ok (.iconst 0, 1) := by decide +kernel
theorem dX8_setKind_2 : decode cX8_setKind 2 = .ok (.putfield 61, 3) := by decide +kernel
theorem dX8_setKind_5 : decode cX8_setKind 5 = .ok (.aload_n 0, 1) := by decide +kernel
theorem dX8_setKind_6 : decode cX8_setKind 6 = .ok (.iload_n 1, 1) := by decide +kernel
theorem dX8_setKind_7 : decode cX8_setKind 7 = .ok (.invokevirtual 289, 3) := by decide +kernel
theorem dX8_setKind_10 : decode cX8_setKind 10 = .ok (.ifCond .eq 58, 3) := by decide +kernel
theorem dX8_setKind_13 : decode cX8_setKind 13 = .ok (.aload_n 0, 1) := by decide +kernel
theorem dX8_setKind_14 : decode cX8_setKind 14 = .ok (.iload_n 1, 1) := by decide +kernel
theorem dX8_setKind_15 : decode cX8_setKind 15 = .ok (.aload_n 0, 1) := by decide +kernel
theorem dX8_setKind_16 : decode cX8_setKind 16 = .ok (.invokevirtual 78, 3) := by decide +kernel
theorem dX8_setKind_19 : decode cX8_setKind 19 = .ok (.if_icmp .lt 17, 3) := by decide +kernel
theorem dX8_setKind_22 : decode cX8_setKind 22 = .ok (.iload_n 2, 1) := by decide +kernel
theorem dX8_setKind_23 : decode cX8_setKind 23 = .ok (.iconst 0, 1) := by decide +kernel
theorem dX8_setKind_24 : decode cX8_setKind 24 = .ok (.bipush 8, 2) := by decide +kernel
theorem dX8_setKind_26 : decode cX8_setKind 26 = .ok (.invokestatic 187, 3) := by decide +kernel
theorem dX8_setKind_29 : decode cX8_setKind 29 = .ok (.ifCond .eq 7, 3) := by decide +kernel
theorem dX8_setKind_32 : decode cX8_setKind 32 = .ok (.iconst 1, 1) := by decide +kernel
theorem dX8_setKind_33 : decode cX8_setKind 33 = .ok (.goto 4, 3) := by decide +kernel
theorem dX8_setKind_36 : decode cX8_setKind 36 = .ok (.iconst 0, 1) := by decide +kernel
theorem dX8_setKind_37 : decode cX8_setKind 37 = .ok (.iconst 2, 1) := by decide +kernel
theorem dX8_setKind_38 : decode cX8_setKind 38 = .ok (.invokevirtual 261, 3) := by decide +kernel
theorem dX8_setKind_41 : decode cX8_setKind 41 = .ok (.ifCond .eq 27, 3) := by decide +kernel
theorem dX8_setKind_44 : decode cX8_setKind 44 = .ok (.aload_n 0, 1) := by decide +kernel
theorem dX8_setKind_45 : decode cX8_setKind 45 = .ok (.aload_n 0, 1) := by decide +kernel
theorem dX8_setKind_46 : decode cX8_setKind 46 = .ok (.iload_n 1, 1) := by decide +kernel
theorem dX8_setKind_47 : decode cX8_setKind 47 = .ok (.invokevirtual 81, 3) := by decide +kernel
theorem dX8_setKind_50 : decode cX8_setKind 50 = .ok (.iload_n 2, 1) := by decide +kernel
theorem dX8_setKind_51 : decode cX8_setKind 51 = .ok (.invokestatic 219, 3) := by decide +kernel
theorem dX8_setKind_54 : decode cX8_setKind 54 = .ok (.iload_n 2, 1) := by decide +kernel
theorem dX8_setKind_55 : decode cX8_setKind 55 = .ok (.invokestatic 222, 3) := by decide +kernel
theorem dX8_setKind_58 : decode cX8_setKind 58 = .ok (.invokestatic 187, 3) := by decide +kernel
theorem dX8_setKind_61 : decode cX8_setKind 61 = .ok (.iconst 2, 1) := by decide +kernel
theorem dX8_setKind_62 : decode cX8_setKind 62 = .ok (.invokevirtual 261, 3) := by decide +kernel
theorem dX8_setKind_65 : decode cX8_setKind 65 = .ok (.ifCond .ne 5, 3) := by decide +kernel
theorem dX8_setKind_68 : decode cX8_setKind 68 = .ok (.iconst 0, 1) := by decide +kernel
theorem dX8_setKind_69 : decode cX8_setKind 69 = .ok (.ireturn, 1) := by decide +kernel
theorem dX8_setKind_70 : decode cX8_setKind 70 = .ok (.aload_n 0, 1) := by decide +kernel
theorem dX8_setKind_71 : decode cX8_setKind 71 = .ok (.invokevirtual 268, 3) := by decide +kernel
theorem dX8_setKind_74 : decode cX8_setKind 74 = .ok (.aload_n 0, 1) := by decide +kernel
theorem dX8_setKind_75 : decode cX8_setKind 75 = .ok (.iload_n 1, 1) := by decide +kernel
theorem dX8_setKind_76 : decode cX8_setKind 76 = .ok (.invokevirtual 88, 3) := by decide +kernel
theorem dX8_setKind_79 : decode cX8_setKind 79 = .ok (.istore_n 3, 1) := by decide +kernel
theorem dX8_setKind_80 : decode cX8_setKind 80 = .ok (.aload_n 0, 1) := by decide +kernel
theorem dX8_setKind_81 : decode cX8_setKind 81 = .ok (.bipush 8, 2) := by decide +kernel
theorem dX8_setKind_83 : decode cX8_setKind 83 = .ok (.iload_n 1, 1) := by decide +kernel
theorem dX8_setKind_84 : decode cX8_setKind 84 = .ok (.iadd, 1) := by decide +kernel
theorem dX8_setKind_85 : decode cX8_setKind 85 = .ok (.iload_n 2, 1) := by decide +kernel
theorem dX8_setKind_86 : decode cX8_setKind 86 = .ok (.invokevirtual 57, 3) := by decide +kernel
theorem dX8_setKind_89 : decode cX8_setKind 89 = .ok (.iload_n 3, 1) := by decide +kernel
theorem dX8_setKind_90 : decode cX8_setKind 90 = .ok (.ireturn, 1) := by decide +kernel
set_option maxRecDepth 20000 in
theorem ggX8_see_X8_isTest : GoodIn wsX8_see wsX8_isTest := goodIn_r _ [6, 7, 8, 9, 5, 10, 11, 12, 13, 14, 15, 16, 17, 18, 19, 20, 21, 22, 23, 1, 107, 108, 109, 110, 111, 112, 113, 114, 115, 116, 117, 118, 119, 120, 121, 122, 123, 124, 125, 126, 127, 128, 129] (by decide +kernel) (by decide +kernel)
set_option maxRecDepth 20000 in
theorem gX8_see_X8_isTest : GoodIn wsX8_see (wsV RX8 295 RX8 yX8_isTest wsX8_isTest) := goodIn_app (goodIn_of _ (by decide +kernel)) ggX8_see_X8_isTest
set_option maxRecDepth 20000 in
theorem ggX8_see_X8_outputs : GoodIn wsX8_see wsX8_outputs := goodIn_r _ [27, 11, 12, 13, 5, 14, 15, 16, 107, 108, 109, 110, 111, 112, 113, 114, 115, 116, 117, 118, 119, 120, 121, 122, 123, 124, 125, 126, 127, 128, 129] (by decide +kernel) (by decide +kernel)
set_option maxRecDepth 20000 in
theorem gX8_see_X8_outputs : GoodIn wsX8_see (wsV RX8 109 RX8 yX8_outputs wsX8_outputs) := goodIn_app (goodIn_of _ (by decide +kernel)) ggX8_see_X8_outputs
set_option maxRecDepth 20000 in
theorem ggX8_see_X8_isIn : GoodIn wsX8_see wsX8_isIn := goodIn_r _ [19] (by decide +kernel) (by decide +kernel)
set_option maxRecDepth 20000 in
theorem gX8_see_X8_isIn : GoodIn wsX8_see (va_wsS RX8 187 yX8_isIn wsX8_isIn) := goodIn_app (goodIn_of _ (by decide +kernel)) ggX8_see_X8_isIn
set_option maxRecDepth 20000 in
theorem ggX8_see_X8_right : GoodIn wsX8_see wsX8_right := goodIn_r _ [23, 1, 107, 108, 109, 110, 111, 112, 113, 114, 115, 116, 117, 118, 119, 120, 121, 122, 123, 124, 125, 126, 127, 128, 129] (by decide +kernel) (by decide +kernel)
set_option maxRecDepth 20000 in
theorem gX8_see_X8_right : GoodIn wsX8_see (wsV RX8 261 RX8 yX8_right wsX8_right) := goodIn_app (goodIn_of _ (by decide +kernel)) ggX8_see_X8_right
set_option maxRecDepth 20000 in
theorem ggX8_see_X8_change : GoodIn wsX8_see wsX8_change := goodIn_r _ [31, 16, 15, 32, 11, 12, 13, 5, 14, 107, 108, 109, 110, 111, 112, 113, 114, 115, 116, 117, 118, 119, 120, 121, 122, 123, 124, 125, 126, 127, 128, 129] (by decide +kernel) (by decide +kernel)
set_option maxRecDepth 20000 in
theorem gX8_see_X8_change : GoodIn wsX8_see (wsV RX8 268 RX8 yX8_change wsX8_change) := goodIn_app (goodIn_of _ (by decide +kernel)) ggX8_see_X8_change
set_option maxRecDepth 20000 in
theorem ggX8_see_X8_put : GoodIn wsX8_see wsX8_put := goodIn_r _ [36, 15, 16, 107, 108, 109, 110, 111, 112, 113, 114, 115, 116, 117, 118, 119, 120, 121, 122, 123, 124, 125, 126, 127, 128, 129] (by decide +kernel) (by decide +kernel)
set_option maxRecDepth 20000 in
theorem gX8_see_X8_put : GoodIn wsX8_see (wsV RX8 57 RX8 yX8_put wsX8_put) := goodIn_app (goodIn_of _ (by decide +kernel)) ggX8_see_X8_put
set_option maxRecDepth 20000 in
theorem ggX8_see_X8_fitting : GoodIn wsX8_see wsX8_fitting := goodIn_r _ [40, 41, 42, 43, 44, 5, 45, 46, 47, 48, 49, 11, 12, 13, 14, 15, 16, 7, 8, 9, 10, 50, 51, 52, 53, 54, 55, 56, 57, 58, 59, 60, 61, 62, 63, 64, 65, 66, 67, 68, 69, 70, 71, 72, 73, 74, 75, 76, 77, 78, 79, 80, 81, 82, 83, 84, 85, 86, 87, 88, 89, 90, 91, 92, 93, 94, 95, 96, 97, 98, 24, 25, 26, 27, 99, 100, 101, 102, 103, 104, 105, 106, 107, 108, 109, 110, 111, 112, 113, 114, 115, 116, 117, 118, 119, 120, 121, 122, 123, 124, 125, 126, 127, 128, 129] (by decide +kernel) (by decide +kernel)
set_option maxRecDepth 20000 in
theorem gX8_see_X8_fitting : GoodIn wsX8_see (wsV RX8 331 RX8 yX8_fitting wsX8_fitting) := goodIn_app (goodIn_of _ (by decide +kernel)) ggX8_see_X8_fitting
theorem dX8_see_0 : decode cX8_see 0 = .ok (.aload_n 0, 1) := by decide +kernel
theorem dX8_see_1 : decode cX8_see 1 = .ok (.iconst 0, 1) := by decide +kernel
theorem dX8_see_2 : decode cX8_see 2 = .ok (.putfield 61, 3) := by decide +kernel
theorem dX8_see_5 : decode cX8_see 5 = .ok (.aload_n 0, 1) := by decide +kernel
theorem dX8_see_6 : decode cX8_see 6 = .ok (.iload_n 1, 1) := by decide +kernel
theorem dX8_see_7 : decode cX8_see 7 = .ok (.invokevirtual 295, 3) := by decide +kernel
theorem dX8_see_10 : decode cX8_see 10 = .ok (.ifCond .eq 36, 3) := by decide +kernel
theorem dX8_see_13 : decode cX8_see 13 = .ok (.aload_n 0, 1) := by decide +kernel
theorem dX8_see_14 : decode cX8_see 14 = .ok (.iload_n 2, 1) := by decide +kernel
theorem dX8_see_15 : decode cX8_see 15 = .ok (.iconst 0, 1) := by decide +kernel
theorem dX8_see_16 : decode cX8_see 16 = .ok (.aload_n 0, 1) := by decide +kernel
theorem dX8_see_17 : decode cX8_see 17 = .ok (.invokevirtual 109, 3) := by decide +kernel
theorem dX8_see_20 : decode cX8_see 20 = .ok (.iconst 1, 1) := by decide +kernel
theorem dX8_see_21 : decode cX8_see 21 = .ok (.isub, 1) := by decide +kernel
theorem dX8_see_22 : decode cX8_see 22 = .ok (.invokestatic 187, 3) := by decide +kernel
theorem dX8_see_25 : decode cX8_see 25 = .ok (.iconst 1, 1) := by decide +kernel
theorem dX8_see_26 : decode cX8_see 26 = .ok (.invokevirtual 261, 3) := by decide +kernel
theorem dX8_see_29 : decode cX8_see 29 = .ok (.ifCond .eq 17, 3) := by decide +kernel
theorem dX8_see_32 : decode cX8_see 32 = .ok (.aload_n 0, 1) := by decide +kernel
theorem dX8_see_33 : decode cX8_see 33 = .ok (.iload_n 3, 1) := by decide +kernel
theorem dX8_see_34 : decode cX8_see 34 = .ok (.iconst 0, 1) := by decide +kernel
theorem dX8_see_35 : decode cX8_see 35 = .ok (.iconst 2, 1) := by decide +kernel
theorem dX8_see_36 : decode cX8_see 36 = .ok (.invokestatic 187, 3) := by decide +kernel
theorem dX8_see_39 : decode cX8_see 39 = .ok (.iconst 2, 1) := by decide +kernel
theorem dX8_see_40 : decode cX8_see 40 = .ok (.invokevirtual 261, 3) := by decide +kernel
theorem dX8_see_43 : decode cX8_see 43 = .ok (.ifCond .ne 5, 3) := by decide +kernel
theorem dX8_see_46 : decode cX8_see 46 = .ok (.iconst 0, 1) := by decide +kernel
theorem dX8_see_47 : decode cX8_see 47 = .ok (.ireturn, 1) := by decide +kernel
theorem dX8_see_48 : decode cX8_see 48 = .ok (.aload_n 0, 1) := by decide +kernel
theorem dX8_see_49 : decode cX8_see 49 = .ok (.invokevirtual 268, 3) := by decide +kernel
theorem dX8_see_52 : decode cX8_see 52 = .ok (.aload_n 0, 1) := by decide +kernel
theorem dX8_see_53 : decode cX8_see 53 = .ok (.sipush 310, 3) := by decide +kernel
theorem dX8_see_56 : decode cX8_see 56 = .ok (.bipush 6, 2) := by decide +kernel
theorem dX8_see_58 : decode cX8_see 58 = .ok (.iload_n 1, 1) := by decide +kernel
theorem dX8_see_59 : decode cX8_see 59 = .ok (.imul, 1) := by decide +kernel
theorem dX8_see_60 : decode cX8_see 60 = .ok (.iadd, 1) := by decide +kernel
theorem dX8_see_61 : decode cX8_see 61 = .ok (.iload_n 2, 1) := by decide +kernel
theorem dX8_see_62 : decode cX8_see 62 = .ok (.iadd, 1) := by decide +kernel
theorem dX8_see_63 : decode cX8_see 63 = .ok (.iload_n 3, 1) := by decide +kernel
theorem dX8_see_64 : decode cX8_see 64 = .ok (.invokevirtual 57, 3) := by decide +kernel
theorem dX8_see_67 : decode cX8_see 67 = .ok (.aload_n 0, 1) := by decide +kernel
theorem dX8_see_68 : decode cX8_see 68 = .ok (.invokevirtual 331, 3) := by decide +kernel
theorem dX8_see_71 : decode cX8_see 71 = .ok (.ireturn, 1) := by decide +kernel
set_option maxRecDepth 20000 in
theorem ggX8_forget_X8_change : GoodIn wsX8_forget wsX8_change := goodIn_r _ [6, 7, 8, 9, 10, 11, 12, 5, 13, 34, 35, 36, 37, 38, 39, 40, 41, 42, 43, 44, 45, 46, 47, 48, 49, 50, 51, 52, 53, 54, 55, 56] (by decide +kernel) (by decide +kernel)
set_option maxRecDepth 20000 in
theorem gX8_forget_X8_change : GoodIn wsX8_forget (wsV RX8 268 RX8 yX8_change wsX8_change) := goodIn_app (goodIn_of _ (by decide +kernel)) ggX8_forget_X8_change
set_option maxRecDepth 20000 in
theorem ggX8_forget_X8_seenMany : GoodIn wsX8_forget wsX8_seenMany := goodIn_r _ [17, 18, 19, 20, 5, 21, 10, 11, 12, 13, 8, 7, 22, 23, 24, 25, 26, 27, 28, 29, 34, 35, 36, 37, 38, 39, 40, 41, 42, 43, 44, 45, 46, 47, 48, 49, 50, 51, 52, 53, 54, 55, 56] (by decide +kernel) (by decide +kernel)
set_option maxRecDepth 20000 in
theorem gX8_forget_X8_seenMany : GoodIn wsX8_forget (wsV RX8 271 RX8 yX8_seenMany wsX8_seenMany) := goodIn_app (goodIn_of _ (by decide +kernel)) ggX8_forget_X8_seenMany
set_option maxRecDepth 20000 in
theorem ggX8_forget_X8_put : GoodIn wsX8_forget wsX8_put := goodIn_r _ [33, 8, 7, 34, 35, 36, 37, 38, 39, 40, 41, 42, 43, 44, 45, 46, 47, 48, 49, 50, 51, 52, 53, 54, 55, 56] (by decide +kernel) (by decide +kernel)
set_option maxRecDepth 20000 in
theorem gX8_forget_X8_put : GoodIn wsX8_forget (wsV RX8 57 RX8 yX8_put wsX8_put) := goodIn_app (goodIn_of _ (by decide +kernel)) ggX8_forget_X8_put
theorem dX8_forget_0 : decode cX8_forget 0 = .ok (.aload_n 0, 1) := by decide +kernel
theorem dX8_forget_1 : decode cX8_forget 1 = .ok (.iconst 0, 1) := by decide +kernel
theorem dX8_forget_2 : decode cX8_forget 2 = .ok (.putfield 61, 3) := by decide +kernel
theorem dX8_forget_5 : decode cX8_forget 5 = .ok (.aload_n 0, 1) := by decide +kernel
theorem dX8_forget_6 : decode cX8_forget 6 = .ok (.invokevirtual 268, 3) := by decide +kernel
theorem dX8_forget_9 : decode cX8_forget 9 = .ok (.aload_n 0, 1) := by decide +kernel
theorem dX8_forget_10 : decode cX8_forget 10 = .ok (.invokevirtual 271, 3) := by decide +kernel
theorem dX8_forget_13 : decode cX8_forget 13 = .ok (.istore_n 1, 1) := by decide +kernel
theorem dX8_forget_14 : decode cX8_forget 14 = .ok (.iconst 0, 1) := by decide +kernel
theorem dX8_forget_15 : decode cX8_forget 15 = .ok (.istore_n 2, 1) := by decide +kernel
theorem dX8_forget_16 : decode cX8_forget 16 = .ok (.iload_n 2, 1) := by decide +kernel
theorem dX8_forget_17 : decode cX8_forget 17 = .ok (.bipush 96, 2) := by decide +kernel
theorem dX8_forget_19 : decode cX8_forget 19 = .ok (.if_icmp .ge 19, 3) := by decide +kernel
theorem dX8_forget_22 : decode cX8_forget 22 = .ok (.aload_n 0, 1) := by decide +kernel
theorem dX8_forget_23 : decode cX8_forget 23 = .ok (.sipush 310, 3) := by decide +kernel
theorem dX8_forget_26 : decode cX8_forget 26 = .ok (.iload_n 2, 1) := by decide +kernel
theorem dX8_forget_27 : decode cX8_forget 27 = .ok (.iadd, 1) := by decide +kernel
theorem dX8_forget_28 : decode cX8_forget 28 = .ok (.iconst 2, 1) := by decide +kernel
theorem dX8_forget_29 : decode cX8_forget 29 = .ok (.invokevirtual 57, 3) := by decide +kernel
theorem dX8_forget_32 : decode cX8_forget 32 = .ok (.iinc 2 1, 3) := by decide +kernel
theorem dX8_forget_35 : decode cX8_forget 35 = .ok (.goto (-19), 3) := by decide +kernel
theorem dX8_forget_38 : decode cX8_forget 38 = .ok (.iload_n 1, 1) := by decide +kernel
theorem dX8_forget_39 : decode cX8_forget 39 = .ok (.ireturn, 1) := by decide +kernel
set_option maxRecDepth 20000 in
theorem ggX8_complete_X8_change : GoodIn wsX8_complete wsX8_change := goodIn_r _ [8, 9, 10, 11, 12, 13, 14, 7, 15, 109, 110, 111, 112, 113, 114, 115, 116, 117, 118, 119, 120, 121, 122, 123, 124, 125, 126, 127, 128, 129, 130, 131] (by decide +kernel) (by decide +kernel)
set_option maxRecDepth 20000 in
theorem gX8_complete_X8_change : GoodIn wsX8_complete (wsV RX8 268 RX8 yX8_change wsX8_change) := goodIn_app (goodIn_of _ (by decide +kernel)) ggX8_complete_X8_change
set_option maxRecDepth 20000 in
theorem ggX8_complete_X8_lays : GoodIn wsX8_complete wsX8_lays := goodIn_r _ [19, 3, 20, 21, 22, 23, 24, 7, 25, 26, 27, 28, 29, 12, 13, 14, 15, 10, 9, 30, 31, 32, 33, 34, 35, 36, 37, 38, 39, 40, 41, 42, 43, 44, 45, 46, 47, 48, 49, 50, 51, 52, 53, 54, 55, 56, 57, 58, 59, 60, 61, 62, 63, 64, 65, 66, 67, 68, 69, 70, 71, 72, 73, 74, 75, 76, 77, 78, 79, 80, 81, 82, 83, 84, 109, 110, 111, 112, 113, 114, 115, 116, 117, 118, 119, 120, 121, 122, 123, 124, 125, 126, 127, 128, 129, 130, 131] (by decide +kernel) (by decide +kernel)
set_option maxRecDepth 20000 in
theorem gX8_complete_X8_lays : GoodIn wsX8_complete (wsV RX8 304 RX8 yX8_lays wsX8_lays) := goodIn_app (goodIn_of _ (by decide +kernel)) ggX8_complete_X8_lays
set_option maxRecDepth 20000 in
theorem ggX8_complete_X8_finders : GoodIn wsX8_complete wsX8_finders := goodIn_r _ [88, 2, 77, 78, 79, 7, 80, 39, 40, 41, 42, 12, 13, 14, 15, 10, 9, 89, 90, 91, 92, 93, 94, 95, 96, 34, 26, 27, 28, 29, 35, 36, 37, 38, 20, 43, 44, 45, 46, 47, 48, 49, 50, 51, 52, 53, 54, 55, 56, 57, 58, 59, 60, 61, 62, 63, 64, 97, 98, 99, 100, 21, 81, 82, 83, 84, 69, 70, 71, 72, 73, 74, 75, 76, 109, 110, 111, 112, 113, 114, 115, 116, 117, 118, 119, 120, 121, 122, 123, 124, 125, 126, 127, 128, 129, 130, 131] (by decide +kernel) (by decide +kernel)
set_option maxRecDepth 20000 in
theorem gX8_complete_X8_finders : GoodIn wsX8_complete (wsV RX8 127 RX8 yX8_finders wsX8_finders) := goodIn_app (goodIn_of _ (by decide +kernel)) ggX8_complete_X8_finders
set_option maxRecDepth 20000 in
theorem ggX8_complete_X8_tests : GoodIn wsX8_complete wsX8_tests := goodIn_r _ [92, 12, 13, 14, 7, 15, 10, 9, 109, 110, 111, 112, 113, 114, 115, 116, 117, 118, 119, 120, 121, 122, 123, 124, 125, 126, 127, 128, 129, 130, 131] (by decide +kernel) (by decide +kernel)
set_option maxRecDepth 20000 in
theorem gX8_complete_X8_tests : GoodIn wsX8_complete (wsV RX8 124 RX8 yX8_tests wsX8_tests) := goodIn_app (goodIn_of _ (by decide +kernel)) ggX8_complete_X8_tests
set_option maxRecDepth 20000 in
theorem ggX8_complete_X8_fulls : GoodIn wsX8_complete wsX8_fulls := goodIn_r _ [25, 26, 27, 28, 7, 29, 12, 13, 14, 15, 10, 9, 109, 110, 111, 112, 113, 114, 115, 116, 117, 118, 119, 120, 121, 122, 123, 124, 125, 126, 127, 128, 129, 130, 131] (by decide +kernel) (by decide +kernel)
set_option maxRecDepth 20000 in
theorem gX8_complete_X8_fulls : GoodIn wsX8_complete (wsV RX8 130 RX8 yX8_fulls wsX8_fulls) := goodIn_app (goodIn_of _ (by decide +kernel)) ggX8_complete_X8_fulls
set_option maxRecDepth 20000 in
theorem ggX8_complete_X8_faults : GoodIn wsX8_complete wsX8_faults := goodIn_r _ [80, 39, 40, 41, 7, 42, 12, 13, 14, 15, 10, 9, 109, 110, 111, 112, 113, 114, 115, 116, 117, 118, 119, 120, 121, 122, 123, 124, 125, 126, 127, 128, 129, 130, 131] (by decide +kernel) (by decide +kernel)
set_option maxRecDepth 20000 in
theorem gX8_complete_X8_faults : GoodIn wsX8_complete (wsV RX8 118 RX8 yX8_faults wsX8_faults) := goodIn_app (goodIn_of _ (by decide +kernel)) ggX8_complete_X8_faults
set_option maxRecDepth 20000 in
theorem ggX8_complete_X8_adds : GoodIn wsX8_complete wsX8_adds := goodIn_r _ [104, 89, 90, 91, 7, 92, 12, 13, 14, 15, 10, 9, 26, 27, 28, 29, 105, 106, 107, 108, 109, 110, 111, 112, 113, 114, 115, 116, 117, 118, 119, 120, 121, 122, 123, 124, 125, 126, 127, 128, 129, 130, 131] (by decide +kernel) (by decide +kernel)
set_option maxRecDepth 20000 in
theorem gX8_complete_X8_adds : GoodIn wsX8_complete (wsV RX8 337 RX8 yX8_adds wsX8_adds) := goodIn_app (goodIn_of _ (by decide +kernel)) ggX8_complete_X8_adds
theorem dX8_complete_0 : decode cX8_complete 0 = .ok (.aload_n 0, 1) := by decide +kernel
theorem dX8_complete_1 : decode cX8_complete 1 = .ok (.iconst 0, 1) := by decide +kernel
theorem dX8_complete_2 : decode cX8_complete 2 = .ok (.putfield 61, 3) := by decide +kernel
theorem dX8_complete_5 : decode cX8_complete 5 = .ok (.aload_n 0, 1) := by decide +kernel
theorem dX8_complete_6 : decode cX8_complete 6 = .ok (.invokevirtual 268, 3) := by decide +kernel
theorem dX8_complete_9 : decode cX8_complete 9 = .ok (.aload_n 0, 1) := by decide +kernel
theorem dX8_complete_10 : decode cX8_complete 10 = .ok (.invokevirtual 304, 3) := by decide +kernel
theorem dX8_complete_13 : decode cX8_complete 13 = .ok (.aload_n 0, 1) := by decide +kernel
theorem dX8_complete_14 : decode cX8_complete 14 = .ok (.invokevirtual 127, 3) := by decide +kernel
theorem dX8_complete_17 : decode cX8_complete 17 = .ok (.iconst 0, 1) := by decide +kernel
theorem dX8_complete_18 : decode cX8_complete 18 = .ok (.istore_n 1, 1) := by decide +kernel
theorem dX8_complete_19 : decode cX8_complete 19 = .ok (.iconst 1, 1) := by decide +kernel
theorem dX8_complete_20 : decode cX8_complete 20 = .ok (.istore_n 2, 1) := by decide +kernel
theorem dX8_complete_21 : decode cX8_complete 21 = .ok (.iload_n 2, 1) := by decide +kernel
theorem dX8_complete_22 : decode cX8_complete 22 = .ok (.ifCond .eq 203, 3) := by decide +kernel
theorem dX8_complete_25 : decode cX8_complete 25 = .ok (.aload_n 0, 1) := by decide +kernel
theorem dX8_complete_26 : decode cX8_complete 26 = .ok (.invokevirtual 124, 3) := by decide +kernel
theorem dX8_complete_29 : decode cX8_complete 29 = .ok (.bipush 16, 2) := by decide +kernel
theorem dX8_complete_31 : decode cX8_complete 31 = .ok (.if_icmp .ge 194, 3) := by decide +kernel
theorem dX8_complete_34 : decode cX8_complete 34 = .ok (.iconst (-1), 1) := by decide +kernel
theorem dX8_complete_35 : decode cX8_complete 35 = .ok (.istore_n 3, 1) := by decide +kernel
theorem dX8_complete_36 : decode cX8_complete 36 = .ok (.iconst 0, 1) := by decide +kernel
theorem dX8_complete_37 : decode cX8_complete 37 = .ok (.istore 4, 2) := by decide +kernel
theorem dX8_complete_39 : decode cX8_complete 39 = .ok (.iconst 0, 1) := by decide +kernel
theorem dX8_complete_40 : decode cX8_complete 40 = .ok (.istore 5, 2) := by decide +kernel
theorem dX8_complete_42 : decode cX8_complete 42 = .ok (.iload 5, 2) := by decide +kernel
theorem dX8_complete_44 : decode cX8_complete 44 = .ok (.aload_n 0, 1) := by decide +kernel
theorem dX8_complete_45 : decode cX8_complete 45 = .ok (.invokevirtual 130, 3) := by decide +kernel
theorem dX8_complete_48 : decode cX8_complete 48 = .ok (.if_icmp .ge 95, 3) := by decide +kernel
theorem dX8_complete_51 : decode cX8_complete 51 = .ok (.iconst 0, 1) := by decide +kernel
theorem dX8_complete_52 : decode cX8_complete 52 = .ok (.istore 6, 2) := by decide +kernel
theorem dX8_complete_54 : decode cX8_complete 54 = .ok (.iconst 0, 1) := by decide +kernel
theorem dX8_complete_55 : decode cX8_complete 55 = .ok (.istore 7, 2) := by decide +kernel
theorem dX8_complete_57 : decode cX8_complete 57 = .ok (.iload 7, 2) := by decide +kernel
theorem dX8_complete_59 : decode cX8_complete 59 = .ok (.aload_n 0, 1) := by decide +kernel
theorem dX8_complete_60 : decode cX8_complete 60 = .ok (.invokevirtual 118, 3) := by decide +kernel
theorem dX8_complete_63 : decode cX8_complete 63 = .ok (.if_icmp .ge 57, 3) := by decide +kernel
theorem dX8_complete_66 : decode cX8_complete 66 = .ok (.iload 6, 2) := by decide +kernel
theorem dX8_complete_68 : decode cX8_complete 68 = .ok (.aload_n 0, 1) := by decide +kernel
theorem dX8_complete_69 : decode cX8_complete 69 = .ok (.getfield 28, 3) := by decide +kernel
theorem dX8_complete_72 : decode cX8_complete 72 = .ok (.iload 7, 2) := by decide +kernel
theorem dX8_complete_74 : decode cX8_complete 74 = .ok (.iaload, 1) := by decide +kernel
theorem dX8_complete_75 : decode cX8_complete 75 = .ok (.ifCond .ne 35, 3) := by decide +kernel
theorem dX8_complete_78 : decode cX8_complete 78 = .ok (.aload_n 0, 1) := by decide +kernel
theorem dX8_complete_79 : decode cX8_complete 79 = .ok (.getfield 31, 3) := by decide +kernel
theorem dX8_complete_82 : decode cX8_complete 82 = .ok (.sipush 256, 3) := by decide +kernel
theorem dX8_complete_85 : decode cX8_complete 85 = .ok (.iload 7, 2) := by decide +kernel
theorem dX8_complete_87 : decode cX8_complete 87 = .ok (.imul, 1) := by decide +kernel
theorem dX8_complete_88 : decode cX8_complete 88 = .ok (.iload 5, 2) := by decide +kernel
theorem dX8_complete_90 : decode cX8_complete 90 = .ok (.iadd, 1) := by decide +kernel
theorem dX8_complete_91 : decode cX8_complete 91 = .ok (.iaload, 1) := by decide +kernel
theorem dX8_complete_92 : decode cX8_complete 92 = .ok (.aload_n 0, 1) := by decide +kernel
theorem dX8_complete_93 : decode cX8_complete 93 = .ok (.getfield 31, 3) := by decide +kernel
theorem dX8_complete_96 : decode cX8_complete 96 = .ok (.sipush 14336, 3) := by decide +kernel
theorem dX8_complete_99 : decode cX8_complete 99 = .ok (.iload 5, 2) := by decide +kernel
theorem dX8_complete_101 : decode cX8_complete 101 = .ok (.iadd, 1) := by decide +kernel
theorem dX8_complete_102 : decode cX8_complete 102 = .ok (.iaload, 1) := by decide +kernel
theorem dX8_complete_103 : decode cX8_complete 103 = .ok (.if_icmp .eq 7, 3) := by decide +kernel
theorem dX8_complete_106 : decode cX8_complete 106 = .ok (.iconst 1, 1) := by decide +kernel
theorem dX8_complete_107 : decode cX8_complete 107 = .ok (.goto 4, 3) := by decide +kernel
theorem dX8_complete_110 : decode cX8_complete 110 = .ok (.iconst 0, 1) := by decide +kernel
theorem dX8_complete_111 : decode cX8_complete 111 = .ok (.iadd, 1) := by decide +kernel
theorem dX8_complete_112 : decode cX8_complete 112 = .ok (.istore 6, 2) := by decide +kernel
theorem dX8_complete_114 : decode cX8_complete 114 = .ok (.iinc 7 1, 3) := by decide +kernel
theorem dX8_complete_117 : decode cX8_complete 117 = .ok (.goto (-60), 3) := by decide +kernel
theorem dX8_complete_120 : decode cX8_complete 120 = .ok (.iload 6, 2) := by decide +kernel
theorem dX8_complete_122 : decode cX8_complete 122 = .ok (.iload 4, 2) := by decide +kernel
theorem dX8_complete_124 : decode cX8_complete 124 = .ok (.if_icmp .gt 6, 3) := by decide +kernel
theorem dX8_complete_127 : decode cX8_complete 127 = .ok (.goto 10, 3) := by decide +kernel
theorem dX8_complete_130 : decode cX8_complete 130 = .ok (.iload 5, 2) := by decide +kernel
theorem dX8_complete_132 : decode cX8_complete 132 = .ok (.istore_n 3, 1) := by decide +kernel
theorem dX8_complete_133 : decode cX8_complete 133 = .ok (.iload 6, 2) := by decide +kernel
theorem dX8_complete_135 : decode cX8_complete 135 = .ok (.istore 4, 2) := by decide +kernel
theorem dX8_complete_137 : decode cX8_complete 137 = .ok (.iinc 5 1, 3) := by decide +kernel
theorem dX8_complete_140 : decode cX8_complete 140 = .ok (.goto (-98), 3) := by decide +kernel
theorem dX8_complete_143 : decode cX8_complete 143 = .ok (.iload_n 3, 1) := by decide +kernel
theorem dX8_complete_144 : decode cX8_complete 144 = .ok (.iconst (-1), 1) := by decide +kernel
theorem dX8_complete_145 : decode cX8_complete 145 = .ok (.if_icmp .eq 7, 3) := by decide +kernel
theorem dX8_complete_148 : decode cX8_complete 148 = .ok (.iconst 1, 1) := by decide +kernel
theorem dX8_complete_149 : decode cX8_complete 149 = .ok (.goto 4, 3) := by decide +kernel
theorem dX8_complete_152 : decode cX8_complete 152 = .ok (.iconst 0, 1) := by decide +kernel
theorem dX8_complete_153 : decode cX8_complete 153 = .ok (.istore_n 2, 1) := by decide +kernel
theorem dX8_complete_154 : decode cX8_complete 154 = .ok (.iload_n 2, 1) := by decide +kernel
theorem dX8_complete_155 : decode cX8_complete 155 = .ok (.ifCond .ne 6, 3) := by decide +kernel
theorem dX8_complete_158 : decode cX8_complete 158 = .ok (.goto (-137), 3) := by decide +kernel
theorem dX8_complete_161 : decode cX8_complete 161 = .ok (.aload_n 0, 1) := by decide +kernel
