theorem dX8_complete_162 : decode cX8_complete 162 = .ok (.iload_n 3, 1) := by decide +kernel
theorem dX8_complete_163 : decode cX8_complete 163 = .ok (.iconst 0, 1) := by decide +kernel
theorem dX8_complete_164 : decode cX8_complete 164 = .ok (.invokevirtual 337, 3) := by decide +kernel
theorem dX8_complete_167 : decode cX8_complete 167 = .ok (.iconst 0, 1) := by decide +kernel
theorem dX8_complete_168 : decode cX8_complete 168 = .ok (.istore 5, 2) := by decide +kernel
theorem dX8_complete_170 : decode cX8_complete 170 = .ok (.iload 5, 2) := by decide +kernel
theorem dX8_complete_172 : decode cX8_complete 172 = .ok (.aload_n 0, 1) := by decide +kernel
theorem dX8_complete_173 : decode cX8_complete 173 = .ok (.invokevirtual 118, 3) := by decide +kernel
theorem dX8_complete_176 : decode cX8_complete 176 = .ok (.if_icmp .ge 43, 3) := by decide +kernel
theorem dX8_complete_179 : decode cX8_complete 179 = .ok (.aload_n 0, 1) := by decide +kernel
theorem dX8_complete_180 : decode cX8_complete 180 = .ok (.getfield 31, 3) := by decide +kernel
theorem dX8_complete_183 : decode cX8_complete 183 = .ok (.sipush 256, 3) := by decide +kernel
theorem dX8_complete_186 : decode cX8_complete 186 = .ok (.iload 5, 2) := by decide +kernel
theorem dX8_complete_188 : decode cX8_complete 188 = .ok (.imul, 1) := by decide +kernel
theorem dX8_complete_189 : decode cX8_complete 189 = .ok (.iload_n 3, 1) := by decide +kernel
theorem dX8_complete_190 : decode cX8_complete 190 = .ok (.iadd, 1) := by decide +kernel
theorem dX8_complete_191 : decode cX8_complete 191 = .ok (.iaload, 1) := by decide +kernel
theorem dX8_complete_192 : decode cX8_complete 192 = .ok (.aload_n 0, 1) := by decide +kernel
theorem dX8_complete_193 : decode cX8_complete 193 = .ok (.getfield 31, 3) := by decide +kernel
theorem dX8_complete_196 : decode cX8_complete 196 = .ok (.sipush 14336, 3) := by decide +kernel
theorem dX8_complete_199 : decode cX8_complete 199 = .ok (.iload_n 3, 1) := by decide +kernel
theorem dX8_complete_200 : decode cX8_complete 200 = .ok (.iadd, 1) := by decide +kernel
theorem dX8_complete_201 : decode cX8_complete 201 = .ok (.iaload, 1) := by decide +kernel
theorem dX8_complete_202 : decode cX8_complete 202 = .ok (.if_icmp .eq 11, 3) := by decide +kernel
theorem dX8_complete_205 : decode cX8_complete 205 = .ok (.aload_n 0, 1) := by decide +kernel
theorem dX8_complete_206 : decode cX8_complete 206 = .ok (.getfield 28, 3) := by decide +kernel
theorem dX8_complete_209 : decode cX8_complete 209 = .ok (.iload 5, 2) := by decide +kernel
theorem dX8_complete_211 : decode cX8_complete 211 = .ok (.iconst 1, 1) := by decide +kernel
theorem dX8_complete_212 : decode cX8_complete 212 = .ok (.iastore, 1) := by decide +kernel
theorem dX8_complete_213 : decode cX8_complete 213 = .ok (.iinc 5 1, 3) := by decide +kernel
theorem dX8_complete_216 : decode cX8_complete 216 = .ok (.goto (-46), 3) := by decide +kernel
theorem dX8_complete_219 : decode cX8_complete 219 = .ok (.iinc 1 1, 3) := by decide +kernel
theorem dX8_complete_222 : decode cX8_complete 222 = .ok (.goto (-201), 3) := by decide +kernel
theorem dX8_complete_225 : decode cX8_complete 225 = .ok (.iload_n 1, 1) := by decide +kernel
theorem dX8_complete_226 : decode cX8_complete 226 = .ok (.ireturn, 1) := by decide +kernel
theorem dX8_undo_0 : decode cX8_undo 0 = .ok (.aload_n 0, 1) := by decide +kernel
theorem dX8_undo_1 : decode cX8_undo 1 = .ok (.iconst 0, 1) := by decide +kernel
theorem dX8_undo_2 : decode cX8_undo 2 = .ok (.putfield 61, 3) := by decide +kernel
theorem dX8_undo_5 : decode cX8_undo 5 = .ok (.aload_n 0, 1) := by decide +kernel
theorem dX8_undo_6 : decode cX8_undo 6 = .ok (.getfield 71, 3) := by decide +kernel
theorem dX8_undo_9 : decode cX8_undo 9 = .ok (.ifCond .ne 5, 3) := by decide +kernel
theorem dX8_undo_12 : decode cX8_undo 12 = .ok (.iconst (-1), 1) := by decide +kernel
theorem dX8_undo_13 : decode cX8_undo 13 = .ok (.ireturn, 1) := by decide +kernel
theorem dX8_undo_14 : decode cX8_undo 14 = .ok (.aload_n 0, 1) := by decide +kernel
theorem dX8_undo_15 : decode cX8_undo 15 = .ok (.dup, 1) := by decide +kernel
theorem dX8_undo_16 : decode cX8_undo 16 = .ok (.getfield 71, 3) := by decide +kernel
theorem dX8_undo_19 : decode cX8_undo 19 = .ok (.iconst 1, 1) := by decide +kernel
theorem dX8_undo_20 : decode cX8_undo 20 = .ok (.isub, 1) := by decide +kernel
theorem dX8_undo_21 : decode cX8_undo 21 = .ok (.putfield 71, 3) := by decide +kernel
theorem dX8_undo_24 : decode cX8_undo 24 = .ok (.aload_n 0, 1) := by decide +kernel
theorem dX8_undo_25 : decode cX8_undo 25 = .ok (.aload_n 0, 1) := by decide +kernel
theorem dX8_undo_26 : decode cX8_undo 26 = .ok (.getfield 64, 3) := by decide +kernel
theorem dX8_undo_29 : decode cX8_undo 29 = .ok (.bipush 9, 2) := by decide +kernel
theorem dX8_undo_31 : decode cX8_undo 31 = .ok (.iadd, 1) := by decide +kernel
theorem dX8_undo_32 : decode cX8_undo 32 = .ok (.iconst 1, 1) := by decide +kernel
theorem dX8_undo_33 : decode cX8_undo 33 = .ok (.isub, 1) := by decide +kernel
theorem dX8_undo_34 : decode cX8_undo 34 = .ok (.bipush 9, 2) := by decide +kernel
theorem dX8_undo_36 : decode cX8_undo 36 = .ok (.irem, 1) := by decide +kernel
theorem dX8_undo_37 : decode cX8_undo 37 = .ok (.putfield 64, 3) := by decide +kernel
theorem dX8_undo_40 : decode cX8_undo 40 = .ok (.aload_n 0, 1) := by decide +kernel
theorem dX8_undo_41 : decode cX8_undo 41 = .ok (.getfield 71, 3) := by decide +kernel
theorem dX8_undo_44 : decode cX8_undo 44 = .ok (.ireturn, 1) := by decide +kernel
theorem dX8_joins_0 : decode cX8_joins 0 = .ok (.ldc2_w 340, 3) := by decide +kernel
theorem dX8_joins_3 : decode cX8_joins 3 = .ok (.lload_n 0, 1) := by decide +kernel
theorem dX8_joins_4 : decode cX8_joins 4 = .ok (.lmul, 1) := by decide +kernel
theorem dX8_joins_5 : decode cX8_joins 5 = .ok (.lload_n 2, 1) := by decide +kernel
theorem dX8_joins_6 : decode cX8_joins 6 = .ok (.ladd, 1) := by decide +kernel
theorem dX8_joins_7 : decode cX8_joins 7 = .ok (.lreturn, 1) := by decide +kernel
set_option maxRecDepth 20000 in
theorem ggX8_checksum_X8_told : GoodIn wsX8_checksum wsX8_told := goodIn_r _ [7, 8, 9, 10, 6, 11, 12, 13, 14, 15, 16, 17, 18, 19, 20, 21, 22, 23, 24, 25, 26, 27, 28, 29, 30, 31, 32, 33, 34, 35, 36, 37, 38, 39, 40, 41, 42, 43, 44, 45, 46, 47, 48, 49, 50, 51, 52, 53, 54, 55, 56, 57, 58, 59, 2, 60, 61, 62, 63, 64, 65, 66, 67, 68, 69, 70, 71, 72, 73, 74, 75, 76, 77, 78, 79, 80, 81, 82, 83, 84, 85, 86, 87, 88, 89, 90, 91, 92, 93, 94, 95, 96, 97, 98, 99, 133, 134, 135, 136, 137, 138, 139, 140, 141, 142, 143, 144, 145, 146, 147, 148, 149, 150, 151, 152, 153, 154, 155] (by decide +kernel) (by decide +kernel)
set_option maxRecDepth 20000 in
theorem gX8_checksum_X8_told : GoodIn wsX8_checksum (wsV RX8 280 RX8 yX8_told wsX8_told) := goodIn_app (goodIn_of _ (by decide +kernel)) ggX8_checksum_X8_told
set_option maxRecDepth 20000 in
theorem ggX8_checksum_X8_joins : GoodIn wsX8_checksum wsX8_joins := goodIn_r _ [102, 103] (by decide +kernel) (by decide +kernel)
set_option maxRecDepth 20000 in
theorem gX8_checksum_X8_joins : GoodIn wsX8_checksum (va_wsS RX8 342 yX8_joins wsX8_joins) := goodIn_app (goodIn_of _ (by decide +kernel)) ggX8_checksum_X8_joins
set_option maxRecDepth 20000 in
theorem ggX8_checksum_X8_wires : GoodIn wsX8_checksum wsX8_wires := goodIn_r _ [21, 12, 13, 14, 6, 15, 16, 17, 133, 134, 135, 136, 137, 138, 139, 140, 141, 142, 143, 144, 145, 146, 147, 148, 149, 150, 151, 152, 153, 154, 155] (by decide +kernel) (by decide +kernel)
set_option maxRecDepth 20000 in
theorem gX8_checksum_X8_wires : GoodIn wsX8_checksum (wsV RX8 74 RX8 yX8_wires wsX8_wires) := goodIn_app (goodIn_of _ (by decide +kernel)) ggX8_checksum_X8_wires
set_option maxRecDepth 20000 in
theorem ggX8_checksum_X8_ofWire : GoodIn wsX8_checksum wsX8_ofWire := goodIn_r _ [107, 64, 65, 66, 6, 67, 12, 13, 14, 15, 16, 17, 75, 76, 77, 78, 95, 96, 97, 98, 99, 8, 9, 10, 11, 68, 69, 70, 71, 108, 109, 110, 111, 18, 19, 20, 21, 112, 113, 114, 115, 22, 23, 24, 25, 133, 134, 135, 136, 137, 138, 139, 140, 141, 142, 143, 144, 145, 146, 147, 148, 149, 150, 151, 152, 153, 154, 155] (by decide +kernel) (by decide +kernel)
set_option maxRecDepth 20000 in
theorem gX8_checksum_X8_ofWire : GoodIn wsX8_checksum (wsV RX8 292 RX8 yX8_ofWire wsX8_ofWire) := goodIn_app (goodIn_of _ (by decide +kernel)) ggX8_checksum_X8_ofWire
set_option maxRecDepth 20000 in
theorem ggX8_checksum_X8_have : GoodIn wsX8_checksum wsX8_have := goodIn_r _ [78, 12, 13, 14, 6, 15, 16, 17, 133, 134, 135, 136, 137, 138, 139, 140, 141, 142, 143, 144, 145, 146, 147, 148, 149, 150, 151, 152, 153, 154, 155] (by decide +kernel) (by decide +kernel)
set_option maxRecDepth 20000 in
theorem gX8_checksum_X8_have : GoodIn wsX8_checksum (wsV RX8 81 RX8 yX8_have wsX8_have) := goodIn_app (goodIn_of _ (by decide +kernel)) ggX8_checksum_X8_have
set_option maxRecDepth 20000 in
theorem ggX8_checksum_X8_operandOf : GoodIn wsX8_checksum wsX8_operandOf := goodIn_r _ [71, 12, 13, 14, 6, 15, 16, 17, 133, 134, 135, 136, 137, 138, 139, 140, 141, 142, 143, 144, 145, 146, 147, 148, 149, 150, 151, 152, 153, 154, 155] (by decide +kernel) (by decide +kernel)
set_option maxRecDepth 20000 in
theorem gX8_checksum_X8_operandOf : GoodIn wsX8_checksum (wsV RX8 84 RX8 yX8_operandOf wsX8_operandOf) := goodIn_app (goodIn_of _ (by decide +kernel)) ggX8_checksum_X8_operandOf
set_option maxRecDepth 20000 in
theorem ggX8_checksum_X8_tests : GoodIn wsX8_checksum wsX8_tests := goodIn_r _ [33, 12, 13, 14, 6, 15, 16, 17, 133, 134, 135, 136, 137, 138, 139, 140, 141, 142, 143, 144, 145, 146, 147, 148, 149, 150, 151, 152, 153, 154, 155] (by decide +kernel) (by decide +kernel)
set_option maxRecDepth 20000 in
theorem gX8_checksum_X8_tests : GoodIn wsX8_checksum (wsV RX8 124 RX8 yX8_tests wsX8_tests) := goodIn_app (goodIn_of _ (by decide +kernel)) ggX8_checksum_X8_tests
set_option maxRecDepth 20000 in
theorem ggX8_checksum_X8_asksTest : GoodIn wsX8_checksum wsX8_asksTest := goodIn_r _ [54, 55, 8, 9, 10, 6, 11, 12, 13, 14, 15, 16, 17, 56, 57, 58, 59, 2, 18, 19, 20, 21, 60, 61, 62, 63, 64, 65, 66, 67, 68, 69, 70, 71, 72, 73, 74, 75, 76, 77, 78, 79, 80, 81, 133, 134, 135, 136, 137, 138, 139, 140, 141, 142, 143, 144, 145, 146, 147, 148, 149, 150, 151, 152, 153, 154, 155] (by decide +kernel) (by decide +kernel)
set_option maxRecDepth 20000 in
theorem gX8_checksum_X8_asksTest : GoodIn wsX8_checksum (wsV RX8 115 RX8 yX8_asksTest wsX8_asksTest) := goodIn_app (goodIn_of _ (by decide +kernel)) ggX8_checksum_X8_asksTest
set_option maxRecDepth 20000 in
theorem ggX8_checksum_X8_outputs : GoodIn wsX8_checksum wsX8_outputs := goodIn_r _ [25, 12, 13, 14, 6, 15, 16, 17, 133, 134, 135, 136, 137, 138, 139, 140, 141, 142, 143, 144, 145, 146, 147, 148, 149, 150, 151, 152, 153, 154, 155] (by decide +kernel) (by decide +kernel)
set_option maxRecDepth 20000 in
theorem gX8_checksum_X8_outputs : GoodIn wsX8_checksum (wsV RX8 109 RX8 yX8_outputs wsX8_outputs) := goodIn_app (goodIn_of _ (by decide +kernel)) ggX8_checksum_X8_outputs
set_option maxRecDepth 20000 in
theorem ggX8_checksum_X8_seenAt : GoodIn wsX8_checksum wsX8_seenAt := goodIn_r _ [41, 12, 13, 14, 6, 15, 16, 17, 133, 134, 135, 136, 137, 138, 139, 140, 141, 142, 143, 144, 145, 146, 147, 148, 149, 150, 151, 152, 153, 154, 155] (by decide +kernel) (by decide +kernel)
set_option maxRecDepth 20000 in
theorem gX8_checksum_X8_seenAt : GoodIn wsX8_checksum (wsV RX8 322 RX8 yX8_seenAt wsX8_seenAt) := goodIn_app (goodIn_of _ (by decide +kernel)) ggX8_checksum_X8_seenAt
set_option maxRecDepth 20000 in
theorem ggX8_checksum_X8_worthOf : GoodIn wsX8_checksum wsX8_worthOf := goodIn_r _ [119, 51, 52, 53, 6, 54, 55, 8, 9, 10, 11, 12, 13, 14, 15, 16, 17, 56, 57, 58, 59, 2, 18, 19, 20, 21, 60, 61, 62, 63, 64, 65, 66, 67, 68, 69, 70, 71, 72, 73, 74, 75, 76, 77, 78, 79, 80, 81, 26, 27, 28, 29, 82, 83, 84, 85, 86, 87, 88, 89, 90, 22, 23, 24, 25, 91, 92, 93, 94, 133, 134, 135, 136, 137, 138, 139, 140, 141, 142, 143, 144, 145, 146, 147, 148, 149, 150, 151, 152, 153, 154, 155] (by decide +kernel) (by decide +kernel)
set_option maxRecDepth 20000 in
theorem gX8_checksum_X8_worthOf : GoodIn wsX8_checksum (wsV RX8 301 RX8 yX8_worthOf wsX8_worthOf) := goodIn_app (goodIn_of _ (by decide +kernel)) ggX8_checksum_X8_worthOf
set_option maxRecDepth 20000 in
theorem ggX8_checksum_X8_fitting : GoodIn wsX8_checksum wsX8_fitting := goodIn_r _ [123, 124, 26, 27, 28, 6, 29, 18, 19, 20, 21, 12, 13, 14, 15, 16, 17, 30, 31, 32, 33, 51, 52, 53, 54, 55, 8, 9, 10, 11, 56, 57, 58, 59, 2, 60, 61, 62, 63, 64, 65, 66, 67, 68, 69, 70, 71, 72, 73, 74, 75, 76, 77, 78, 79, 80, 81, 125, 126, 127, 128, 87, 88, 89, 90, 86, 129, 130, 131, 132, 22, 23, 24, 25, 91, 92, 93, 94, 38, 39, 40, 41, 133, 134, 135, 136, 137, 138, 139, 140, 141, 142, 143, 144, 145, 146, 147, 148, 149, 150, 151, 152, 153, 154, 155] (by decide +kernel) (by decide +kernel)
set_option maxRecDepth 20000 in
theorem gX8_checksum_X8_fitting : GoodIn wsX8_checksum (wsV RX8 331 RX8 yX8_fitting wsX8_fitting) := goodIn_app (goodIn_of _ (by decide +kernel)) ggX8_checksum_X8_fitting
theorem dX8_checksum_0 : decode cX8_checksum 0 = .ok (.aload_n 0, 1) := by decide +kernel
theorem dX8_checksum_1 : decode cX8_checksum 1 = .ok (.iconst 0, 1) := by decide +kernel
theorem dX8_checksum_2 : decode cX8_checksum 2 = .ok (.putfield 61, 3) := by decide +kernel
theorem dX8_checksum_5 : decode cX8_checksum 5 = .ok (.lconst 0, 1) := by decide +kernel
theorem dX8_checksum_6 : decode cX8_checksum 6 = .ok (.lstore_n 1, 1) := by decide +kernel
theorem dX8_checksum_7 : decode cX8_checksum 7 = .ok (.iconst 0, 1) := by decide +kernel
theorem dX8_checksum_8 : decode cX8_checksum 8 = .ok (.istore_n 3, 1) := by decide +kernel
theorem dX8_checksum_9 : decode cX8_checksum 9 = .ok (.iload_n 3, 1) := by decide +kernel
theorem dX8_checksum_10 : decode cX8_checksum 10 = .ok (.bipush 9, 2) := by decide +kernel
theorem dX8_checksum_12 : decode cX8_checksum 12 = .ok (.if_icmp .ge 20, 3) := by decide +kernel
theorem dX8_checksum_15 : decode cX8_checksum 15 = .ok (.lload_n 1, 1) := by decide +kernel
theorem dX8_checksum_16 : decode cX8_checksum 16 = .ok (.aload_n 0, 1) := by decide +kernel
theorem dX8_checksum_17 : decode cX8_checksum 17 = .ok (.iload_n 3, 1) := by decide +kernel
theorem dX8_checksum_18 : decode cX8_checksum 18 = .ok (.invokevirtual 280, 3) := by decide +kernel
theorem dX8_checksum_21 : decode cX8_checksum 21 = .ok (.i2l, 1) := by decide +kernel
theorem dX8_checksum_22 : decode cX8_checksum 22 = .ok (.invokestatic 342, 3) := by decide +kernel
theorem dX8_checksum_25 : decode cX8_checksum 25 = .ok (.lstore_n 1, 1) := by decide +kernel
theorem dX8_checksum_26 : decode cX8_checksum 26 = .ok (.iinc 3 1, 3) := by decide +kernel
theorem dX8_checksum_29 : decode cX8_checksum 29 = .ok (.goto (-20), 3) := by decide +kernel
theorem dX8_checksum_32 : decode cX8_checksum 32 = .ok (.iconst 0, 1) := by decide +kernel
theorem dX8_checksum_33 : decode cX8_checksum 33 = .ok (.istore_n 3, 1) := by decide +kernel
theorem dX8_checksum_34 : decode cX8_checksum 34 = .ok (.iload_n 3, 1) := by decide +kernel
theorem dX8_checksum_35 : decode cX8_checksum 35 = .ok (.aload_n 0, 1) := by decide +kernel
theorem dX8_checksum_36 : decode cX8_checksum 36 = .ok (.invokevirtual 74, 3) := by decide +kernel
theorem dX8_checksum_39 : decode cX8_checksum 39 = .ok (.if_icmp .ge 69, 3) := by decide +kernel
theorem dX8_checksum_42 : decode cX8_checksum 42 = .ok (.iconst 0, 1) := by decide +kernel
theorem dX8_checksum_43 : decode cX8_checksum 43 = .ok (.istore 4, 2) := by decide +kernel
theorem dX8_checksum_45 : decode cX8_checksum 45 = .ok (.iload 4, 2) := by decide +kernel
theorem dX8_checksum_47 : decode cX8_checksum 47 = .ok (.iconst 5, 1) := by decide +kernel
theorem dX8_checksum_48 : decode cX8_checksum 48 = .ok (.if_icmp .ge 22, 3) := by decide +kernel
theorem dX8_checksum_51 : decode cX8_checksum 51 = .ok (.lload_n 1, 1) := by decide +kernel
theorem dX8_checksum_52 : decode cX8_checksum 52 = .ok (.aload_n 0, 1) := by decide +kernel
theorem dX8_checksum_53 : decode cX8_checksum 53 = .ok (.iload_n 3, 1) := by decide +kernel
theorem dX8_checksum_54 : decode cX8_checksum 54 = .ok (.iload 4, 2) := by decide +kernel
theorem dX8_checksum_56 : decode cX8_checksum 56 = .ok (.invokevirtual 292, 3) := by decide +kernel
theorem dX8_checksum_59 : decode cX8_checksum 59 = .ok (.i2l, 1) := by decide +kernel
theorem dX8_checksum_60 : decode cX8_checksum 60 = .ok (.invokestatic 342, 3) := by decide +kernel
theorem dX8_checksum_63 : decode cX8_checksum 63 = .ok (.lstore_n 1, 1) := by decide +kernel
theorem dX8_checksum_64 : decode cX8_checksum 64 = .ok (.iinc 4 1, 3) := by decide +kernel
theorem dX8_checksum_67 : decode cX8_checksum 67 = .ok (.goto (-22), 3) := by decide +kernel
theorem dX8_checksum_70 : decode cX8_checksum 70 = .ok (.iconst 0, 1) := by decide +kernel
theorem dX8_checksum_71 : decode cX8_checksum 71 = .ok (.istore 4, 2) := by decide +kernel
theorem dX8_checksum_73 : decode cX8_checksum 73 = .ok (.iload 4, 2) := by decide +kernel
theorem dX8_checksum_75 : decode cX8_checksum 75 = .ok (.aload_n 0, 1) := by decide +kernel
theorem dX8_checksum_76 : decode cX8_checksum 76 = .ok (.iload_n 3, 1) := by decide +kernel
theorem dX8_checksum_77 : decode cX8_checksum 77 = .ok (.invokevirtual 81, 3) := by decide +kernel
theorem dX8_checksum_80 : decode cX8_checksum 80 = .ok (.if_icmp .ge 22, 3) := by decide +kernel
theorem dX8_checksum_83 : decode cX8_checksum 83 = .ok (.lload_n 1, 1) := by decide +kernel
theorem dX8_checksum_84 : decode cX8_checksum 84 = .ok (.aload_n 0, 1) := by decide +kernel
theorem dX8_checksum_85 : decode cX8_checksum 85 = .ok (.iload_n 3, 1) := by decide +kernel
theorem dX8_checksum_86 : decode cX8_checksum 86 = .ok (.iload 4, 2) := by decide +kernel
theorem dX8_checksum_88 : decode cX8_checksum 88 = .ok (.invokevirtual 84, 3) := by decide +kernel
theorem dX8_checksum_91 : decode cX8_checksum 91 = .ok (.i2l, 1) := by decide +kernel
theorem dX8_checksum_92 : decode cX8_checksum 92 = .ok (.invokestatic 342, 3) := by decide +kernel
theorem dX8_checksum_95 : decode cX8_checksum 95 = .ok (.lstore_n 1, 1) := by decide +kernel
theorem dX8_checksum_96 : decode cX8_checksum 96 = .ok (.iinc 4 1, 3) := by decide +kernel
theorem dX8_checksum_99 : decode cX8_checksum 99 = .ok (.goto (-26), 3) := by decide +kernel
theorem dX8_checksum_102 : decode cX8_checksum 102 = .ok (.iinc 3 1, 3) := by decide +kernel
theorem dX8_checksum_105 : decode cX8_checksum 105 = .ok (.goto (-71), 3) := by decide +kernel
theorem dX8_checksum_108 : decode cX8_checksum 108 = .ok (.iconst 0, 1) := by decide +kernel
theorem dX8_checksum_109 : decode cX8_checksum 109 = .ok (.istore_n 3, 1) := by decide +kernel
theorem dX8_checksum_110 : decode cX8_checksum 110 = .ok (.iload_n 3, 1) := by decide +kernel
theorem dX8_checksum_111 : decode cX8_checksum 111 = .ok (.aload_n 0, 1) := by decide +kernel
theorem dX8_checksum_112 : decode cX8_checksum 112 = .ok (.invokevirtual 124, 3) := by decide +kernel
theorem dX8_checksum_115 : decode cX8_checksum 115 = .ok (.if_icmp .ge 87, 3) := by decide +kernel
theorem dX8_checksum_118 : decode cX8_checksum 118 = .ok (.aload_n 0, 1) := by decide +kernel
theorem dX8_checksum_119 : decode cX8_checksum 119 = .ok (.iload_n 3, 1) := by decide +kernel
theorem dX8_checksum_120 : decode cX8_checksum 120 = .ok (.invokevirtual 115, 3) := by decide +kernel
theorem dX8_checksum_123 : decode cX8_checksum 123 = .ok (.iconst 0, 1) := by decide +kernel
theorem dX8_checksum_124 : decode cX8_checksum 124 = .ok (.istore 4, 2) := by decide +kernel
theorem dX8_checksum_126 : decode cX8_checksum 126 = .ok (.iload 4, 2) := by decide +kernel
theorem dX8_checksum_128 : decode cX8_checksum 128 = .ok (.aload_n 0, 1) := by decide +kernel
theorem dX8_checksum_129 : decode cX8_checksum 129 = .ok (.invokevirtual 74, 3) := by decide +kernel
theorem dX8_checksum_132 : decode cX8_checksum 132 = .ok (.if_icmp .ge 22, 3) := by decide +kernel
theorem dX8_checksum_135 : decode cX8_checksum 135 = .ok (.lload_n 1, 1) := by decide +kernel
theorem dX8_checksum_136 : decode cX8_checksum 136 = .ok (.aload_n 0, 1) := by decide +kernel
theorem dX8_checksum_137 : decode cX8_checksum 137 = .ok (.getfield 22, 3) := by decide +kernel
theorem dX8_checksum_140 : decode cX8_checksum 140 = .ok (.iload 4, 2) := by decide +kernel
theorem dX8_checksum_142 : decode cX8_checksum 142 = .ok (.iaload, 1) := by decide +kernel
theorem dX8_checksum_143 : decode cX8_checksum 143 = .ok (.i2l, 1) := by decide +kernel
theorem dX8_checksum_144 : decode cX8_checksum 144 = .ok (.invokestatic 342, 3) := by decide +kernel
theorem dX8_checksum_147 : decode cX8_checksum 147 = .ok (.lstore_n 1, 1) := by decide +kernel
theorem dX8_checksum_148 : decode cX8_checksum 148 = .ok (.iinc 4 1, 3) := by decide +kernel
theorem dX8_checksum_151 : decode cX8_checksum 151 = .ok (.goto (-25), 3) := by decide +kernel
theorem dX8_checksum_154 : decode cX8_checksum 154 = .ok (.iconst 0, 1) := by decide +kernel
theorem dX8_checksum_155 : decode cX8_checksum 155 = .ok (.istore 4, 2) := by decide +kernel
theorem dX8_checksum_157 : decode cX8_checksum 157 = .ok (.iload 4, 2) := by decide +kernel
theorem dX8_checksum_159 : decode cX8_checksum 159 = .ok (.aload_n 0, 1) := by decide +kernel
theorem dX8_checksum_160 : decode cX8_checksum 160 = .ok (.invokevirtual 109, 3) := by decide +kernel
theorem dX8_checksum_163 : decode cX8_checksum 163 = .ok (.if_icmp .ge 22, 3) := by decide +kernel
theorem dX8_checksum_166 : decode cX8_checksum 166 = .ok (.lload_n 1, 1) := by decide +kernel
theorem dX8_checksum_167 : decode cX8_checksum 167 = .ok (.aload_n 0, 1) := by decide +kernel
theorem dX8_checksum_168 : decode cX8_checksum 168 = .ok (.iload_n 3, 1) := by decide +kernel
theorem dX8_checksum_169 : decode cX8_checksum 169 = .ok (.iload 4, 2) := by decide +kernel
theorem dX8_checksum_171 : decode cX8_checksum 171 = .ok (.invokevirtual 322, 3) := by decide +kernel
theorem dX8_checksum_174 : decode cX8_checksum 174 = .ok (.i2l, 1) := by decide +kernel
theorem dX8_checksum_175 : decode cX8_checksum 175 = .ok (.invokestatic 342, 3) := by decide +kernel
theorem dX8_checksum_178 : decode cX8_checksum 178 = .ok (.lstore_n 1, 1) := by decide +kernel
theorem dX8_checksum_179 : decode cX8_checksum 179 = .ok (.iinc 4 1, 3) := by decide +kernel
theorem dX8_checksum_182 : decode cX8_checksum 182 = .ok (.goto (-25), 3) := by decide +kernel
theorem dX8_checksum_185 : decode cX8_checksum 185 = .ok (.lload_n 1, 1) := by decide +kernel
theorem dX8_checksum_186 : decode cX8_checksum 186 = .ok (.aload_n 0, 1) := by decide +kernel
theorem dX8_checksum_187 : decode cX8_checksum 187 = .ok (.iload_n 3, 1) := by decide +kernel
theorem dX8_checksum_188 : decode cX8_checksum 188 = .ok (.invokevirtual 301, 3) := by decide +kernel
theorem dX8_checksum_191 : decode cX8_checksum 191 = .ok (.i2l, 1) := by decide +kernel
theorem dX8_checksum_192 : decode cX8_checksum 192 = .ok (.invokestatic 342, 3) := by decide +kernel
theorem dX8_checksum_195 : decode cX8_checksum 195 = .ok (.lstore_n 1, 1) := by decide +kernel
theorem dX8_checksum_196 : decode cX8_checksum 196 = .ok (.iinc 3 1, 3) := by decide +kernel
theorem dX8_checksum_199 : decode cX8_checksum 199 = .ok (.goto (-89), 3) := by decide +kernel
theorem dX8_checksum_202 : decode cX8_checksum 202 = .ok (.lload_n 1, 1) := by decide +kernel
theorem dX8_checksum_203 : decode cX8_checksum 203 = .ok (.aload_n 0, 1) := by decide +kernel
theorem dX8_checksum_204 : decode cX8_checksum 204 = .ok (.invokevirtual 331, 3) := by decide +kernel
theorem dX8_checksum_207 : decode cX8_checksum 207 = .ok (.i2l, 1) := by decide +kernel
theorem dX8_checksum_208 : decode cX8_checksum 208 = .ok (.invokestatic 342, 3) := by decide +kernel
theorem dX8_checksum_211 : decode cX8_checksum 211 = .ok (.lreturn, 1) := by decide +kernel
theorem dJ6_bitCount_0f7a4_0 : decode cJ6_bitCount_0f7a4 0 = .ok (.iload_n 0, 1) := by decide +kernel
theorem dJ6_bitCount_0f7a4_1 : decode cJ6_bitCount_0f7a4 1 = .ok (.iload_n 0, 1) := by decide +kernel
theorem dJ6_bitCount_0f7a4_2 : decode cJ6_bitCount_0f7a4 2 = .ok (.iconst 1, 1) := by decide +kernel
theorem dJ6_bitCount_0f7a4_3 : decode cJ6_bitCount_0f7a4 3 = .ok (.iushr, 1) := by decide +kernel
theorem dJ6_bitCount_0f7a4_4 : decode cJ6_bitCount_0f7a4 4 = .ok (.ldc_w 265, 3) := by decide +kernel
theorem dJ6_bitCount_0f7a4_7 : decode cJ6_bitCount_0f7a4 7 = .ok (.iand, 1) := by decide +kernel
theorem dJ6_bitCount_0f7a4_8 : decode cJ6_bitCount_0f7a4 8 = .ok (.isub, 1) := by decide +kernel
theorem dJ6_bitCount_0f7a4_9 : decode cJ6_bitCount_0f7a4 9 = .ok (.istore_n 0, 1) := by decide +kernel
theorem dJ6_bitCount_0f7a4_10 : decode cJ6_bitCount_0f7a4 10 = .ok (.iload_n 0, 1) := by decide +kernel
theorem dJ6_bitCount_0f7a4_11 : decode cJ6_bitCount_0f7a4 11 = .ok (.ldc_w 266, 3) := by decide +kernel
theorem dJ6_bitCount_0f7a4_14 : decode cJ6_bitCount_0f7a4 14 = .ok (.iand, 1) := by decide +kernel
theorem dJ6_bitCount_0f7a4_15 : decode cJ6_bitCount_0f7a4 15 = .ok (.iload_n 0, 1) := by decide +kernel
theorem dJ6_bitCount_0f7a4_16 : decode cJ6_bitCount_0f7a4 16 = .ok (.iconst 2, 1) := by decide +kernel
theorem dJ6_bitCount_0f7a4_17 : decode cJ6_bitCount_0f7a4 17 = .ok (.iushr, 1) := by decide +kernel
theorem dJ6_bitCount_0f7a4_18 : decode cJ6_bitCount_0f7a4 18 = .ok (.ldc_w 266, 3) := by decide +kernel
theorem dJ6_bitCount_0f7a4_21 : decode cJ6_bitCount_0f7a4 21 = .ok (.iand, 1) := by decide +kernel
theorem dJ6_bitCount_0f7a4_22 : decode cJ6_bitCount_0f7a4 22 = .ok (.iadd, 1) := by decide +kernel
theorem dJ6_bitCount_0f7a4_23 : decode cJ6_bitCount_0f7a4 23 = .ok (.istore_n 0, 1) := by decide +kernel
theorem dJ6_bitCount_0f7a4_24 : decode cJ6_bitCount_0f7a4 24 = .ok (.iload_n 0, 1) := by decide +kernel
theorem dJ6_bitCount_0f7a4_25 : decode cJ6_bitCount_0f7a4 25 = .ok (.iload_n 0, 1) := by decide +kernel
theorem dJ6_bitCount_0f7a4_26 : decode cJ6_bitCount_0f7a4 26 = .ok (.iconst 4, 1) := by decide +kernel
theorem dJ6_bitCount_0f7a4_27 : decode cJ6_bitCount_0f7a4 27 = .ok (.iushr, 1) := by decide +kernel
theorem dJ6_bitCount_0f7a4_28 : decode cJ6_bitCount_0f7a4 28 = .ok (.iadd, 1) := by decide +kernel
theorem dJ6_bitCount_0f7a4_29 : decode cJ6_bitCount_0f7a4 29 = .ok (.ldc_w 267, 3) := by decide +kernel
theorem dJ6_bitCount_0f7a4_32 : decode cJ6_bitCount_0f7a4 32 = .ok (.iand, 1) := by decide +kernel
theorem dJ6_bitCount_0f7a4_33 : decode cJ6_bitCount_0f7a4 33 = .ok (.istore_n 0, 1) := by decide +kernel
theorem dJ6_bitCount_0f7a4_34 : decode cJ6_bitCount_0f7a4 34 = .ok (.iload_n 0, 1) := by decide +kernel
theorem dJ6_bitCount_0f7a4_35 : decode cJ6_bitCount_0f7a4 35 = .ok (.iload_n 0, 1) := by decide +kernel
theorem dJ6_bitCount_0f7a4_36 : decode cJ6_bitCount_0f7a4 36 = .ok (.bipush 8, 2) := by decide +kernel
theorem dJ6_bitCount_0f7a4_38 : decode cJ6_bitCount_0f7a4 38 = .ok (.iushr, 1) := by decide +kernel
theorem dJ6_bitCount_0f7a4_39 : decode cJ6_bitCount_0f7a4 39 = .ok (.iadd, 1) := by decide +kernel
theorem dJ6_bitCount_0f7a4_40 : decode cJ6_bitCount_0f7a4 40 = .ok (.istore_n 0, 1) := by decide +kernel
theorem dJ6_bitCount_0f7a4_41 : decode cJ6_bitCount_0f7a4 41 = .ok (.iload_n 0, 1) := by decide +kernel
theorem dJ6_bitCount_0f7a4_42 : decode cJ6_bitCount_0f7a4 42 = .ok (.iload_n 0, 1) := by decide +kernel
theorem dJ6_bitCount_0f7a4_43 : decode cJ6_bitCount_0f7a4 43 = .ok (.bipush 16, 2) := by decide +kernel
theorem dJ6_bitCount_0f7a4_45 : decode cJ6_bitCount_0f7a4 45 = .ok (.iushr, 1) := by decide +kernel
theorem dJ6_bitCount_0f7a4_46 : decode cJ6_bitCount_0f7a4 46 = .ok (.iadd, 1) := by decide +kernel
theorem dJ6_bitCount_0f7a4_47 : decode cJ6_bitCount_0f7a4 47 = .ok (.istore_n 0, 1) := by decide +kernel
theorem dJ6_bitCount_0f7a4_48 : decode cJ6_bitCount_0f7a4 48 = .ok (.iload_n 0, 1) := by decide +kernel
theorem dJ6_bitCount_0f7a4_49 : decode cJ6_bitCount_0f7a4 49 = .ok (.bipush 63, 2) := by decide +kernel
theorem dJ6_bitCount_0f7a4_51 : decode cJ6_bitCount_0f7a4 51 = .ok (.iand, 1) := by decide +kernel
theorem dJ6_bitCount_0f7a4_52 : decode cJ6_bitCount_0f7a4 52 = .ok (.ireturn, 1) := by decide +kernel
theorem dJ13_bitCount_95d88_0 : decode cJ13_bitCount_95d88 0 = .ok (.lload_n 0, 1) := by decide +kernel
theorem dJ13_bitCount_95d88_1 : decode cJ13_bitCount_95d88 1 = .ok (.lload_n 0, 1) := by decide +kernel
theorem dJ13_bitCount_95d88_2 : decode cJ13_bitCount_95d88 2 = .ok (.iconst 1, 1) := by decide +kernel
theorem dJ13_bitCount_95d88_3 : decode cJ13_bitCount_95d88 3 = .ok (.lushr, 1) := by decide +kernel
theorem dJ13_bitCount_95d88_4 : decode cJ13_bitCount_95d88 4 = .ok (.ldc2_w 314, 3) := by decide +kernel
theorem dJ13_bitCount_95d88_7 : decode cJ13_bitCount_95d88 7 = .ok (.land, 1) := by decide +kernel
theorem dJ13_bitCount_95d88_8 : decode cJ13_bitCount_95d88 8 = .ok (.lsub, 1) := by decide +kernel
theorem dJ13_bitCount_95d88_9 : decode cJ13_bitCount_95d88 9 = .ok (.lstore_n 0, 1) := by decide +kernel
theorem dJ13_bitCount_95d88_10 : decode cJ13_bitCount_95d88 10 = .ok (.lload_n 0, 1) := by decide +kernel
theorem dJ13_bitCount_95d88_11 : decode cJ13_bitCount_95d88 11 = .ok (.ldc2_w 316, 3) := by decide +kernel
theorem dJ13_bitCount_95d88_14 : decode cJ13_bitCount_95d88 14 = .ok (.land, 1) := by decide +kernel
theorem dJ13_bitCount_95d88_15 : decode cJ13_bitCount_95d88 15 = .ok (.lload_n 0, 1) := by decide +kernel
theorem dJ13_bitCount_95d88_16 : decode cJ13_bitCount_95d88 16 = .ok (.iconst 2, 1) := by decide +kernel
theorem dJ13_bitCount_95d88_17 : decode cJ13_bitCount_95d88 17 = .ok (.lushr, 1) := by decide +kernel
theorem dJ13_bitCount_95d88_18 : decode cJ13_bitCount_95d88 18 = .ok (.ldc2_w 316, 3) := by decide +kernel
theorem dJ13_bitCount_95d88_21 : decode cJ13_bitCount_95d88 21 = .ok (.land, 1) := by decide +kernel
theorem dJ13_bitCount_95d88_22 : decode cJ13_bitCount_95d88 22 = .ok (.ladd, 1) := by decide +kernel
theorem dJ13_bitCount_95d88_23 : decode cJ13_bitCount_95d88 23 = .ok (.lstore_n 0, 1) := by decide +kernel
theorem dJ13_bitCount_95d88_24 : decode cJ13_bitCount_95d88 24 = .ok (.lload_n 0, 1) := by decide +kernel
theorem dJ13_bitCount_95d88_25 : decode cJ13_bitCount_95d88 25 = .ok (.lload_n 0, 1) := by decide +kernel
theorem dJ13_bitCount_95d88_26 : decode cJ13_bitCount_95d88 26 = .ok (.iconst 4, 1) := by decide +kernel
theorem dJ13_bitCount_95d88_27 : decode cJ13_bitCount_95d88 27 = .ok (.lushr, 1) := by decide +kernel
theorem dJ13_bitCount_95d88_28 : decode cJ13_bitCount_95d88 28 = .ok (.ladd, 1) := by decide +kernel
theorem dJ13_bitCount_95d88_29 : decode cJ13_bitCount_95d88 29 = .ok (.ldc2_w 318, 3) := by decide +kernel
theorem dJ13_bitCount_95d88_32 : decode cJ13_bitCount_95d88 32 = .ok (.land, 1) := by decide +kernel
theorem dJ13_bitCount_95d88_33 : decode cJ13_bitCount_95d88 33 = .ok (.lstore_n 0, 1) := by decide +kernel
theorem dJ13_bitCount_95d88_34 : decode cJ13_bitCount_95d88 34 = .ok (.lload_n 0, 1) := by decide +kernel
theorem dJ13_bitCount_95d88_35 : decode cJ13_bitCount_95d88 35 = .ok (.lload_n 0, 1) := by decide +kernel
theorem dJ13_bitCount_95d88_36 : decode cJ13_bitCount_95d88 36 = .ok (.bipush 8, 2) := by decide +kernel
theorem dJ13_bitCount_95d88_38 : decode cJ13_bitCount_95d88 38 = .ok (.lushr, 1) := by decide +kernel
theorem dJ13_bitCount_95d88_39 : decode cJ13_bitCount_95d88 39 = .ok (.ladd, 1) := by decide +kernel
theorem dJ13_bitCount_95d88_40 : decode cJ13_bitCount_95d88 40 = .ok (.lstore_n 0, 1) := by decide +kernel
theorem dJ13_bitCount_95d88_41 : decode cJ13_bitCount_95d88 41 = .ok (.lload_n 0, 1) := by decide +kernel
theorem dJ13_bitCount_95d88_42 : decode cJ13_bitCount_95d88 42 = .ok (.lload_n 0, 1) := by decide +kernel
theorem dJ13_bitCount_95d88_43 : decode cJ13_bitCount_95d88 43 = .ok (.bipush 16, 2) := by decide +kernel
theorem dJ13_bitCount_95d88_45 : decode cJ13_bitCount_95d88 45 = .ok (.lushr, 1) := by decide +kernel
theorem dJ13_bitCount_95d88_46 : decode cJ13_bitCount_95d88 46 = .ok (.ladd, 1) := by decide +kernel
theorem dJ13_bitCount_95d88_47 : decode cJ13_bitCount_95d88 47 = .ok (.lstore_n 0, 1) := by decide +kernel
theorem dJ13_bitCount_95d88_48 : decode cJ13_bitCount_95d88 48 = .ok (.lload_n 0, 1) := by decide +kernel
theorem dJ13_bitCount_95d88_49 : decode cJ13_bitCount_95d88 49 = .ok (.lload_n 0, 1) := by decide +kernel
theorem dJ13_bitCount_95d88_50 : decode cJ13_bitCount_95d88 50 = .ok (.bipush 32, 2) := by decide +kernel
theorem dJ13_bitCount_95d88_52 : decode cJ13_bitCount_95d88 52 = .ok (.lushr, 1) := by decide +kernel
theorem dJ13_bitCount_95d88_53 : decode cJ13_bitCount_95d88 53 = .ok (.ladd, 1) := by decide +kernel
theorem dJ13_bitCount_95d88_54 : decode cJ13_bitCount_95d88 54 = .ok (.lstore_n 0, 1) := by decide +kernel
theorem dJ13_bitCount_95d88_55 : decode cJ13_bitCount_95d88 55 = .ok (.lload_n 0, 1) := by decide +kernel
theorem dJ13_bitCount_95d88_56 : decode cJ13_bitCount_95d88 56 = .ok (.l2i, 1) := by decide +kernel
theorem dJ13_bitCount_95d88_57 : decode cJ13_bitCount_95d88 57 = .ok (.bipush 127, 2) := by decide +kernel
theorem dJ13_bitCount_95d88_59 : decode cJ13_bitCount_95d88 59 = .ok (.iand, 1) := by decide +kernel
theorem dJ13_bitCount_95d88_60 : decode cJ13_bitCount_95d88 60 = .ok (.ireturn, 1) := by decide +kernel
theorem dJ9_max_7cf53_0 : decode cJ9_max_7cf53 0 = .ok (.iload_n 0, 1) := by decide +kernel
theorem dJ9_max_7cf53_1 : decode cJ9_max_7cf53 1 = .ok (.iload_n 1, 1) := by decide +kernel
theorem dJ9_max_7cf53_2 : decode cJ9_max_7cf53 2 = .ok (.if_icmp .lt 7, 3) := by decide +kernel
theorem dJ9_max_7cf53_5 : decode cJ9_max_7cf53 5 = .ok (.iload_n 0, 1) := by decide +kernel
theorem dJ9_max_7cf53_6 : decode cJ9_max_7cf53 6 = .ok (.goto 4, 3) := by decide +kernel
theorem dJ9_max_7cf53_9 : decode cJ9_max_7cf53 9 = .ok (.iload_n 1, 1) := by decide +kernel
theorem dJ9_max_7cf53_10 : decode cJ9_max_7cf53 10 = .ok (.ireturn, 1) := by decide +kernel
theorem dJ9_min_7cf53_0 : decode cJ9_min_7cf53 0 = .ok (.iload_n 0, 1) := by decide +kernel
theorem dJ9_min_7cf53_1 : decode cJ9_min_7cf53 1 = .ok (.iload_n 1, 1) := by decide +kernel
theorem dJ9_min_7cf53_2 : decode cJ9_min_7cf53 2 = .ok (.if_icmp .gt 7, 3) := by decide +kernel
theorem dJ9_min_7cf53_5 : decode cJ9_min_7cf53 5 = .ok (.iload_n 0, 1) := by decide +kernel
theorem dJ9_min_7cf53_6 : decode cJ9_min_7cf53 6 = .ok (.goto 4, 3) := by decide +kernel
theorem dJ9_min_7cf53_9 : decode cJ9_min_7cf53 9 = .ok (.iload_n 1, 1) := by decide +kernel
theorem dJ9_min_7cf53_10 : decode cJ9_min_7cf53 10 = .ok (.ireturn, 1) := by decide +kernel
set_option maxRecDepth 20000 in
theorem ggJ0_length_8abf5_J0_coder_7d493 : GoodIn wsJ0_length_8abf5 wsJ0_coder_7d493 := goodIn_r _ [6, 7, 8] (by decide +kernel) (by decide +kernel)
set_option maxRecDepth 20000 in
theorem gJ0_length_8abf5_J0_coder_7d493 : GoodIn wsJ0_length_8abf5 (wsV RJ0 335 RJ0 yJ0_coder_7d493 wsJ0_coder_7d493) := goodIn_app (goodIn_of _ (by decide +kernel)) ggJ0_length_8abf5_J0_coder_7d493
theorem dJ0_length_8abf5_0 : decode cJ0_length_8abf5 0 = .ok (.aload_n 0, 1) := by decide +kernel
theorem dJ0_length_8abf5_1 : decode cJ0_length_8abf5 1 = .ok (.getfield 9, 3) := by decide +kernel
theorem dJ0_length_8abf5_4 : decode cJ0_length_8abf5 4 = .ok (.arraylength, 1) := by decide +kernel
theorem dJ0_length_8abf5_5 : decode cJ0_length_8abf5 5 = .ok (.aload_n 0, 1) := by decide +kernel
theorem dJ0_length_8abf5_6 : decode cJ0_length_8abf5 6 = .ok (.invokevirtual 335, 3) := by decide +kernel
theorem dJ0_length_8abf5_9 : decode cJ0_length_8abf5 9 = .ok (.ishr, 1) := by decide +kernel
theorem dJ0_length_8abf5_10 : decode cJ0_length_8abf5 10 = .ok (.ireturn, 1) := by decide +kernel
set_option maxRecDepth 20000 in
theorem ggJ0_charAt_5068e_J0_isLatin1_aae02 : GoodIn wsJ0_charAt_5068e wsJ0_isLatin1_aae02 := goodIn_r _ [6, 7, 8] (by decide +kernel) (by decide +kernel)
set_option maxRecDepth 20000 in
theorem gJ0_charAt_5068e_J0_isLatin1_aae02 : GoodIn wsJ0_charAt_5068e (wsV RJ0 492 RJ0 yJ0_isLatin1_aae02 wsJ0_isLatin1_aae02) := goodIn_app (goodIn_of _ (by decide +kernel)) ggJ0_charAt_5068e_J0_isLatin1_aae02
set_option maxRecDepth 20000 in
theorem ggJ0_charAt_5068e_J1_charAt_3b067 : GoodIn wsJ0_charAt_5068e wsJ1_charAt_3b067 := goodIn_r _ [12, 13, 14, 5, 15, 16, 17, 18, 19, 20] (by decide +kernel) (by decide +kernel)
set_option maxRecDepth 20000 in
theorem gJ0_charAt_5068e_J1_charAt_3b067 : GoodIn wsJ0_charAt_5068e (va_wsS RJ0 495 yJ1_charAt_3b067 wsJ1_charAt_3b067) := goodIn_app (goodIn_of _ (by decide +kernel)) ggJ0_charAt_5068e_J1_charAt_3b067
set_option maxRecDepth 20000 in
theorem ggJ0_charAt_5068e_J2_charAt_3b067 : GoodIn wsJ0_charAt_5068e wsJ2_charAt_3b067 := goodIn_r _ [24, 25, 26, 23, 27, 28, 29, 30, 31, 14, 5, 15, 16, 17, 18, 19, 20, 32, 33, 34, 35, 36, 37] (by decide +kernel) (by decide +kernel)
set_option maxRecDepth 20000 in
theorem gJ0_charAt_5068e_J2_charAt_3b067 : GoodIn wsJ0_charAt_5068e (va_wsS RJ0 498 yJ2_charAt_3b067 wsJ2_charAt_3b067) := goodIn_app (goodIn_of _ (by decide +kernel)) ggJ0_charAt_5068e_J2_charAt_3b067
theorem dJ0_charAt_5068e_0 : decode cJ0_charAt_5068e 0 = .ok (.aload_n 0, 1) := by decide +kernel
theorem dJ0_charAt_5068e_1 : decode cJ0_charAt_5068e 1 = .ok (.invokevirtual 492, 3) := by decide +kernel
theorem dJ0_charAt_5068e_4 : decode cJ0_charAt_5068e 4 = .ok (.ifCond .eq 12, 3) := by decide +kernel
theorem dJ0_charAt_5068e_7 : decode cJ0_charAt_5068e 7 = .ok (.aload_n 0, 1) := by decide +kernel
theorem dJ0_charAt_5068e_8 : decode cJ0_charAt_5068e 8 = .ok (.getfield 9, 3) := by decide +kernel
theorem dJ0_charAt_5068e_11 : decode cJ0_charAt_5068e 11 = .ok (.iload_n 1, 1) := by decide +kernel
theorem dJ0_charAt_5068e_12 : decode cJ0_charAt_5068e 12 = .ok (.invokestatic 495, 3) := by decide +kernel
theorem dJ0_charAt_5068e_15 : decode cJ0_charAt_5068e 15 = .ok (.ireturn, 1) := by decide +kernel
theorem dJ0_charAt_5068e_16 : decode cJ0_charAt_5068e 16 = .ok (.aload_n 0, 1) := by decide +kernel
theorem dJ0_charAt_5068e_17 : decode cJ0_charAt_5068e 17 = .ok (.getfield 9, 3) := by decide +kernel
theorem dJ0_charAt_5068e_20 : decode cJ0_charAt_5068e 20 = .ok (.iload_n 1, 1) := by decide +kernel
theorem dJ0_charAt_5068e_21 : decode cJ0_charAt_5068e 21 = .ok (.invokestatic 498, 3) := by decide +kernel
theorem dJ0_charAt_5068e_24 : decode cJ0_charAt_5068e 24 = .ok (.ireturn, 1) := by decide +kernel
theorem dJ0_coder_7d493_0 : decode cJ0_coder_7d493 0 = .ok (.getstatic 38, 3) := by decide +kernel
theorem dJ0_coder_7d493_3 : decode cJ0_coder_7d493 3 = .ok (.ifCond .eq 10, 3) := by decide +kernel
theorem dJ0_coder_7d493_6 : decode cJ0_coder_7d493 6 = .ok (.aload_n 0, 1) := by decide +kernel
theorem dJ0_coder_7d493_7 : decode cJ0_coder_7d493 7 = .ok (.getfield 15, 3) := by decide +kernel
theorem dJ0_coder_7d493_10 : decode cJ0_coder_7d493 10 = .ok (.goto 4, 3) := by decide +kernel
theorem dJ0_coder_7d493_13 : decode cJ0_coder_7d493 13 = .ok (.iconst 1, 1) := by decide +kernel
theorem dJ0_coder_7d493_14 : decode cJ0_coder_7d493 14 = .ok (.ireturn, 1) := by decide +kernel
theorem dJ0_isLatin1_aae02_0 : decode cJ0_isLatin1_aae02 0 = .ok (.getstatic 38, 3) := by decide +kernel
theorem dJ0_isLatin1_aae02_3 : decode cJ0_isLatin1_aae02 3 = .ok (.ifCond .eq 14, 3) := by decide +kernel
theorem dJ0_isLatin1_aae02_6 : decode cJ0_isLatin1_aae02 6 = .ok (.aload_n 0, 1) := by decide +kernel
theorem dJ0_isLatin1_aae02_7 : decode cJ0_isLatin1_aae02 7 = .ok (.getfield 15, 3) := by decide +kernel
theorem dJ0_isLatin1_aae02_10 : decode cJ0_isLatin1_aae02 10 = .ok (.ifCond .ne 7, 3) := by decide +kernel
theorem dJ0_isLatin1_aae02_13 : decode cJ0_isLatin1_aae02 13 = .ok (.iconst 1, 1) := by decide +kernel
theorem dJ0_isLatin1_aae02_14 : decode cJ0_isLatin1_aae02 14 = .ok (.goto 4, 3) := by decide +kernel
theorem dJ0_isLatin1_aae02_17 : decode cJ0_isLatin1_aae02 17 = .ok (.iconst 0, 1) := by decide +kernel
theorem dJ0_isLatin1_aae02_18 : decode cJ0_isLatin1_aae02 18 = .ok (.ireturn, 1) := by decide +kernel
set_option maxRecDepth 20000 in
theorem ggJ0_checkIndex_df160_J3_checkIndex_8e157 : GoodIn wsJ0_checkIndex_df160 wsJ3_checkIndex_8e157 := goodIn_r _ [5] (by decide +kernel) (by decide +kernel)
set_option maxRecDepth 20000 in
theorem gJ0_checkIndex_df160_J3_checkIndex_8e157 : GoodIn wsJ0_checkIndex_df160 (va_wsS RJ0 1059 yJ3_checkIndex_8e157 wsJ3_checkIndex_8e157) := goodIn_app (goodIn_of _ (by decide +kernel)) ggJ0_checkIndex_df160_J3_checkIndex_8e157
theorem dJ0_checkIndex_df160_0 : decode cJ0_checkIndex_df160 0 = .ok (.iload_n 0, 1) := by decide +kernel
theorem dJ0_checkIndex_df160_1 : decode cJ0_checkIndex_df160 1 = .ok (.iload_n 1, 1) := by decide +kernel
theorem dJ0_checkIndex_df160_2 : decode cJ0_checkIndex_df160 2 = .ok (.getstatic 1053, 3) := by decide +kernel
theorem dJ0_checkIndex_df160_5 : decode cJ0_checkIndex_df160 5 = .ok (.invokestatic 1059, 3) := by decide +kernel
theorem dJ0_checkIndex_df160_8 : decode cJ0_checkIndex_df160 8 = .ok (.pop, 1) := by decide +kernel
theorem dJ0_checkIndex_df160_9 : decode cJ0_checkIndex_df160 9 = .ok (.return_, 1) := by decide +kernel
set_option maxRecDepth 20000 in
theorem ggJ1_charAt_3b067_J0_checkIndex_df160 : GoodIn wsJ1_charAt_3b067 wsJ0_checkIndex_df160 := goodIn_r _ [4, 5, 6, 7, 8, 9] (by decide +kernel) (by decide +kernel)
set_option maxRecDepth 20000 in
theorem gJ1_charAt_3b067_J0_checkIndex_df160 : GoodIn wsJ1_charAt_3b067 (va_wsS RJ1 9 yJ0_checkIndex_df160 wsJ0_checkIndex_df160) := goodIn_app (goodIn_of _ (by decide +kernel)) ggJ1_charAt_3b067_J0_checkIndex_df160
theorem dJ1_charAt_3b067_0 : decode cJ1_charAt_3b067 0 = .ok (.iload_n 1, 1) := by decide +kernel
theorem dJ1_charAt_3b067_1 : decode cJ1_charAt_3b067 1 = .ok (.aload_n 0, 1) := by decide +kernel
theorem dJ1_charAt_3b067_2 : decode cJ1_charAt_3b067 2 = .ok (.arraylength, 1) := by decide +kernel
theorem dJ1_charAt_3b067_3 : decode cJ1_charAt_3b067 3 = .ok (.invokestatic 9, 3) := by decide +kernel
theorem dJ1_charAt_3b067_6 : decode cJ1_charAt_3b067 6 = .ok (.aload_n 0, 1) := by decide +kernel
theorem dJ1_charAt_3b067_7 : decode cJ1_charAt_3b067 7 = .ok (.iload_n 1, 1) := by decide +kernel
theorem dJ1_charAt_3b067_8 : decode cJ1_charAt_3b067 8 = .ok (.baload, 1) := by decide +kernel
theorem dJ1_charAt_3b067_9 : decode cJ1_charAt_3b067 9 = .ok (.sipush 255, 3) := by decide +kernel
theorem dJ1_charAt_3b067_12 : decode cJ1_charAt_3b067 12 = .ok (.iand, 1) := by decide +kernel
theorem dJ1_charAt_3b067_13 : decode cJ1_charAt_3b067 13 = .ok (.i2c, 1) := by decide +kernel
theorem dJ1_charAt_3b067_14 : decode cJ1_charAt_3b067 14 = .ok (.ireturn, 1) := by decide +kernel
set_option maxRecDepth 20000 in
theorem ggJ2_getChar_3b067_J2_length_9d52b : GoodIn wsJ2_getChar_3b067 wsJ2_length_9d52b := goodIn_r _ [7] (by decide +kernel) (by decide +kernel)
set_option maxRecDepth 20000 in
theorem gJ2_getChar_3b067_J2_length_9d52b : GoodIn wsJ2_getChar_3b067 (va_wsS RJ2 48 yJ2_length_9d52b wsJ2_length_9d52b) := goodIn_app (goodIn_of _ (by decide +kernel)) ggJ2_getChar_3b067_J2_length_9d52b
theorem dJ2_getChar_3b067_0 : decode cJ2_getChar_3b067 0 = .ok (.getstatic 44, 3) := by decide +kernel
theorem dJ2_getChar_3b067_3 : decode cJ2_getChar_3b067 3 = .ok (.ifCond .ne 25, 3) := by decide +kernel
theorem dJ2_getChar_3b067_6 : decode cJ2_getChar_3b067 6 = .ok (.iload_n 1, 1) := by decide +kernel
theorem dJ2_getChar_3b067_7 : decode cJ2_getChar_3b067 7 = .ok (.ifCond .lt 11, 3) := by decide +kernel
theorem dJ2_getChar_3b067_10 : decode cJ2_getChar_3b067 10 = .ok (.iload_n 1, 1) := by decide +kernel
theorem dJ2_getChar_3b067_11 : decode cJ2_getChar_3b067 11 = .ok (.aload_n 0, 1) := by decide +kernel
theorem dJ2_getChar_3b067_12 : decode cJ2_getChar_3b067 12 = .ok (.invokestatic 48, 3) := by decide +kernel
theorem dJ2_getChar_3b067_15 : decode cJ2_getChar_3b067 15 = .ok (.if_icmp .lt 13, 3) := by decide +kernel
theorem dJ2_getChar_3b067_18 : decode cJ2_getChar_3b067 18 = .ok (.new 52, 3) := by decide +kernel
theorem dJ2_getChar_3b067_21 : decode cJ2_getChar_3b067 21 = .ok (.dup, 1) := by decide +kernel
theorem dJ2_getChar_3b067_22 : decode cJ2_getChar_3b067 22 = .ok (.ldc 54, 2) := by decide +kernel
theorem dJ2_getChar_3b067_24 : decode cJ2_getChar_3b067 24 = .ok (.invokespecial 56, 3) := by decide +kernel
theorem dJ2_getChar_3b067_27 : decode cJ2_getChar_3b067 27 = .ok (.athrow, 1) := by decide +kernel
theorem dJ2_getChar_3b067_28 : decode cJ2_getChar_3b067 28 = .ok (.iload_n 1, 1) := by decide +kernel
theorem dJ2_getChar_3b067_29 : decode cJ2_getChar_3b067 29 = .ok (.iconst 1, 1) := by decide +kernel
theorem dJ2_getChar_3b067_30 : decode cJ2_getChar_3b067 30 = .ok (.ishl, 1) := by decide +kernel
theorem dJ2_getChar_3b067_31 : decode cJ2_getChar_3b067 31 = .ok (.istore_n 1, 1) := by decide +kernel
theorem dJ2_getChar_3b067_32 : decode cJ2_getChar_3b067 32 = .ok (.aload_n 0, 1) := by decide +kernel
theorem dJ2_getChar_3b067_33 : decode cJ2_getChar_3b067 33 = .ok (.iload_n 1, 1) := by decide +kernel
theorem dJ2_getChar_3b067_34 : decode cJ2_getChar_3b067 34 = .ok (.iinc 1 1, 3) := by decide +kernel
theorem dJ2_getChar_3b067_37 : decode cJ2_getChar_3b067 37 = .ok (.baload, 1) := by decide +kernel
theorem dJ2_getChar_3b067_38 : decode cJ2_getChar_3b067 38 = .ok (.sipush 255, 3) := by decide +kernel
theorem dJ2_getChar_3b067_41 : decode cJ2_getChar_3b067 41 = .ok (.iand, 1) := by decide +kernel
theorem dJ2_getChar_3b067_42 : decode cJ2_getChar_3b067 42 = .ok (.getstatic 59, 3) := by decide +kernel
theorem dJ2_getChar_3b067_45 : decode cJ2_getChar_3b067 45 = .ok (.ishl, 1) := by decide +kernel
theorem dJ2_getChar_3b067_46 : decode cJ2_getChar_3b067 46 = .ok (.aload_n 0, 1) := by decide +kernel
theorem dJ2_getChar_3b067_47 : decode cJ2_getChar_3b067 47 = .ok (.iload_n 1, 1) := by decide +kernel
theorem dJ2_getChar_3b067_48 : decode cJ2_getChar_3b067 48 = .ok (.baload, 1) := by decide +kernel
theorem dJ2_getChar_3b067_49 : decode cJ2_getChar_3b067 49 = .ok (.sipush 255, 3) := by decide +kernel
theorem dJ2_getChar_3b067_52 : decode cJ2_getChar_3b067 52 = .ok (.iand, 1) := by decide +kernel
theorem dJ2_getChar_3b067_53 : decode cJ2_getChar_3b067 53 = .ok (.getstatic 63, 3) := by decide +kernel
theorem dJ2_getChar_3b067_56 : decode cJ2_getChar_3b067 56 = .ok (.ishl, 1) := by decide +kernel
theorem dJ2_getChar_3b067_57 : decode cJ2_getChar_3b067 57 = .ok (.ior, 1) := by decide +kernel
theorem dJ2_getChar_3b067_58 : decode cJ2_getChar_3b067 58 = .ok (.i2c, 1) := by decide +kernel
theorem dJ2_getChar_3b067_59 : decode cJ2_getChar_3b067 59 = .ok (.ireturn, 1) := by decide +kernel
theorem dJ2_length_9d52b_0 : decode cJ2_length_9d52b 0 = .ok (.aload_n 0, 1) := by decide +kernel
theorem dJ2_length_9d52b_1 : decode cJ2_length_9d52b 1 = .ok (.arraylength, 1) := by decide +kernel
theorem dJ2_length_9d52b_2 : decode cJ2_length_9d52b 2 = .ok (.iconst 1, 1) := by decide +kernel
theorem dJ2_length_9d52b_3 : decode cJ2_length_9d52b 3 = .ok (.ishr, 1) := by decide +kernel
theorem dJ2_length_9d52b_4 : decode cJ2_length_9d52b 4 = .ok (.ireturn, 1) := by decide +kernel
set_option maxRecDepth 20000 in
theorem ggJ2_charAt_3b067_J2_checkIndex_2214a : GoodIn wsJ2_charAt_3b067 wsJ2_checkIndex_2214a := goodIn_r _ [4, 5, 6, 3, 7, 8, 9, 10, 11, 12, 13, 14, 15, 16] (by decide +kernel) (by decide +kernel)
set_option maxRecDepth 20000 in
theorem gJ2_charAt_3b067_J2_checkIndex_2214a : GoodIn wsJ2_charAt_3b067 (va_wsS RJ2 67 yJ2_checkIndex_2214a wsJ2_checkIndex_2214a) := goodIn_app (goodIn_of _ (by decide +kernel)) ggJ2_charAt_3b067_J2_checkIndex_2214a
set_option maxRecDepth 20000 in
theorem ggJ2_charAt_3b067_J2_getChar_3b067 : GoodIn wsJ2_charAt_3b067 wsJ2_getChar_3b067 := goodIn_r _ [19, 20, 21, 22, 5, 6, 3, 7] (by decide +kernel) (by decide +kernel)
set_option maxRecDepth 20000 in
theorem gJ2_charAt_3b067_J2_getChar_3b067 : GoodIn wsJ2_charAt_3b067 (va_wsS RJ2 71 yJ2_getChar_3b067 wsJ2_getChar_3b067) := goodIn_app (goodIn_of _ (by decide +kernel)) ggJ2_charAt_3b067_J2_getChar_3b067
theorem dJ2_charAt_3b067_0 : decode cJ2_charAt_3b067 0 = .ok (.iload_n 1, 1) := by decide +kernel
theorem dJ2_charAt_3b067_1 : decode cJ2_charAt_3b067 1 = .ok (.aload_n 0, 1) := by decide +kernel
theorem dJ2_charAt_3b067_2 : decode cJ2_charAt_3b067 2 = .ok (.invokestatic 67, 3) := by decide +kernel
theorem dJ2_charAt_3b067_5 : decode cJ2_charAt_3b067 5 = .ok (.aload_n 0, 1) := by decide +kernel
theorem dJ2_charAt_3b067_6 : decode cJ2_charAt_3b067 6 = .ok (.iload_n 1, 1) := by decide +kernel
theorem dJ2_charAt_3b067_7 : decode cJ2_charAt_3b067 7 = .ok (.invokestatic 71, 3) := by decide +kernel
theorem dJ2_charAt_3b067_10 : decode cJ2_charAt_3b067 10 = .ok (.ireturn, 1) := by decide +kernel
set_option maxRecDepth 20000 in
theorem ggJ2_checkIndex_2214a_J2_length_9d52b : GoodIn wsJ2_checkIndex_2214a wsJ2_length_9d52b := goodIn_r _ [4] (by decide +kernel) (by decide +kernel)
set_option maxRecDepth 20000 in
theorem gJ2_checkIndex_2214a_J2_length_9d52b : GoodIn wsJ2_checkIndex_2214a (va_wsS RJ2 48 yJ2_length_9d52b wsJ2_length_9d52b) := goodIn_app (goodIn_of _ (by decide +kernel)) ggJ2_checkIndex_2214a_J2_length_9d52b
set_option maxRecDepth 20000 in
theorem ggJ2_checkIndex_2214a_J0_checkIndex_df160 : GoodIn wsJ2_checkIndex_2214a wsJ0_checkIndex_df160 := goodIn_r _ [8, 9, 10, 11, 12, 13] (by decide +kernel) (by decide +kernel)
set_option maxRecDepth 20000 in
theorem gJ2_checkIndex_2214a_J0_checkIndex_df160 : GoodIn wsJ2_checkIndex_2214a (va_wsS RJ2 414 yJ0_checkIndex_df160 wsJ0_checkIndex_df160) := goodIn_app (goodIn_of _ (by decide +kernel)) ggJ2_checkIndex_2214a_J0_checkIndex_df160
theorem dJ2_checkIndex_2214a_0 : decode cJ2_checkIndex_2214a 0 = .ok (.iload_n 0, 1) := by decide +kernel
theorem dJ2_checkIndex_2214a_1 : decode cJ2_checkIndex_2214a 1 = .ok (.aload_n 1, 1) := by decide +kernel
theorem dJ2_checkIndex_2214a_2 : decode cJ2_checkIndex_2214a 2 = .ok (.invokestatic 48, 3) := by decide +kernel
theorem dJ2_checkIndex_2214a_5 : decode cJ2_checkIndex_2214a 5 = .ok (.invokestatic 414, 3) := by decide +kernel
theorem dJ2_checkIndex_2214a_8 : decode cJ2_checkIndex_2214a 8 = .ok (.return_, 1) := by decide +kernel
theorem dJ3_checkIndex_8e157_0 : decode cJ3_checkIndex_8e157 0 = .ok (.iload_n 0, 1) := by decide +kernel
theorem dJ3_checkIndex_8e157_1 : decode cJ3_checkIndex_8e157 1 = .ok (.ifCond .lt 8, 3) := by decide +kernel
theorem dJ3_checkIndex_8e157_4 : decode cJ3_checkIndex_8e157 4 = .ok (.iload_n 0, 1) := by decide +kernel
theorem dJ3_checkIndex_8e157_5 : decode cJ3_checkIndex_8e157 5 = .ok (.iload_n 1, 1) := by decide +kernel
theorem dJ3_checkIndex_8e157_6 : decode cJ3_checkIndex_8e157 6 = .ok (.if_icmp .lt 10, 3) := by decide +kernel
theorem dJ3_checkIndex_8e157_9 : decode cJ3_checkIndex_8e157 9 = .ok (.aload_n 2, 1) := by decide +kernel
theorem dJ3_checkIndex_8e157_10 : decode cJ3_checkIndex_8e157 10 = .ok (.iload_n 0, 1) := by decide +kernel
theorem dJ3_checkIndex_8e157_11 : decode cJ3_checkIndex_8e157 11 = .ok (.iload_n 1, 1) := by decide +kernel
theorem dJ3_checkIndex_8e157_12 : decode cJ3_checkIndex_8e157 12 = .ok (.invokestatic 95, 3) := by decide +kernel
theorem dJ3_checkIndex_8e157_15 : decode cJ3_checkIndex_8e157 15 = .ok (.athrow, 1) := by decide +kernel
theorem dJ3_checkIndex_8e157_16 : decode cJ3_checkIndex_8e157 16 = .ok (.iload_n 0, 1) := by decide +kernel
theorem dJ3_checkIndex_8e157_17 : decode cJ3_checkIndex_8e157 17 = .ok (.ireturn, 1) := by decide +kernel
set_option maxRecDepth 20000 in
theorem ggL_load_X7_load : GoodIn wsL_load wsX7_load := goodIn_ca (goodIn_r _ [6, 7, 8, 9, 10, 11, 12, 13, 14, 15, 16, 17, 18, 19, 20, 21, 22, 23, 24, 25, 26, 27, 28, 29, 30, 31, 32, 33, 34, 35, 36, 37, 38, 39, 40, 41, 42, 43, 44, 45, 46, 47, 48, 49, 50, 51, 52, 53, 54, 55, 56, 57, 58, 59, 60, 61, 62, 63, 64, 65, 66, 67, 68, 69, 70, 71, 72, 73, 74, 75, 76, 77, 78, 79, 80, 81, 82, 83, 84, 85, 86, 87, 88, 89, 90, 91, 92, 93, 94, 95, 96, 97, 98, 99, 100, 101, 102, 103, 104, 105, 106, 107, 108, 109, 110, 111, 112, 113, 114, 115, 116, 117, 118, 119, 120, 121, 122, 123, 124, 125, 126, 127, 128, 129, 130, 131, 132, 133, 134, 135, 136, 137, 138, 139, 140, 141, 142, 143, 144, 145, 146, 147, 148, 149, 150, 151, 152, 153, 154, 155, 156, 157, 158, 159, 160, 161, 162, 163, 164, 165, 166, 167, 168, 169, 170, 171, 172, 173, 174, 175, 176, 177, 178, 179, 180, 181, 182, 183, 184, 185, 186, 187, 188, 189, 190, 191, 192, 193, 194, 195, 196, 197, 198, 199, 200, 201, 202, 203, 204, 205, 206, 207, 208, 209, 210, 211, 212, 213, 214, 215, 216, 217, 218, 219, 220, 221, 222, 223, 224, 225, 226, 227, 228, 229, 230, 231, 232, 233, 234, 235, 236, 237, 238, 239, 240, 241, 242, 243, 244, 245, 246, 247, 248, 249, 250, 251, 252, 253, 254, 255, 256, 257, 258, 259, 260, 261, 262, 263, 264, 265, 266, 5, 267, 268, 269, 270, 271, 272, 273, 274, 275, 276, 277, 278, 279, 280, 281, 282, 283, 284, 285, 286, 287, 288, 289, 290, 291, 292, 293, 294, 295, 296, 297, 298, 299, 300, 301, 302, 303, 304, 305, 306, 307, 308, 309, 310, 311, 312, 313, 314, 315] (by decide +kernel) (by decide +kernel)) (goodIn_sub (fun _ h => List.mem_cons_of_mem _ (List.mem_append_right _ h)) (by decide +kernel))
set_option maxRecDepth 20000 in
theorem gL_load_X7_load : GoodIn wsL_load (wsV RL 7 RX7 yX7_load wsX7_load) := goodIn_app (goodIn_of _ (by decide +kernel)) ggL_load_X7_load
theorem dL_load_0 : decode cL_load 0 = .ok (.aload_n 2, 1) := by decide +kernel
theorem dL_load_1 : decode cL_load 1 = .ok (.iconst 0, 1) := by decide +kernel
theorem dL_load_2 : decode cL_load 2 = .ok (.aload_n 0, 1) := by decide +kernel
theorem dL_load_3 : decode cL_load 3 = .ok (.iload_n 1, 1) := by decide +kernel
theorem dL_load_4 : decode cL_load 4 = .ok (.invokevirtual 7, 3) := by decide +kernel
theorem dL_load_7 : decode cL_load 7 = .ok (.i2l, 1) := by decide +kernel
theorem dL_load_8 : decode cL_load 8 = .ok (.lastore, 1) := by decide +kernel
theorem dL_load_9 : decode cL_load 9 = .ok (.goto 6, 3) := by decide +kernel
theorem dL_load_12 : decode cL_load 12 = .ok (.astore_n 3, 1) := by decide +kernel
theorem dL_load_13 : decode cL_load 13 = .ok (.iconst 1, 1) := by decide +kernel
theorem dL_load_14 : decode cL_load 14 = .ok (.ireturn, 1) := by decide +kernel
theorem dL_load_15 : decode cL_load 15 = .ok (.iconst 0, 1) := by decide +kernel
theorem dL_load_16 : decode cL_load 16 = .ok (.ireturn, 1) := by decide +kernel
set_option maxRecDepth 20000 in
theorem ggL_state_X7_state : GoodIn wsL_state wsX7_state := goodIn_ca (goodIn_r _ [6, 7, 8, 9, 10, 11, 12, 13, 14, 15, 16, 17, 18, 19, 20, 21, 22, 23, 24, 25, 26, 27, 28, 29, 30, 31, 32, 33, 34, 35, 36, 37, 38, 39, 40, 5, 41, 42, 43, 44, 45, 46, 47, 48, 49, 50, 51, 52, 53, 54, 55, 56, 57, 58, 59, 60, 61, 62, 63, 64, 65, 66, 67, 68, 69, 70, 71, 72, 73, 74, 75, 76, 77, 78, 79, 80, 81, 82, 83, 84, 85, 86, 87, 88, 89, 90, 91, 92, 93, 94, 95, 96, 97, 98, 99, 100, 101, 102, 103, 104, 105, 106, 107, 108, 109, 110, 111, 112, 113, 114, 115, 116, 117, 118, 119, 120, 121, 122, 123, 124, 125, 126, 127, 128, 129, 130, 131, 132, 133, 134, 135, 136, 137, 138, 139, 140, 141, 142, 143, 144, 145, 146, 147, 148, 149, 150, 151, 152, 153, 154, 155, 156, 157, 158, 159, 160, 161, 162, 163, 164, 165, 166, 167, 168, 169, 170, 171, 172, 173, 174, 175, 176, 177, 178] (by decide +kernel) (by decide +kernel)) (goodIn_sub (fun _ h => List.mem_cons_of_mem _ (List.mem_append_right _ h)) (by decide +kernel))
set_option maxRecDepth 20000 in
theorem gL_state_X7_state : GoodIn wsL_state (wsV RL 15 RX7 yX7_state wsX7_state) := goodIn_app (goodIn_of _ (by decide +kernel)) ggL_state_X7_state
theorem dL_state_0 : decode cL_state 0 = .ok (.aload_n 2, 1) := by decide +kernel
theorem dL_state_1 : decode cL_state 1 = .ok (.iconst 0, 1) := by decide +kernel
theorem dL_state_2 : decode cL_state 2 = .ok (.aload_n 0, 1) := by decide +kernel
theorem dL_state_3 : decode cL_state 3 = .ok (.iload_n 1, 1) := by decide +kernel
theorem dL_state_4 : decode cL_state 4 = .ok (.invokevirtual 15, 3) := by decide +kernel
theorem dL_state_7 : decode cL_state 7 = .ok (.i2l, 1) := by decide +kernel
theorem dL_state_8 : decode cL_state 8 = .ok (.lastore, 1) := by decide +kernel
theorem dL_state_9 : decode cL_state 9 = .ok (.goto 6, 3) := by decide +kernel
theorem dL_state_12 : decode cL_state 12 = .ok (.astore_n 3, 1) := by decide +kernel
theorem dL_state_13 : decode cL_state 13 = .ok (.iconst 1, 1) := by decide +kernel
theorem dL_state_14 : decode cL_state 14 = .ok (.ireturn, 1) := by decide +kernel
theorem dL_state_15 : decode cL_state 15 = .ok (.iconst 0, 1) := by decide +kernel
theorem dL_state_16 : decode cL_state 16 = .ok (.ireturn, 1) := by decide +kernel
set_option maxRecDepth 20000 in
theorem ggL_wire_X7_wire : GoodIn wsL_wire wsX7_wire := goodIn_ca (goodIn_ca (goodIn_r _ [7, 8, 9, 10, 11, 12, 13, 14, 15, 16, 17, 18, 6, 19, 20, 21, 22, 23, 24, 25, 26, 27, 28, 29, 30, 31, 32, 33, 34, 35, 36, 37, 38, 39, 40, 41, 42, 43, 44, 45, 46, 47, 48, 49, 50, 51, 52, 53, 54, 55, 56, 57] (by decide +kernel) (by decide +kernel)) (goodIn_sub (fun _ h => List.mem_cons_of_mem _ (List.mem_append_left _ (List.mem_append_right _ h))) (by decide +kernel))) (goodIn_sub (fun _ h => List.mem_cons_of_mem _ (List.mem_append_right _ h)) (by decide +kernel))
set_option maxRecDepth 20000 in
theorem gL_wire_X7_wire : GoodIn wsL_wire (wsV RL 18 RX7 yX7_wire wsX7_wire) := goodIn_app (goodIn_of _ (by decide +kernel)) ggL_wire_X7_wire
theorem dL_wire_0 : decode cL_wire 0 = .ok (.aload_n 3, 1) := by decide +kernel
theorem dL_wire_1 : decode cL_wire 1 = .ok (.iconst 0, 1) := by decide +kernel
theorem dL_wire_2 : decode cL_wire 2 = .ok (.aload_n 0, 1) := by decide +kernel
theorem dL_wire_3 : decode cL_wire 3 = .ok (.iload_n 1, 1) := by decide +kernel
theorem dL_wire_4 : decode cL_wire 4 = .ok (.iload_n 2, 1) := by decide +kernel
theorem dL_wire_5 : decode cL_wire 5 = .ok (.invokevirtual 18, 3) := by decide +kernel
theorem dL_wire_8 : decode cL_wire 8 = .ok (.i2l, 1) := by decide +kernel
theorem dL_wire_9 : decode cL_wire 9 = .ok (.lastore, 1) := by decide +kernel
theorem dL_wire_10 : decode cL_wire 10 = .ok (.goto 11, 3) := by decide +kernel
theorem dL_wire_13 : decode cL_wire 13 = .ok (.astore 4, 2) := by decide +kernel
theorem dL_wire_15 : decode cL_wire 15 = .ok (.iconst 1, 1) := by decide +kernel
theorem dL_wire_16 : decode cL_wire 16 = .ok (.ireturn, 1) := by decide +kernel
theorem dL_wire_17 : decode cL_wire 17 = .ok (.astore 4, 2) := by decide +kernel
theorem dL_wire_19 : decode cL_wire 19 = .ok (.iconst 2, 1) := by decide +kernel
theorem dL_wire_20 : decode cL_wire 20 = .ok (.ireturn, 1) := by decide +kernel
theorem dL_wire_21 : decode cL_wire 21 = .ok (.iconst 0, 1) := by decide +kernel
theorem dL_wire_22 : decode cL_wire 22 = .ok (.ireturn, 1) := by decide +kernel
set_option maxRecDepth 20000 in
theorem ggL_operand_X7_operand : GoodIn wsL_operand wsX7_operand := goodIn_ca (goodIn_ca (goodIn_r _ [7, 8, 9, 10, 11, 12, 13, 14, 15, 16, 6, 17, 18, 19, 20, 21, 22, 23, 24, 25, 26, 27, 28, 29, 30, 31, 32, 33, 34, 35, 36, 37, 38, 39, 40, 41, 42, 43, 44, 45, 46, 47, 48] (by decide +kernel) (by decide +kernel)) (goodIn_sub (fun _ h => List.mem_cons_of_mem _ (List.mem_append_left _ (List.mem_append_right _ h))) (by decide +kernel))) (goodIn_sub (fun _ h => List.mem_cons_of_mem _ (List.mem_append_right _ h)) (by decide +kernel))
set_option maxRecDepth 20000 in
theorem gL_operand_X7_operand : GoodIn wsL_operand (wsV RL 24 RX7 yX7_operand wsX7_operand) := goodIn_app (goodIn_of _ (by decide +kernel)) ggL_operand_X7_operand
theorem dL_operand_0 : decode cL_operand 0 = .ok (.aload_n 3, 1) := by decide +kernel
theorem dL_operand_1 : decode cL_operand 1 = .ok (.iconst 0, 1) := by decide +kernel
theorem dL_operand_2 : decode cL_operand 2 = .ok (.aload_n 0, 1) := by decide +kernel
theorem dL_operand_3 : decode cL_operand 3 = .ok (.iload_n 1, 1) := by decide +kernel
theorem dL_operand_4 : decode cL_operand 4 = .ok (.iload_n 2, 1) := by decide +kernel
theorem dL_operand_5 : decode cL_operand 5 = .ok (.invokevirtual 24, 3) := by decide +kernel
theorem dL_operand_8 : decode cL_operand 8 = .ok (.i2l, 1) := by decide +kernel
theorem dL_operand_9 : decode cL_operand 9 = .ok (.lastore, 1) := by decide +kernel
theorem dL_operand_10 : decode cL_operand 10 = .ok (.goto 11, 3) := by decide +kernel
theorem dL_operand_13 : decode cL_operand 13 = .ok (.astore 4, 2) := by decide +kernel
theorem dL_operand_15 : decode cL_operand 15 = .ok (.iconst 1, 1) := by decide +kernel
theorem dL_operand_16 : decode cL_operand 16 = .ok (.ireturn, 1) := by decide +kernel
theorem dL_operand_17 : decode cL_operand 17 = .ok (.astore 4, 2) := by decide +kernel
theorem dL_operand_19 : decode cL_operand 19 = .ok (.iconst 2, 1) := by decide +kernel
theorem dL_operand_20 : decode cL_operand 20 = .ok (.ireturn, 1) := by decide +kernel
theorem dL_operand_21 : decode cL_operand 21 = .ok (.iconst 0, 1) := by decide +kernel
theorem dL_operand_22 : decode cL_operand 22 = .ok (.ireturn, 1) := by decide +kernel
set_option maxRecDepth 20000 in
theorem ggL_value_X7_value : GoodIn wsL_value wsX7_value := goodIn_ca (goodIn_r _ [6, 7, 8, 9, 10, 11, 5, 12, 13, 14, 15, 16, 17, 18, 19, 20, 21, 22, 23, 24, 25, 26, 27, 28, 29, 30, 31, 32, 33, 34, 35, 36, 37, 38, 39, 40, 41, 42, 43, 44, 45, 46, 47, 48, 49, 50, 51, 52, 53, 54, 55, 56, 57, 58, 59, 60, 61, 62, 63, 64, 65, 66, 67, 68, 69, 70, 71, 72, 73, 74, 75, 76, 77, 78, 79, 80, 81, 82, 83, 84, 85, 86, 87, 88, 89, 90, 91, 92, 93, 94, 95, 96, 97, 98, 99, 100, 101, 102, 103, 104, 105, 106, 107, 108, 109, 110, 111, 112, 113, 114, 115, 116, 117, 118, 119, 120, 121, 122, 123, 124, 125, 126, 127, 128, 129, 130, 131, 132, 133, 134, 135, 136, 137, 138, 139, 140, 141, 142, 143] (by decide +kernel) (by decide +kernel)) (goodIn_sub (fun _ h => List.mem_cons_of_mem _ (List.mem_append_right _ h)) (by decide +kernel))
set_option maxRecDepth 20000 in
theorem gL_value_X7_value : GoodIn wsL_value (wsV RL 29 RX7 yX7_value wsX7_value) := goodIn_app (goodIn_of _ (by decide +kernel)) ggL_value_X7_value
theorem dL_value_0 : decode cL_value 0 = .ok (.aload_n 3, 1) := by decide +kernel
theorem dL_value_1 : decode cL_value 1 = .ok (.iconst 0, 1) := by decide +kernel
theorem dL_value_2 : decode cL_value 2 = .ok (.aload_n 0, 1) := by decide +kernel
theorem dL_value_3 : decode cL_value 3 = .ok (.iload_n 1, 1) := by decide +kernel
theorem dL_value_4 : decode cL_value 4 = .ok (.iload_n 2, 1) := by decide +kernel
theorem dL_value_5 : decode cL_value 5 = .ok (.invokevirtual 29, 3) := by decide +kernel
theorem dL_value_8 : decode cL_value 8 = .ok (.i2l, 1) := by decide +kernel
theorem dL_value_9 : decode cL_value 9 = .ok (.lastore, 1) := by decide +kernel
theorem dL_value_10 : decode cL_value 10 = .ok (.goto 7, 3) := by decide +kernel
theorem dL_value_13 : decode cL_value 13 = .ok (.astore 4, 2) := by decide +kernel
theorem dL_value_15 : decode cL_value 15 = .ok (.iconst 1, 1) := by decide +kernel
theorem dL_value_16 : decode cL_value 16 = .ok (.ireturn, 1) := by decide +kernel
theorem dL_value_17 : decode cL_value 17 = .ok (.iconst 0, 1) := by decide +kernel
theorem dL_value_18 : decode cL_value 18 = .ok (.ireturn, 1) := by decide +kernel
set_option maxRecDepth 20000 in
theorem ggL_faulty_X7_faulty : GoodIn wsL_faulty wsX7_faulty := goodIn_ca (goodIn_r _ [6, 7, 8, 9, 10, 11, 12, 13, 14, 5, 15, 16, 17, 18, 19, 20, 21, 22, 23, 24, 25, 26, 27, 28, 29, 30, 31, 32, 33, 34, 35, 36, 37, 38, 39, 40, 41, 42, 43, 44, 45, 46, 47, 48, 49, 50, 51, 52, 53, 54, 55, 56, 57, 58, 59, 60, 61, 62, 63, 64, 65, 66, 67, 68, 69, 70, 71, 72, 73, 74, 75, 76, 77, 78, 79, 80, 81, 82, 83, 84, 85, 86, 87, 88, 89, 90, 91, 92, 93, 94, 95, 96, 97, 98, 99, 100, 101, 102, 103, 104, 105, 106, 107, 108, 109, 110, 111, 112, 113, 114, 115, 116, 117, 118, 119, 120, 121, 122, 123, 124, 125, 126, 127, 128, 129, 130, 131, 132, 133, 134, 135, 136, 137, 138, 139, 140, 141, 142, 143, 144, 145, 146, 147, 148, 149, 150] (by decide +kernel) (by decide +kernel)) (goodIn_sub (fun _ h => List.mem_cons_of_mem _ (List.mem_append_right _ h)) (by decide +kernel))
set_option maxRecDepth 20000 in
theorem gL_faulty_X7_faulty : GoodIn wsL_faulty (wsV RL 32 RX7 yX7_faulty wsX7_faulty) := goodIn_app (goodIn_of _ (by decide +kernel)) ggL_faulty_X7_faulty
theorem dL_faulty_0 : decode cL_faulty 0 = .ok (.aload 4, 2) := by decide +kernel
theorem dL_faulty_2 : decode cL_faulty 2 = .ok (.iconst 0, 1) := by decide +kernel
theorem dL_faulty_3 : decode cL_faulty 3 = .ok (.aload_n 0, 1) := by decide +kernel
theorem dL_faulty_4 : decode cL_faulty 4 = .ok (.iload_n 1, 1) := by decide +kernel
theorem dL_faulty_5 : decode cL_faulty 5 = .ok (.iload_n 2, 1) := by decide +kernel
theorem dL_faulty_6 : decode cL_faulty 6 = .ok (.iload_n 3, 1) := by decide +kernel
theorem dL_faulty_7 : decode cL_faulty 7 = .ok (.invokevirtual 32, 3) := by decide +kernel
theorem dL_faulty_10 : decode cL_faulty 10 = .ok (.i2l, 1) := by decide +kernel
theorem dL_faulty_11 : decode cL_faulty 11 = .ok (.lastore, 1) := by decide +kernel
theorem dL_faulty_12 : decode cL_faulty 12 = .ok (.goto 7, 3) := by decide +kernel
theorem dL_faulty_15 : decode cL_faulty 15 = .ok (.astore 5, 2) := by decide +kernel
theorem dL_faulty_17 : decode cL_faulty 17 = .ok (.iconst 1, 1) := by decide +kernel
theorem dL_faulty_18 : decode cL_faulty 18 = .ok (.ireturn, 1) := by decide +kernel
theorem dL_faulty_19 : decode cL_faulty 19 = .ok (.iconst 0, 1) := by decide +kernel
theorem dL_faulty_20 : decode cL_faulty 20 = .ok (.ireturn, 1) := by decide +kernel
set_option maxRecDepth 20000 in
theorem ggL_finds_X7_finds : GoodIn wsL_finds wsX7_finds := goodIn_ca (goodIn_r _ [6, 7, 8, 9, 10, 11, 12, 5, 13, 14, 15, 16, 17, 18, 19, 20, 21, 22, 23, 24, 25, 26, 27, 28, 29, 30, 31, 32, 33, 34, 35, 36, 37, 38, 39, 40, 41, 42, 43, 44, 45, 46, 47, 48, 49, 50, 51, 52, 53, 54, 55, 56, 57, 58, 59, 60, 61, 62, 63, 64, 65, 66, 67, 68, 69, 70, 71, 72, 73, 74, 75, 76, 77, 78, 79, 80, 81, 82, 83, 84, 85, 86, 87, 88, 89, 90, 91, 92, 93, 94, 95, 96, 97, 98, 99, 100, 101, 102, 103, 104, 105, 106, 107, 108, 109, 110, 111, 112, 113, 114, 115, 116, 117, 118, 119, 120, 121, 122, 123, 124, 125, 126, 127, 128, 129, 130, 131, 132, 133, 134, 135, 136, 137, 138, 139, 140, 141, 142, 143, 144, 145, 146, 147, 148, 149] (by decide +kernel) (by decide +kernel)) (goodIn_sub (fun _ h => List.mem_cons_of_mem _ (List.mem_append_right _ h)) (by decide +kernel))
set_option maxRecDepth 20000 in
theorem gL_finds_X7_finds : GoodIn wsL_finds (wsV RL 36 RX7 yX7_finds wsX7_finds) := goodIn_app (goodIn_of _ (by decide +kernel)) ggL_finds_X7_finds
theorem dL_finds_0 : decode cL_finds 0 = .ok (.aload_n 3, 1) := by decide +kernel
theorem dL_finds_1 : decode cL_finds 1 = .ok (.iconst 0, 1) := by decide +kernel
theorem dL_finds_2 : decode cL_finds 2 = .ok (.aload_n 0, 1) := by decide +kernel
theorem dL_finds_3 : decode cL_finds 3 = .ok (.iload_n 1, 1) := by decide +kernel
theorem dL_finds_4 : decode cL_finds 4 = .ok (.iload_n 2, 1) := by decide +kernel
theorem dL_finds_5 : decode cL_finds 5 = .ok (.invokevirtual 36, 3) := by decide +kernel
theorem dL_finds_8 : decode cL_finds 8 = .ok (.i2l, 1) := by decide +kernel
theorem dL_finds_9 : decode cL_finds 9 = .ok (.lastore, 1) := by decide +kernel
theorem dL_finds_10 : decode cL_finds 10 = .ok (.goto 7, 3) := by decide +kernel
theorem dL_finds_13 : decode cL_finds 13 = .ok (.astore 4, 2) := by decide +kernel
theorem dL_finds_15 : decode cL_finds 15 = .ok (.iconst 1, 1) := by decide +kernel
theorem dL_finds_16 : decode cL_finds 16 = .ok (.ireturn, 1) := by decide +kernel
theorem dL_finds_17 : decode cL_finds 17 = .ok (.iconst 0, 1) := by decide +kernel
theorem dL_finds_18 : decode cL_finds 18 = .ok (.ireturn, 1) := by decide +kernel
set_option maxRecDepth 20000 in
theorem ggL_tellsApart_X7_tellsApart : GoodIn wsL_tellsApart wsX7_tellsApart := goodIn_ca (goodIn_r _ [6, 7, 8, 9, 10, 11, 12, 5, 13, 14, 15, 16, 17, 18, 19, 20, 21, 22, 23, 24, 25, 26, 27, 28, 29, 30, 31, 32, 33, 34, 35, 36, 37, 38, 39, 40, 41, 42, 43, 44, 45, 46, 47, 48, 49, 50, 51, 52, 53, 54, 55, 56, 57, 58, 59, 60, 61, 62, 63, 64, 65, 66, 67, 68, 69, 70, 71, 72, 73, 74, 75, 76, 77, 78, 79, 80, 81, 82, 83, 84, 85, 86, 87, 88, 89, 90, 91, 92, 93, 94, 95, 96, 97, 98, 99, 100, 101, 102, 103, 104, 105, 106, 107, 108, 109, 110, 111, 112, 113, 114, 115, 116, 117, 118, 119, 120, 121, 122, 123, 124, 125, 126, 127, 128, 129, 130, 131, 132, 133, 134, 135, 136, 137, 138, 139, 140, 141, 142, 143, 144] (by decide +kernel) (by decide +kernel)) (goodIn_sub (fun _ h => List.mem_cons_of_mem _ (List.mem_append_right _ h)) (by decide +kernel))
set_option maxRecDepth 20000 in
theorem gL_tellsApart_X7_tellsApart : GoodIn wsL_tellsApart (wsV RL 39 RX7 yX7_tellsApart wsX7_tellsApart) := goodIn_app (goodIn_of _ (by decide +kernel)) ggL_tellsApart_X7_tellsApart
theorem dL_tellsApart_0 : decode cL_tellsApart 0 = .ok (.aload 4, 2) := by decide +kernel
theorem dL_tellsApart_2 : decode cL_tellsApart 2 = .ok (.iconst 0, 1) := by decide +kernel
theorem dL_tellsApart_3 : decode cL_tellsApart 3 = .ok (.aload_n 0, 1) := by decide +kernel
theorem dL_tellsApart_4 : decode cL_tellsApart 4 = .ok (.iload_n 1, 1) := by decide +kernel
theorem dL_tellsApart_5 : decode cL_tellsApart 5 = .ok (.iload_n 2, 1) := by decide +kernel
theorem dL_tellsApart_6 : decode cL_tellsApart 6 = .ok (.iload_n 3, 1) := by decide +kernel
theorem dL_tellsApart_7 : decode cL_tellsApart 7 = .ok (.invokevirtual 39, 3) := by decide +kernel
theorem dL_tellsApart_10 : decode cL_tellsApart 10 = .ok (.ifCond .eq 7, 3) := by decide +kernel
theorem dL_tellsApart_13 : decode cL_tellsApart 13 = .ok (.lconst 1, 1) := by decide +kernel
theorem dL_tellsApart_14 : decode cL_tellsApart 14 = .ok (.goto 4, 3) := by decide +kernel
theorem dL_tellsApart_17 : decode cL_tellsApart 17 = .ok (.lconst 0, 1) := by decide +kernel
theorem dL_tellsApart_18 : decode cL_tellsApart 18 = .ok (.lastore, 1) := by decide +kernel
theorem dL_tellsApart_19 : decode cL_tellsApart 19 = .ok (.goto 7, 3) := by decide +kernel
theorem dL_tellsApart_22 : decode cL_tellsApart 22 = .ok (.astore 5, 2) := by decide +kernel
theorem dL_tellsApart_24 : decode cL_tellsApart 24 = .ok (.iconst 1, 1) := by decide +kernel
theorem dL_tellsApart_25 : decode cL_tellsApart 25 = .ok (.ireturn, 1) := by decide +kernel
theorem dL_tellsApart_26 : decode cL_tellsApart 26 = .ok (.iconst 0, 1) := by decide +kernel
theorem dL_tellsApart_27 : decode cL_tellsApart 27 = .ok (.ireturn, 1) := by decide +kernel
set_option maxRecDepth 20000 in
theorem ggL_worth_X7_worth : GoodIn wsL_worth wsX7_worth := goodIn_ca (goodIn_r _ [6, 7, 8, 9, 10, 5, 11, 12, 13, 14, 15, 16, 17, 18, 19, 20, 21, 22, 23, 24, 25, 26, 27, 28, 29, 30, 31, 32, 33, 34, 35, 36, 37, 38, 39, 40, 41, 42, 43, 44, 45, 46, 47, 48, 49, 50, 51, 52, 53, 54, 55, 56, 57, 58, 59, 60, 61, 62, 63, 64, 65, 66, 67, 68, 69, 70, 71, 72, 73, 74, 75, 76, 77, 78, 79, 80, 81, 82, 83, 84, 85, 86, 87, 88, 89, 90, 91, 92, 93, 94, 95, 96, 97, 98, 99, 100, 101, 102, 103, 104, 105, 106, 107, 108, 109, 110, 111, 112, 113, 114, 115, 116, 117, 118, 119, 120, 121, 122, 123, 124, 125, 126, 127, 128, 129, 130, 131, 132, 133, 134, 135, 136, 137, 138, 139, 140, 141, 142, 143, 144, 145, 146, 147, 148, 149, 150, 151, 152, 153, 154, 155, 156, 157] (by decide +kernel) (by decide +kernel)) (goodIn_sub (fun _ h => List.mem_cons_of_mem _ (List.mem_append_right _ h)) (by decide +kernel))
set_option maxRecDepth 20000 in
theorem gL_worth_X7_worth : GoodIn wsL_worth (wsV RL 43 RX7 yX7_worth wsX7_worth) := goodIn_app (goodIn_of _ (by decide +kernel)) ggL_worth_X7_worth
theorem dL_worth_0 : decode cL_worth 0 = .ok (.aload_n 2, 1) := by decide +kernel
theorem dL_worth_1 : decode cL_worth 1 = .ok (.iconst 0, 1) := by decide +kernel
theorem dL_worth_2 : decode cL_worth 2 = .ok (.aload_n 0, 1) := by decide +kernel
theorem dL_worth_3 : decode cL_worth 3 = .ok (.iload_n 1, 1) := by decide +kernel
theorem dL_worth_4 : decode cL_worth 4 = .ok (.invokevirtual 43, 3) := by decide +kernel
theorem dL_worth_7 : decode cL_worth 7 = .ok (.i2l, 1) := by decide +kernel
theorem dL_worth_8 : decode cL_worth 8 = .ok (.lastore, 1) := by decide +kernel
theorem dL_worth_9 : decode cL_worth 9 = .ok (.goto 6, 3) := by decide +kernel
theorem dL_worth_12 : decode cL_worth 12 = .ok (.astore_n 3, 1) := by decide +kernel
theorem dL_worth_13 : decode cL_worth 13 = .ok (.iconst 1, 1) := by decide +kernel
theorem dL_worth_14 : decode cL_worth 14 = .ok (.ireturn, 1) := by decide +kernel
theorem dL_worth_15 : decode cL_worth 15 = .ok (.iconst 0, 1) := by decide +kernel
theorem dL_worth_16 : decode cL_worth 16 = .ok (.ireturn, 1) := by decide +kernel
set_option maxRecDepth 20000 in
theorem ggL_testFor_X7_testFor : GoodIn wsL_testFor wsX7_testFor := goodIn_ca (goodIn_r _ [6, 7, 8, 9, 10, 11, 12, 5, 13, 14, 15, 16, 17, 18, 19, 20, 21, 22, 23, 24, 25, 26, 27, 28, 29, 30, 31, 32, 33, 34, 35, 36, 37, 38, 39, 40, 41, 42, 43, 44, 45, 46, 47, 48, 49, 50, 51, 52, 53, 54, 55, 56, 57, 58, 59, 60, 61, 62, 63, 64, 65, 66, 67, 68, 69, 70, 71, 72, 73, 74, 75, 76, 77, 78, 79, 80, 81, 82, 83, 84, 85, 86, 87, 88, 89, 90, 91, 92, 93, 94, 95, 96, 97, 98, 99, 100, 101, 102, 103, 104, 105, 106, 107, 108, 109, 110, 111, 112, 113, 114, 115, 116, 117, 118, 119, 120, 121, 122, 123, 124, 125, 126, 127, 128, 129, 130, 131, 132, 133, 134, 135, 136, 137, 138, 139, 140, 141, 142, 143, 144, 145, 146, 147, 148] (by decide +kernel) (by decide +kernel)) (goodIn_sub (fun _ h => List.mem_cons_of_mem _ (List.mem_append_right _ h)) (by decide +kernel))
set_option maxRecDepth 20000 in
theorem gL_testFor_X7_testFor : GoodIn wsL_testFor (wsV RL 46 RX7 yX7_testFor wsX7_testFor) := goodIn_app (goodIn_of _ (by decide +kernel)) ggL_testFor_X7_testFor
theorem dL_testFor_0 : decode cL_testFor 0 = .ok (.aload_n 2, 1) := by decide +kernel
theorem dL_testFor_1 : decode cL_testFor 1 = .ok (.iconst 0, 1) := by decide +kernel
theorem dL_testFor_2 : decode cL_testFor 2 = .ok (.aload_n 0, 1) := by decide +kernel
theorem dL_testFor_3 : decode cL_testFor 3 = .ok (.iload_n 1, 1) := by decide +kernel
theorem dL_testFor_4 : decode cL_testFor 4 = .ok (.invokevirtual 46, 3) := by decide +kernel
theorem dL_testFor_7 : decode cL_testFor 7 = .ok (.i2l, 1) := by decide +kernel
theorem dL_testFor_8 : decode cL_testFor 8 = .ok (.lastore, 1) := by decide +kernel
theorem dL_testFor_9 : decode cL_testFor 9 = .ok (.goto 6, 3) := by decide +kernel
theorem dL_testFor_12 : decode cL_testFor 12 = .ok (.astore_n 3, 1) := by decide +kernel
theorem dL_testFor_13 : decode cL_testFor 13 = .ok (.iconst 1, 1) := by decide +kernel
theorem dL_testFor_14 : decode cL_testFor 14 = .ok (.ireturn, 1) := by decide +kernel
theorem dL_testFor_15 : decode cL_testFor 15 = .ok (.iconst 0, 1) := by decide +kernel
theorem dL_testFor_16 : decode cL_testFor 16 = .ok (.ireturn, 1) := by decide +kernel
set_option maxRecDepth 20000 in
theorem ggL_testBetween_X7_testBetween : GoodIn wsL_testBetween wsX7_testBetween := goodIn_ca (goodIn_r _ [6, 7, 8, 9, 10, 11, 12, 5, 13, 14, 15, 16, 17, 18, 19, 20, 21, 22, 23, 24, 25, 26, 27, 28, 29, 30, 31, 32, 33, 34, 35, 36, 37, 38, 39, 40, 41, 42, 43, 44, 45, 46, 47, 48, 49, 50, 51, 52, 53, 54, 55, 56, 57, 58, 59, 60, 61, 62, 63, 64, 65, 66, 67, 68, 69, 70, 71, 72, 73, 74, 75, 76, 77, 78, 79, 80, 81, 82, 83, 84, 85, 86, 87, 88, 89, 90, 91, 92, 93, 94, 95, 96, 97, 98, 99, 100, 101, 102, 103, 104, 105, 106, 107, 108, 109, 110, 111, 112, 113, 114, 115, 116, 117, 118, 119, 120, 121, 122, 123, 124, 125, 126, 127, 128, 129, 130, 131, 132, 133, 134, 135, 136, 137, 138, 139, 140, 141, 142, 143, 144, 145, 146, 147, 148] (by decide +kernel) (by decide +kernel)) (goodIn_sub (fun _ h => List.mem_cons_of_mem _ (List.mem_append_right _ h)) (by decide +kernel))
set_option maxRecDepth 20000 in
theorem gL_testBetween_X7_testBetween : GoodIn wsL_testBetween (wsV RL 49 RX7 yX7_testBetween wsX7_testBetween) := goodIn_app (goodIn_of _ (by decide +kernel)) ggL_testBetween_X7_testBetween
theorem dL_testBetween_0 : decode cL_testBetween 0 = .ok (.aload_n 3, 1) := by decide +kernel
theorem dL_testBetween_1 : decode cL_testBetween 1 = .ok (.iconst 0, 1) := by decide +kernel
theorem dL_testBetween_2 : decode cL_testBetween 2 = .ok (.aload_n 0, 1) := by decide +kernel
theorem dL_testBetween_3 : decode cL_testBetween 3 = .ok (.iload_n 1, 1) := by decide +kernel
theorem dL_testBetween_4 : decode cL_testBetween 4 = .ok (.iload_n 2, 1) := by decide +kernel
theorem dL_testBetween_5 : decode cL_testBetween 5 = .ok (.invokevirtual 49, 3) := by decide +kernel
theorem dL_testBetween_8 : decode cL_testBetween 8 = .ok (.i2l, 1) := by decide +kernel
theorem dL_testBetween_9 : decode cL_testBetween 9 = .ok (.lastore, 1) := by decide +kernel
theorem dL_testBetween_10 : decode cL_testBetween 10 = .ok (.goto 7, 3) := by decide +kernel
theorem dL_testBetween_13 : decode cL_testBetween 13 = .ok (.astore 4, 2) := by decide +kernel
theorem dL_testBetween_15 : decode cL_testBetween 15 = .ok (.iconst 1, 1) := by decide +kernel
theorem dL_testBetween_16 : decode cL_testBetween 16 = .ok (.ireturn, 1) := by decide +kernel
theorem dL_testBetween_17 : decode cL_testBetween 17 = .ok (.iconst 0, 1) := by decide +kernel
theorem dL_testBetween_18 : decode cL_testBetween 18 = .ok (.ireturn, 1) := by decide +kernel
set_option maxRecDepth 20000 in
theorem ggL_alike_X7_alike : GoodIn wsL_alike wsX7_alike := goodIn_ca (goodIn_r _ [6, 7, 8, 9, 5, 10, 11, 12, 13, 14, 15, 16, 17, 18, 19, 20, 21, 22, 23, 24, 25, 26, 27, 28, 29, 30, 31, 32, 33, 34, 35, 36, 37, 38, 39, 40, 41, 42, 43, 44, 45, 46, 47, 48, 49, 50, 51, 52, 53, 54, 55, 56, 57, 58, 59, 60, 61, 62, 63, 64, 65, 66, 67, 68, 69, 70, 71, 72, 73, 74, 75, 76, 77, 78, 79, 80, 81, 82, 83, 84, 85, 86, 87, 88, 89, 90, 91, 92, 93, 94, 95, 96, 97, 98, 99, 100, 101, 102, 103, 104, 105, 106, 107, 108, 109, 110, 111, 112, 113, 114, 115, 116, 117, 118, 119, 120, 121, 122, 123, 124, 125, 126, 127, 128, 129, 130, 131, 132, 133, 134, 135, 136, 137, 138, 139, 140, 141, 142, 143, 144, 145, 146, 147, 148, 149, 150, 151, 152] (by decide +kernel) (by decide +kernel)) (goodIn_sub (fun _ h => List.mem_cons_of_mem _ (List.mem_append_right _ h)) (by decide +kernel))
set_option maxRecDepth 20000 in
theorem gL_alike_X7_alike : GoodIn wsL_alike (wsV RL 52 RX7 yX7_alike wsX7_alike) := goodIn_app (goodIn_of _ (by decide +kernel)) ggL_alike_X7_alike
theorem dL_alike_0 : decode cL_alike 0 = .ok (.aload_n 2, 1) := by decide +kernel
theorem dL_alike_1 : decode cL_alike 1 = .ok (.iconst 0, 1) := by decide +kernel
theorem dL_alike_2 : decode cL_alike 2 = .ok (.aload_n 0, 1) := by decide +kernel
theorem dL_alike_3 : decode cL_alike 3 = .ok (.iload_n 1, 1) := by decide +kernel
theorem dL_alike_4 : decode cL_alike 4 = .ok (.invokevirtual 52, 3) := by decide +kernel
theorem dL_alike_7 : decode cL_alike 7 = .ok (.i2l, 1) := by decide +kernel
theorem dL_alike_8 : decode cL_alike 8 = .ok (.lastore, 1) := by decide +kernel
theorem dL_alike_9 : decode cL_alike 9 = .ok (.goto 6, 3) := by decide +kernel
theorem dL_alike_12 : decode cL_alike 12 = .ok (.astore_n 3, 1) := by decide +kernel
theorem dL_alike_13 : decode cL_alike 13 = .ok (.iconst 1, 1) := by decide +kernel
theorem dL_alike_14 : decode cL_alike 14 = .ok (.ireturn, 1) := by decide +kernel
theorem dL_alike_15 : decode cL_alike 15 = .ok (.iconst 0, 1) := by decide +kernel
theorem dL_alike_16 : decode cL_alike 16 = .ok (.ireturn, 1) := by decide +kernel
set_option maxRecDepth 20000 in
theorem ggL_suspect_X7_suspect : GoodIn wsL_suspect wsX7_suspect := goodIn_ca (goodIn_r _ [6, 7, 8, 9, 10, 11, 12, 5, 13, 14, 15, 16, 17, 18, 19, 20, 21, 22, 23, 24, 25, 26, 27, 28, 29, 30, 31, 32, 33, 34, 35, 36, 37, 38, 39, 40, 41, 42, 43, 44, 45, 46, 47, 48, 49, 50, 51, 52, 53, 54, 55, 56, 57, 58, 59, 60, 61, 62, 63, 64, 65, 66, 67, 68, 69, 70, 71, 72, 73, 74, 75, 76, 77, 78, 79, 80, 81, 82, 83, 84, 85, 86, 87, 88, 89, 90, 91, 92, 93, 94, 95, 96, 97, 98, 99, 100, 101, 102, 103, 104, 105, 106, 107, 108, 109, 110, 111, 112, 113, 114, 115, 116, 117, 118, 119, 120, 121, 122, 123, 124, 125, 126, 127, 128, 129, 130, 131, 132, 133, 134, 135, 136, 137, 138, 139, 140, 141, 142, 143] (by decide +kernel) (by decide +kernel)) (goodIn_sub (fun _ h => List.mem_cons_of_mem _ (List.mem_append_right _ h)) (by decide +kernel))
set_option maxRecDepth 20000 in
theorem gL_suspect_X7_suspect : GoodIn wsL_suspect (wsV RL 55 RX7 yX7_suspect wsX7_suspect) := goodIn_app (goodIn_of _ (by decide +kernel)) ggL_suspect_X7_suspect
theorem dL_suspect_0 : decode cL_suspect 0 = .ok (.aload_n 2, 1) := by decide +kernel
theorem dL_suspect_1 : decode cL_suspect 1 = .ok (.iconst 0, 1) := by decide +kernel
theorem dL_suspect_2 : decode cL_suspect 2 = .ok (.aload_n 0, 1) := by decide +kernel
theorem dL_suspect_3 : decode cL_suspect 3 = .ok (.iload_n 1, 1) := by decide +kernel
theorem dL_suspect_4 : decode cL_suspect 4 = .ok (.invokevirtual 55, 3) := by decide +kernel
theorem dL_suspect_7 : decode cL_suspect 7 = .ok (.i2l, 1) := by decide +kernel
theorem dL_suspect_8 : decode cL_suspect 8 = .ok (.lastore, 1) := by decide +kernel
theorem dL_suspect_9 : decode cL_suspect 9 = .ok (.goto 6, 3) := by decide +kernel
theorem dL_suspect_12 : decode cL_suspect 12 = .ok (.astore_n 3, 1) := by decide +kernel
theorem dL_suspect_13 : decode cL_suspect 13 = .ok (.iconst 1, 1) := by decide +kernel
theorem dL_suspect_14 : decode cL_suspect 14 = .ok (.ireturn, 1) := by decide +kernel
theorem dL_suspect_15 : decode cL_suspect 15 = .ok (.iconst 0, 1) := by decide +kernel
theorem dL_suspect_16 : decode cL_suspect 16 = .ok (.ireturn, 1) := by decide +kernel
set_option maxRecDepth 20000 in
theorem ggL_addTest_X7_addTest : GoodIn wsL_addTest wsX7_addTest := goodIn_ca (goodIn_ca (goodIn_r _ [7, 8, 9, 10, 11, 12, 13, 14, 15, 16, 17, 18, 19, 6, 20, 21, 22, 23, 24, 25, 26, 27, 28, 29, 30, 31, 32, 33, 34, 35, 36, 37, 38, 39, 40, 41, 42, 43, 44, 45, 46, 47, 48, 49, 50, 51, 52, 53, 54, 55, 56, 57, 58, 59, 60, 61, 62, 63, 64, 65, 66, 67, 68, 69, 70, 71, 72, 73, 74, 75, 76, 77, 78, 79, 80, 81, 82, 83, 84, 85, 86, 87, 88, 89, 90, 91, 92, 93, 94, 95, 96, 97, 98, 99, 100, 101, 102, 103, 104, 105, 106, 107, 108, 109, 110, 111, 112, 113, 114, 115] (by decide +kernel) (by decide +kernel)) (goodIn_sub (fun _ h => List.mem_cons_of_mem _ (List.mem_append_left _ (List.mem_append_right _ h))) (by decide +kernel))) (goodIn_sub (fun _ h => List.mem_cons_of_mem _ (List.mem_append_right _ h)) (by decide +kernel))
set_option maxRecDepth 20000 in
theorem gL_addTest_X7_addTest : GoodIn wsL_addTest (wsV RL 58 RX7 yX7_addTest wsX7_addTest) := goodIn_app (goodIn_of _ (by decide +kernel)) ggL_addTest_X7_addTest
theorem dL_addTest_0 : decode cL_addTest 0 = .ok (.aload_n 3, 1) := by decide +kernel
theorem dL_addTest_1 : decode cL_addTest 1 = .ok (.iconst 0, 1) := by decide +kernel
theorem dL_addTest_2 : decode cL_addTest 2 = .ok (.aload_n 0, 1) := by decide +kernel
theorem dL_addTest_3 : decode cL_addTest 3 = .ok (.iload_n 1, 1) := by decide +kernel
theorem dL_addTest_4 : decode cL_addTest 4 = .ok (.iload_n 2, 1) := by decide +kernel
theorem dL_addTest_5 : decode cL_addTest 5 = .ok (.invokevirtual 58, 3) := by decide +kernel
theorem dL_addTest_8 : decode cL_addTest 8 = .ok (.i2l, 1) := by decide +kernel
theorem dL_addTest_9 : decode cL_addTest 9 = .ok (.lastore, 1) := by decide +kernel
theorem dL_addTest_10 : decode cL_addTest 10 = .ok (.goto 11, 3) := by decide +kernel
theorem dL_addTest_13 : decode cL_addTest 13 = .ok (.astore 4, 2) := by decide +kernel
theorem dL_addTest_15 : decode cL_addTest 15 = .ok (.iconst 1, 1) := by decide +kernel
theorem dL_addTest_16 : decode cL_addTest 16 = .ok (.ireturn, 1) := by decide +kernel
theorem dL_addTest_17 : decode cL_addTest 17 = .ok (.astore 4, 2) := by decide +kernel
theorem dL_addTest_19 : decode cL_addTest 19 = .ok (.iconst 2, 1) := by decide +kernel
theorem dL_addTest_20 : decode cL_addTest 20 = .ok (.ireturn, 1) := by decide +kernel
theorem dL_addTest_21 : decode cL_addTest 21 = .ok (.iconst 0, 1) := by decide +kernel
theorem dL_addTest_22 : decode cL_addTest 22 = .ok (.ireturn, 1) := by decide +kernel
set_option maxRecDepth 20000 in
theorem ggL_removeTest_X7_removeTest : GoodIn wsL_removeTest wsX7_removeTest := goodIn_ca (goodIn_r _ [6, 7, 8, 9, 10, 11, 12, 13, 14, 5, 15, 16, 17, 18, 19, 20, 21, 22, 23, 24, 25, 26, 27, 28, 29, 30, 31, 32, 33, 34, 35, 36, 37, 38, 39, 40, 41, 42, 43, 44, 45, 46, 47, 48, 49, 50, 51, 52, 53, 54, 55, 56, 57, 58, 59, 60, 61, 62, 63, 64, 65, 66, 67, 68, 69, 70, 71, 72, 73, 74, 75, 76, 77, 78, 79, 80, 81, 82, 83, 84, 85, 86, 87, 88, 89, 90, 91, 92, 93, 94, 95, 96, 97, 98, 99, 100, 101, 102, 103, 104, 105, 106, 107, 108, 109, 110, 111, 112, 113] (by decide +kernel) (by decide +kernel)) (goodIn_sub (fun _ h => List.mem_cons_of_mem _ (List.mem_append_right _ h)) (by decide +kernel))
set_option maxRecDepth 20000 in
theorem gL_removeTest_X7_removeTest : GoodIn wsL_removeTest (wsV RL 63 RX7 yX7_removeTest wsX7_removeTest) := goodIn_app (goodIn_of _ (by decide +kernel)) ggL_removeTest_X7_removeTest
theorem dL_removeTest_0 : decode cL_removeTest 0 = .ok (.aload_n 2, 1) := by decide +kernel
theorem dL_removeTest_1 : decode cL_removeTest 1 = .ok (.iconst 0, 1) := by decide +kernel
theorem dL_removeTest_2 : decode cL_removeTest 2 = .ok (.aload_n 0, 1) := by decide +kernel
theorem dL_removeTest_3 : decode cL_removeTest 3 = .ok (.iload_n 1, 1) := by decide +kernel
theorem dL_removeTest_4 : decode cL_removeTest 4 = .ok (.invokevirtual 63, 3) := by decide +kernel
theorem dL_removeTest_7 : decode cL_removeTest 7 = .ok (.i2l, 1) := by decide +kernel
theorem dL_removeTest_8 : decode cL_removeTest 8 = .ok (.lastore, 1) := by decide +kernel
theorem dL_removeTest_9 : decode cL_removeTest 9 = .ok (.goto 6, 3) := by decide +kernel
theorem dL_removeTest_12 : decode cL_removeTest 12 = .ok (.astore_n 3, 1) := by decide +kernel
theorem dL_removeTest_13 : decode cL_removeTest 13 = .ok (.iconst 1, 1) := by decide +kernel
theorem dL_removeTest_14 : decode cL_removeTest 14 = .ok (.ireturn, 1) := by decide +kernel
theorem dL_removeTest_15 : decode cL_removeTest 15 = .ok (.iconst 0, 1) := by decide +kernel
theorem dL_removeTest_16 : decode cL_removeTest 16 = .ok (.ireturn, 1) := by decide +kernel
set_option maxRecDepth 20000 in
theorem ggL_setKind_X7_setKind : GoodIn wsL_setKind wsX7_setKind := goodIn_ca (goodIn_ca (goodIn_r _ [7, 8, 9, 10, 11, 12, 13, 14, 15, 16, 17, 18, 19, 6, 20, 21, 22, 23, 24, 25, 26, 27, 28, 29, 30, 31, 32, 33, 34, 35, 36, 37, 38, 39, 40, 41, 42, 43, 44, 45, 46, 47, 48, 49, 50, 51, 52, 53, 54, 55, 56, 57, 58, 59, 60, 61, 62, 63, 64, 65, 66, 67, 68, 69, 70, 71, 72, 73, 74, 75, 76, 77, 78, 79, 80, 81, 82, 83, 84, 85, 86, 87, 88, 89, 90, 91, 92, 93, 94, 95, 96, 97, 98, 99, 100, 101, 102, 103, 104, 105, 106, 107, 108, 109, 110, 111, 112, 113, 114, 115, 116, 117, 118] (by decide +kernel) (by decide +kernel)) (goodIn_sub (fun _ h => List.mem_cons_of_mem _ (List.mem_append_left _ (List.mem_append_right _ h))) (by decide +kernel))) (goodIn_sub (fun _ h => List.mem_cons_of_mem _ (List.mem_append_right _ h)) (by decide +kernel))
set_option maxRecDepth 20000 in
theorem gL_setKind_X7_setKind : GoodIn wsL_setKind (wsV RL 66 RX7 yX7_setKind wsX7_setKind) := goodIn_app (goodIn_of _ (by decide +kernel)) ggL_setKind_X7_setKind
theorem dL_setKind_0 : decode cL_setKind 0 = .ok (.aload_n 3, 1) := by decide +kernel
theorem dL_setKind_1 : decode cL_setKind 1 = .ok (.iconst 0, 1) := by decide +kernel
theorem dL_setKind_2 : decode cL_setKind 2 = .ok (.aload_n 0, 1) := by decide +kernel
theorem dL_setKind_3 : decode cL_setKind 3 = .ok (.iload_n 1, 1) := by decide +kernel
theorem dL_setKind_4 : decode cL_setKind 4 = .ok (.iload_n 2, 1) := by decide +kernel
theorem dL_setKind_5 : decode cL_setKind 5 = .ok (.invokevirtual 66, 3) := by decide +kernel
theorem dL_setKind_8 : decode cL_setKind 8 = .ok (.i2l, 1) := by decide +kernel
theorem dL_setKind_9 : decode cL_setKind 9 = .ok (.lastore, 1) := by decide +kernel
theorem dL_setKind_10 : decode cL_setKind 10 = .ok (.goto 11, 3) := by decide +kernel
theorem dL_setKind_13 : decode cL_setKind 13 = .ok (.astore 4, 2) := by decide +kernel
theorem dL_setKind_15 : decode cL_setKind 15 = .ok (.iconst 1, 1) := by decide +kernel
theorem dL_setKind_16 : decode cL_setKind 16 = .ok (.ireturn, 1) := by decide +kernel
theorem dL_setKind_17 : decode cL_setKind 17 = .ok (.astore 4, 2) := by decide +kernel
theorem dL_setKind_19 : decode cL_setKind 19 = .ok (.iconst 2, 1) := by decide +kernel
theorem dL_setKind_20 : decode cL_setKind 20 = .ok (.ireturn, 1) := by decide +kernel
theorem dL_setKind_21 : decode cL_setKind 21 = .ok (.iconst 0, 1) := by decide +kernel
theorem dL_setKind_22 : decode cL_setKind 22 = .ok (.ireturn, 1) := by decide +kernel
set_option maxRecDepth 20000 in
theorem ggL_see_X7_see : GoodIn wsL_see wsX7_see := goodIn_ca (goodIn_ca (goodIn_r _ [7, 8, 9, 10, 11, 12, 13, 14, 15, 16, 17, 18, 19, 6, 20, 21, 22, 23, 24, 25, 26, 27, 28, 29, 30, 31, 32, 33, 34, 35, 36, 37, 38, 39, 40, 41, 42, 43, 44, 45, 46, 47, 48, 49, 50, 51, 52, 53, 54, 55, 56, 57, 58, 59, 60, 61, 62, 63, 64, 65, 66, 67, 68, 69, 70, 71, 72, 73, 74, 75, 76, 77, 78, 79, 80, 81, 82, 83, 84, 85, 86, 87, 88, 89, 90, 91, 92, 93, 94, 95, 96, 97, 98, 99, 100, 101, 102, 103, 104, 105, 106, 107, 108, 109, 110, 111, 112, 113, 114, 115, 116, 117, 118, 119, 120, 121, 122, 123, 124, 125, 126, 127, 128, 129, 130, 131, 132, 133, 134, 135, 136, 137, 138, 139, 140, 141, 142, 143, 144, 145, 146, 147, 148, 149, 150, 151, 152, 153, 154, 155, 156, 157, 158, 159, 160, 161, 162, 163, 164, 165, 166, 167, 168, 169, 170, 171, 172, 173, 174, 175, 176, 177, 178, 179, 180, 181, 182, 183, 184, 185, 186, 187, 188, 189, 190, 191, 192, 193, 194, 195, 196, 197, 198, 199, 200, 201, 202, 203, 204, 205, 206, 207, 208, 209] (by decide +kernel) (by decide +kernel)) (goodIn_sub (fun _ h => List.mem_cons_of_mem _ (List.mem_append_left _ (List.mem_append_right _ h))) (by decide +kernel))) (goodIn_sub (fun _ h => List.mem_cons_of_mem _ (List.mem_append_right _ h)) (by decide +kernel))
set_option maxRecDepth 20000 in
theorem gL_see_X7_see : GoodIn wsL_see (wsV RL 69 RX7 yX7_see wsX7_see) := goodIn_app (goodIn_of _ (by decide +kernel)) ggL_see_X7_see
theorem dL_see_0 : decode cL_see 0 = .ok (.aload 4, 2) := by decide +kernel
theorem dL_see_2 : decode cL_see 2 = .ok (.iconst 0, 1) := by decide +kernel
theorem dL_see_3 : decode cL_see 3 = .ok (.aload_n 0, 1) := by decide +kernel
theorem dL_see_4 : decode cL_see 4 = .ok (.iload_n 1, 1) := by decide +kernel
theorem dL_see_5 : decode cL_see 5 = .ok (.iload_n 2, 1) := by decide +kernel
theorem dL_see_6 : decode cL_see 6 = .ok (.iload_n 3, 1) := by decide +kernel
theorem dL_see_7 : decode cL_see 7 = .ok (.invokevirtual 69, 3) := by decide +kernel
theorem dL_see_10 : decode cL_see 10 = .ok (.i2l, 1) := by decide +kernel
theorem dL_see_11 : decode cL_see 11 = .ok (.lastore, 1) := by decide +kernel
theorem dL_see_12 : decode cL_see 12 = .ok (.goto 11, 3) := by decide +kernel
theorem dL_see_15 : decode cL_see 15 = .ok (.astore 5, 2) := by decide +kernel
theorem dL_see_17 : decode cL_see 17 = .ok (.iconst 1, 1) := by decide +kernel
theorem dL_see_18 : decode cL_see 18 = .ok (.ireturn, 1) := by decide +kernel
theorem dL_see_19 : decode cL_see 19 = .ok (.astore 5, 2) := by decide +kernel
theorem dL_see_21 : decode cL_see 21 = .ok (.iconst 2, 1) := by decide +kernel
theorem dL_see_22 : decode cL_see 22 = .ok (.ireturn, 1) := by decide +kernel
theorem dL_see_23 : decode cL_see 23 = .ok (.iconst 0, 1) := by decide +kernel
theorem dL_see_24 : decode cL_see 24 = .ok (.ireturn, 1) := by decide +kernel
set_option maxRecDepth 20000 in
theorem ggL_law_X7_init : GoodIn wsL_law wsX7_init := goodIn_r _ [9, 10, 11, 12, 13, 14, 15, 16, 17, 18, 19, 20, 21, 22, 23, 24, 25, 26, 27, 28, 29, 30, 31, 32, 33, 34, 6, 35, 36, 37, 38, 39, 40, 41, 42, 43, 44, 45, 46, 47, 48, 49, 50, 51, 52, 53, 54, 55, 56, 57, 58, 59, 60, 61, 62, 63, 64, 65, 66, 67, 68, 69, 70, 71, 72, 73, 74, 75, 76, 77, 78, 79, 80, 81, 82, 83, 84, 85, 86, 87, 88, 89, 90, 91, 92, 93, 94, 95, 96, 97, 98, 99, 100, 101, 102, 103, 104, 105, 106, 107, 108, 109, 110, 111, 112, 113, 114, 115, 116, 117, 1206, 1207, 1208, 1209, 1210, 1211, 1212, 1213, 1214, 1215, 1171, 1172, 1173, 1174, 1175, 1176, 1177, 1178, 1179, 1180, 1181, 1182, 1216, 1217, 1218, 1219, 1220, 1221, 1222, 1223, 1224, 1225, 1226, 1227, 1228, 1229, 1230, 1231, 1232, 1233, 1234, 1235, 1236, 1237, 1238, 1239, 1240, 1241, 1242, 1243, 1244, 1245, 1246] (by decide +kernel) (by decide +kernel)
set_option maxRecDepth 20000 in
theorem gL_law_X7_init : GoodIn wsL_law (wsX7_init) := ggL_law_X7_init
set_option maxRecDepth 20000 in
theorem ggL_law_X8_init : GoodIn wsL_law wsX8_init := goodIn_r _ [120, 121, 11, 12, 32, 122, 123, 124, 125, 126, 127, 128, 129, 130, 131, 132, 133, 134, 135, 136, 137, 138, 139, 5, 140, 141, 142, 143, 144, 145, 1183, 1184, 1185, 1186, 1187, 1188, 1189, 1190, 1191, 1192, 1193, 1194, 1195, 1196, 1197, 1198, 1199, 1200, 1201, 1202, 1203, 1204, 1205] (by decide +kernel) (by decide +kernel)
set_option maxRecDepth 20000 in
theorem gL_law_X8_init : GoodIn wsL_law (wsX8_init) := ggL_law_X8_init
set_option maxRecDepth 20000 in
theorem ggL_law_X7_append : GoodIn wsL_law wsX7_append := goodIn_r _ [149, 16, 150, 151, 152, 153, 15, 154, 43, 45, 1171, 1172, 1173, 1174, 1175, 1176, 1177, 1178, 1179, 1180, 1181, 1182, 1206, 1207, 1208, 1209, 1210, 1211, 1212, 1213, 1214, 1215] (by decide +kernel) (by decide +kernel)
set_option maxRecDepth 20000 in
theorem gL_law_X7_append : GoodIn wsL_law (wsV RL 76 RX7 yX7_append wsX7_append) := goodIn_app (goodIn_of _ (by decide +kernel)) ggL_law_X7_append
set_option maxRecDepth 20000 in
theorem ggL_law_X8_append : GoodIn wsL_law wsX8_append := goodIn_r _ [158, 159, 160, 161, 162, 163, 5, 164, 130, 1183, 1184, 1185, 1186, 1187, 1188, 1189, 1190, 1191, 1192, 1193, 1194, 1195, 1196, 1197, 1198, 1199, 1200, 1201, 1202, 1203, 1204, 1205] (by decide +kernel) (by decide +kernel)
set_option maxRecDepth 20000 in
theorem gL_law_X8_append : GoodIn wsL_law (wsV RL 80 RX8 yX8_append wsX8_append) := goodIn_app (goodIn_of _ (by decide +kernel)) ggL_law_X8_append
set_option maxRecDepth 20000 in
theorem ggL_law_L_load : GoodIn wsL_law wsL_load := goodIn_ca (goodIn_r _ [168, 169, 170, 171, 172, 2, 173, 174, 175, 16, 150, 24, 20, 176, 177, 178, 179, 180, 181, 15, 182, 43, 183, 184, 185, 186, 47, 48, 46, 44, 42, 49, 187, 188, 189, 19, 190, 58, 62, 191, 78, 79, 57, 80, 81, 82, 83, 84, 67, 68, 70, 71, 72, 192, 193, 194, 61, 195, 88, 196, 197, 198, 199, 91, 92, 200, 201, 202, 203, 45, 50, 51, 204, 205, 206, 207, 208, 209, 210, 211, 212, 213, 214, 215, 216, 217, 218, 219, 220, 221, 222, 223, 224, 225, 226, 227, 228, 229, 230, 231, 232, 233, 234, 235, 236, 237, 238, 239, 240, 241, 242, 243, 244, 245, 246, 247, 248, 249, 250, 251, 252, 253, 254, 255, 256, 257, 258, 259, 260, 261, 262, 263, 264, 265, 266, 267, 268, 269, 270, 271, 272, 273, 274, 275, 276, 277, 278, 279, 280, 281, 282, 283, 284, 285, 286, 287, 288, 289, 290, 291, 292, 293, 294, 295, 296, 297, 298, 299, 300, 301, 69, 302, 303, 304, 305, 306, 307, 308, 309, 310, 311, 312, 313, 314, 315, 316, 73, 317, 318, 319, 320, 321, 322, 323, 324, 325, 326, 327, 328, 329, 330, 331, 332, 333, 334, 335, 336, 337, 338, 339, 340, 341, 342, 343, 344, 345, 346, 347, 76, 74, 75, 348, 349, 350, 351, 352, 353, 354, 355, 356, 357, 358, 359, 360, 361, 89, 90, 362, 363, 364, 23, 365, 100, 98, 97, 366, 367, 368, 369, 370, 371, 372, 373, 374, 375, 376, 377, 378, 379, 380, 381, 382, 383, 384, 385, 386, 387, 388, 30, 31, 1171, 1172, 1173, 1174, 1175, 1176, 1177, 1178, 1179, 1180, 1181, 1182, 1206, 1207, 1208, 1209, 1210, 1211, 1212, 1213, 1214, 1215, 1216, 1217, 1226, 1227, 1228, 1229, 1230, 1231, 1232, 1233, 1234, 1235, 1236, 1237, 1238, 1239, 1240, 1241, 1242, 1243, 1244, 1218, 1219, 1220] (by decide +kernel) (by decide +kernel)) (goodIn_sub (fun _ h => List.mem_append_left _ (List.mem_append_left _ (List.mem_append_left _ (List.mem_append_right _ h)))) (by decide +kernel))
set_option maxRecDepth 20000 in
theorem gL_law_L_load : GoodIn wsL_law (va_wsS RL 81 yL_load wsL_load) := goodIn_app (goodIn_of _ (by decide +kernel)) ggL_law_L_load
set_option maxRecDepth 20000 in
theorem ggL_law_X8_load : GoodIn wsL_law wsX8_load := goodIn_r _ [392, 159, 160, 393, 394, 395, 131, 123, 396, 397, 5, 398, 399, 400, 401, 402, 403, 404, 405, 406, 407, 137, 138, 139, 140, 408, 409, 410, 411, 130, 412, 413, 414, 415, 416, 417, 418, 419, 220, 221, 222, 223, 224, 225, 226, 227, 228, 229, 230, 420, 232, 233, 234, 235, 236, 237, 238, 239, 240, 241, 242, 243, 244, 245, 246, 247, 248, 249, 250, 251, 252, 253, 254, 255, 256, 257, 258, 259, 260, 261, 262, 263, 264, 265, 266, 267, 421, 422, 423, 424, 425, 426, 427, 428, 429, 430, 431, 432, 433, 434, 435, 436, 437, 438, 439, 440, 441, 442, 443, 444, 445, 446, 447, 448, 449, 450, 451, 452, 453, 454, 455, 456, 457, 458, 459, 460, 461, 462, 463, 464, 465, 466, 467, 468, 469, 470, 471, 133, 472, 473, 474, 475, 476, 477, 478, 479, 145, 122, 480, 481, 482, 483, 484, 141, 142, 143, 144, 485, 486, 487, 488, 1183, 1184, 1185, 1186, 1187, 1188, 1189, 1190, 1191, 1192, 1193, 1194, 1195, 1196, 1197, 1198, 1199, 1200, 1201, 1202, 1203, 1204, 1205] (by decide +kernel) (by decide +kernel)
set_option maxRecDepth 20000 in
theorem gL_law_X8_load : GoodIn wsL_law (wsV RL 86 RX8 yX8_load wsX8_load) := goodIn_app (goodIn_of _ (by decide +kernel)) ggL_law_X8_load
set_option maxRecDepth 20000 in
theorem ggL_law_X8_thrown : GoodIn wsL_law wsX8_thrown := goodIn_r _ [492, 159, 1183, 1184, 1185, 1186, 1187, 1188, 1189, 1190, 1191, 1192, 1193, 1194, 1195, 1196, 1197, 1198, 1199, 1200, 1201, 1202, 1203, 1204, 1205] (by decide +kernel) (by decide +kernel)
set_option maxRecDepth 20000 in
theorem gL_law_X8_thrown : GoodIn wsL_law (wsV RL 87 RX8 yX8_thrown wsX8_thrown) := goodIn_app (goodIn_of _ (by decide +kernel)) ggL_law_X8_thrown
set_option maxRecDepth 20000 in
theorem ggL_law_X7_errorOffset : GoodIn wsL_law wsX7_errorOffset := goodIn_r _ [496, 16, 497, 1171, 1172, 1173, 1174, 1175, 1176, 1177, 1178, 1179, 1180, 1181, 1182, 1206, 1207, 1208, 1209, 1210, 1211, 1212, 1213, 1214, 1215] (by decide +kernel) (by decide +kernel)
set_option maxRecDepth 20000 in
theorem gL_law_X7_errorOffset : GoodIn wsL_law (wsV RL 91 RX7 yX7_errorOffset wsX7_errorOffset) := goodIn_app (goodIn_of _ (by decide +kernel)) ggL_law_X7_errorOffset
set_option maxRecDepth 20000 in
theorem ggL_law_X8_errorOffset : GoodIn wsL_law wsX8_errorOffset := goodIn_r _ [501, 159, 131, 1183, 1184, 1185, 1186, 1187, 1188, 1189, 1190, 1191, 1192, 1193, 1194, 1195, 1196, 1197, 1198, 1199, 1200, 1201, 1202, 1203, 1204, 1205] (by decide +kernel) (by decide +kernel)
set_option maxRecDepth 20000 in
theorem gL_law_X8_errorOffset : GoodIn wsL_law (wsV RL 94 RX8 yX8_errorOffset wsX8_errorOffset) := goodIn_app (goodIn_of _ (by decide +kernel)) ggL_law_X8_errorOffset
set_option maxRecDepth 20000 in
theorem ggL_law_L_state : GoodIn wsL_law wsL_state := goodIn_ca (goodIn_r _ [504, 169, 505, 506, 507, 2, 508, 174, 175, 20, 177, 509, 178, 510, 511, 512, 513, 514, 515, 516, 57, 517, 82, 84, 518, 519, 520, 61, 521, 91, 92, 522, 523, 524, 525, 526, 527, 528, 529, 530, 531, 532, 29, 35, 533, 534, 535, 536, 31, 537, 538, 539, 540, 107, 541, 116, 117, 542, 543, 544, 545, 342, 343, 546, 547, 548, 27, 549, 108, 109, 550, 551, 552, 553, 554, 555, 556, 557, 558, 559, 560, 561, 562, 563, 564, 565, 566, 567, 568, 111, 569, 570, 112, 571, 572, 573, 574, 575, 110, 576, 577, 578, 579, 580, 581, 582, 583, 584, 585, 586, 587, 588, 589, 590, 591, 592, 593, 184, 185, 186, 594, 595, 596, 597, 598, 599, 600, 601, 602, 603, 604, 605, 606, 607, 608, 70, 306, 307, 308, 1171, 1172, 1173, 1174, 1175, 1176, 1177, 1178, 1179, 1180, 1181, 1182, 1216, 1217, 1226, 1227, 1228, 1229, 1230, 1231, 1232, 1233, 1234, 1235, 1236, 1237, 1238, 1239, 1240, 1241, 1242, 1243, 1244, 1221, 1222, 1223, 1224, 1225, 1245, 1246] (by decide +kernel) (by decide +kernel)) (goodIn_sub (fun _ h => List.mem_append_left _ (List.mem_append_left _ (List.mem_append_left _ (List.mem_append_right _ h)))) (by decide +kernel))
set_option maxRecDepth 20000 in
theorem gL_law_L_state : GoodIn wsL_law (va_wsS RL 95 yL_state wsL_state) := goodIn_app (goodIn_of _ (by decide +kernel)) ggL_law_L_state
set_option maxRecDepth 20000 in
theorem ggL_law_X8_state : GoodIn wsL_law wsX8_state := goodIn_r _ [612, 159, 396, 397, 5, 398, 399, 400, 401, 402, 613, 614, 615, 616, 617, 618, 619, 620, 481, 482, 483, 484, 122, 145, 485, 486, 487, 488, 621, 622, 623, 624, 625, 626, 627, 628, 629, 630, 631, 632, 633, 634, 635, 636, 637, 638, 639, 640, 641, 642, 643, 644, 128, 645, 646, 647, 648, 649, 650, 651, 652, 125, 653, 654, 655, 656, 126, 657, 658, 659, 660, 661, 662, 663, 664, 665, 666, 667, 668, 669, 670, 671, 672, 673, 674, 675, 676, 677, 678, 679, 680, 681, 682, 127, 683, 684, 685, 686, 687, 688, 689, 690, 691, 692, 693, 694, 124, 1183, 1184, 1185, 1186, 1187, 1188, 1189, 1190, 1191, 1192, 1193, 1194, 1195, 1196, 1197, 1198, 1199, 1200, 1201, 1202, 1203, 1204, 1205] (by decide +kernel) (by decide +kernel)
set_option maxRecDepth 20000 in
theorem gL_law_X8_state : GoodIn wsL_law (wsV RL 97 RX8 yX8_state wsX8_state) := goodIn_app (goodIn_of _ (by decide +kernel)) ggL_law_X8_state
set_option maxRecDepth 20000 in
theorem ggL_law_L_wire : GoodIn wsL_law wsL_wire := goodIn_ca (goodIn_ca (goodIn_r _ [697, 698, 169, 699, 700, 701, 2, 702, 174, 175, 20, 177, 703, 704, 705, 706, 707, 708, 709, 710, 711, 712, 178, 713, 314, 315, 57, 316, 83, 73, 1171, 1172, 1173, 1174, 1175, 1176, 1177, 1178, 1179, 1180, 1181, 1182, 1216, 1217, 1226, 1227, 1228, 1229, 1230, 1231, 1232, 1233, 1234, 1235, 1236, 1237, 1238, 1239] (by decide +kernel) (by decide +kernel)) (goodIn_sub (fun _ h => List.mem_append_left _ (List.mem_append_left _ (List.mem_append_left _ (List.mem_append_right _ h)))) (by decide +kernel))) (goodIn_sub (fun _ h => List.mem_append_left _ (List.mem_append_left _ (List.mem_append_right _ h))) (by decide +kernel))
set_option maxRecDepth 20000 in
theorem gL_law_L_wire : GoodIn wsL_law (va_wsS RL 98 yL_wire wsL_wire) := goodIn_app (goodIn_of _ (by decide +kernel)) ggL_law_L_wire
set_option maxRecDepth 20000 in
theorem ggL_law_X8_wire : GoodIn wsL_law wsX8_wire := goodIn_r _ [717, 159, 718, 719, 720, 5, 721, 485, 486, 487, 488, 481, 482, 483, 484, 122, 145, 396, 397, 398, 399, 400, 401, 402, 722, 723, 724, 725, 661, 662, 663, 664, 672, 673, 674, 675, 691, 692, 693, 694, 124, 617, 618, 619, 620, 665, 666, 667, 668, 726, 727, 728, 729, 730, 731, 732, 733, 621, 622, 623, 624, 1183, 1184, 1185, 1186, 1187, 1188, 1189, 1190, 1191, 1192, 1193, 1194, 1195, 1196, 1197, 1198, 1199, 1200, 1201, 1202, 1203, 1204, 1205] (by decide +kernel) (by decide +kernel)
set_option maxRecDepth 20000 in
theorem gL_law_X8_wire : GoodIn wsL_law (wsV RL 101 RX8 yX8_wire wsX8_wire) := goodIn_app (goodIn_of _ (by decide +kernel)) ggL_law_X8_wire
set_option maxRecDepth 20000 in
theorem ggL_law_L_operand : GoodIn wsL_law wsL_operand := goodIn_ca (goodIn_ca (goodIn_r _ [736, 698, 737, 738, 739, 740, 2, 741, 742, 743, 20, 177, 704, 744, 707, 708, 709, 710, 711, 712, 178, 1171, 1172, 1173, 1174, 1175, 1176, 1177, 1178, 1179, 1180, 1181, 1182, 1216, 1217, 1226, 1227, 1228, 1229, 1230, 1231, 1232, 1233, 1234, 1235, 1236, 1237, 1238, 1239] (by decide +kernel) (by decide +kernel)) (goodIn_sub (fun _ h => List.mem_append_left _ (List.mem_append_right _ h)) (by decide +kernel))) (goodIn_sub (fun _ h => List.mem_append_left _ (List.mem_append_left _ (List.mem_append_right _ h))) (by decide +kernel))
set_option maxRecDepth 20000 in
theorem gL_law_L_operand : GoodIn wsL_law (va_wsS RL 102 yL_operand wsL_operand) := goodIn_app (goodIn_of _ (by decide +kernel)) ggL_law_L_operand
set_option maxRecDepth 20000 in
theorem ggL_law_X8_operand : GoodIn wsL_law wsX8_operand := goodIn_r _ [748, 159, 718, 719, 720, 5, 721, 485, 486, 487, 488, 481, 482, 483, 484, 122, 145, 396, 397, 398, 399, 400, 401, 402, 672, 673, 674, 675, 665, 666, 667, 668, 1183, 1184, 1185, 1186, 1187, 1188, 1189, 1190, 1191, 1192, 1193, 1194, 1195, 1196, 1197, 1198, 1199, 1200, 1201, 1202, 1203, 1204, 1205] (by decide +kernel) (by decide +kernel)
set_option maxRecDepth 20000 in
theorem gL_law_X8_operand : GoodIn wsL_law (wsV RL 104 RX8 yX8_operand wsX8_operand) := goodIn_app (goodIn_of _ (by decide +kernel)) ggL_law_X8_operand
set_option maxRecDepth 20000 in
theorem ggL_law_L_value : GoodIn wsL_law wsL_value := goodIn_ca (goodIn_r _ [751, 698, 752, 753, 754, 2, 755, 29, 537, 756, 757, 758, 759, 711, 712, 20, 512, 513, 707, 708, 709, 710, 177, 178, 533, 534, 535, 536, 31, 509, 538, 539, 540, 107, 541, 116, 117, 542, 543, 544, 545, 342, 57, 343, 546, 547, 548, 27, 549, 108, 109, 550, 515, 516, 517, 82, 84, 551, 552, 553, 554, 555, 556, 557, 558, 559, 560, 561, 562, 563, 564, 565, 566, 567, 568, 111, 569, 570, 112, 571, 572, 573, 574, 575, 110, 576, 577, 578, 579, 580, 581, 582, 583, 584, 585, 586, 587, 588, 760, 761, 762, 763, 764, 765, 1171, 1172, 1173, 1174, 1175, 1176, 1177, 1178, 1179, 1180, 1181, 1182, 1221, 1222, 1223, 1224, 1225, 1216, 1217, 1240, 1241, 1242, 1243, 1244, 1226, 1227, 1228, 1229, 1230, 1231, 1232, 1233, 1234, 1235, 1236, 1237, 1238, 1239, 1245, 1246] (by decide +kernel) (by decide +kernel)) (goodIn_sub (fun _ h => List.mem_append_left _ (List.mem_append_left _ (List.mem_append_right _ h))) (by decide +kernel))
set_option maxRecDepth 20000 in
theorem gL_law_L_value : GoodIn wsL_law (va_wsS RL 105 yL_value wsL_value) := goodIn_app (goodIn_of _ (by decide +kernel)) ggL_law_L_value
set_option maxRecDepth 20000 in
theorem ggL_law_X8_value : GoodIn wsL_law wsX8_value := goodIn_r _ [769, 159, 126, 770, 771, 772, 5, 773, 629, 630, 631, 632, 481, 482, 483, 484, 122, 145, 396, 397, 398, 399, 400, 401, 402, 718, 719, 720, 721, 485, 486, 487, 488, 649, 650, 651, 652, 125, 617, 618, 619, 620, 653, 654, 655, 656, 657, 658, 659, 660, 661, 662, 663, 664, 665, 666, 667, 668, 669, 670, 671, 672, 673, 674, 675, 676, 677, 678, 1183, 1184, 1185, 1186, 1187, 1188, 1189, 1190, 1191, 1192, 1193, 1194, 1195, 1196, 1197, 1198, 1199, 1200, 1201, 1202, 1203, 1204, 1205] (by decide +kernel) (by decide +kernel)
set_option maxRecDepth 20000 in
theorem gL_law_X8_value : GoodIn wsL_law (wsV RL 107 RX8 yX8_value wsX8_value) := goodIn_app (goodIn_of _ (by decide +kernel)) ggL_law_X8_value
set_option maxRecDepth 20000 in
theorem ggL_law_L_faulty : GoodIn wsL_law wsL_faulty := goodIn_ca (goodIn_r _ [776, 698, 777, 778, 779, 2, 780, 29, 781, 20, 177, 537, 756, 757, 758, 759, 711, 712, 512, 513, 782, 783, 784, 785, 514, 515, 516, 57, 517, 82, 84, 707, 708, 709, 710, 178, 533, 534, 535, 536, 31, 509, 538, 539, 540, 107, 541, 116, 117, 542, 543, 544, 545, 342, 343, 546, 547, 548, 27, 549, 108, 109, 550, 551, 552, 553, 554, 555, 556, 557, 558, 559, 560, 561, 562, 563, 564, 565, 566, 567, 568, 111, 569, 570, 112, 571, 572, 573, 574, 575, 110, 576, 577, 578, 579, 580, 581, 582, 583, 584, 585, 586, 587, 588, 786, 760, 761, 762, 763, 764, 765, 1171, 1172, 1173, 1174, 1175, 1176, 1177, 1178, 1179, 1180, 1181, 1182, 1221, 1222, 1223, 1224, 1225, 1216, 1217, 1240, 1241, 1242, 1243, 1244, 1226, 1227, 1228, 1229, 1230, 1231, 1232, 1233, 1234, 1235, 1236, 1237, 1238, 1239, 1245, 1246] (by decide +kernel) (by decide +kernel)) (goodIn_sub (fun _ h => List.mem_append_left _ (List.mem_append_left _ (List.mem_append_right _ h))) (by decide +kernel))
set_option maxRecDepth 20000 in
theorem gL_law_L_faulty : GoodIn wsL_law (va_wsS RL 108 yL_faulty wsL_faulty) := goodIn_app (goodIn_of _ (by decide +kernel)) ggL_law_L_faulty
set_option maxRecDepth 20000 in
theorem ggL_law_X8_faulty : GoodIn wsL_law wsX8_faulty := goodIn_r _ [790, 159, 127, 770, 771, 772, 5, 773, 629, 630, 631, 632, 481, 482, 483, 484, 122, 145, 396, 397, 398, 399, 400, 401, 402, 791, 792, 793, 794, 625, 626, 627, 628, 485, 486, 487, 488, 718, 719, 720, 721, 649, 650, 651, 652, 125, 617, 618, 619, 620, 653, 654, 655, 656, 126, 657, 658, 659, 660, 661, 662, 663, 664, 665, 666, 667, 668, 669, 670, 671, 672, 673, 674, 675, 676, 677, 678, 683, 684, 685, 686, 1183, 1184, 1185, 1186, 1187, 1188, 1189, 1190, 1191, 1192, 1193, 1194, 1195, 1196, 1197, 1198, 1199, 1200, 1201, 1202, 1203, 1204, 1205] (by decide +kernel) (by decide +kernel)
set_option maxRecDepth 20000 in
theorem gL_law_X8_faulty : GoodIn wsL_law (wsV RL 111 RX8 yX8_faulty wsX8_faulty) := goodIn_app (goodIn_of _ (by decide +kernel)) ggL_law_X8_faulty
set_option maxRecDepth 20000 in
theorem ggL_law_L_finds : GoodIn wsL_law wsL_finds := goodIn_ca (goodIn_r _ [797, 698, 798, 799, 800, 2, 801, 29, 20, 177, 756, 757, 758, 759, 711, 712, 512, 513, 782, 783, 784, 785, 514, 515, 516, 57, 517, 82, 84, 533, 534, 535, 536, 31, 537, 509, 538, 539, 540, 107, 541, 116, 117, 542, 543, 544, 545, 342, 343, 546, 547, 548, 27, 549, 108, 109, 550, 551, 552, 553, 554, 555, 556, 557, 558, 559, 560, 561, 562, 563, 564, 565, 566, 567, 568, 111, 569, 570, 112, 571, 572, 573, 574, 575, 110, 576, 577, 578, 579, 580, 581, 582, 583, 584, 585, 586, 587, 588, 594, 595, 596, 597, 802, 764, 765, 803, 804, 805, 806, 807, 1171, 1172, 1173, 1174, 1175, 1176, 1177, 1178, 1179, 1180, 1181, 1182, 1216, 1217, 1240, 1241, 1242, 1243, 1244, 1226, 1227, 1228, 1229, 1230, 1231, 1232, 1233, 1234, 1235, 1236, 1237, 1238, 1239, 1221, 1222, 1223, 1224, 1225, 1245, 1246] (by decide +kernel) (by decide +kernel)) (goodIn_sub (fun _ h => List.mem_append_left _ (List.mem_append_left _ (List.mem_append_right _ h))) (by decide +kernel))
set_option maxRecDepth 20000 in
theorem gL_law_L_finds : GoodIn wsL_law (va_wsS RL 112 yL_finds wsL_finds) := goodIn_app (goodIn_of _ (by decide +kernel)) ggL_law_L_finds
set_option maxRecDepth 20000 in
theorem ggL_law_X8_finds : GoodIn wsL_law wsX8_finds := goodIn_r _ [811, 159, 770, 771, 772, 5, 773, 629, 630, 631, 632, 481, 482, 483, 484, 122, 145, 396, 397, 398, 399, 400, 401, 402, 791, 792, 793, 794, 625, 626, 627, 628, 485, 486, 487, 488, 649, 650, 651, 652, 125, 617, 618, 619, 620, 653, 654, 655, 656, 126, 657, 658, 659, 660, 661, 662, 663, 664, 665, 666, 667, 668, 669, 670, 671, 672, 673, 674, 675, 676, 677, 678, 679, 680, 681, 682, 127, 683, 684, 685, 686, 621, 622, 623, 624, 687, 688, 689, 690, 1183, 1184, 1185, 1186, 1187, 1188, 1189, 1190, 1191, 1192, 1193, 1194, 1195, 1196, 1197, 1198, 1199, 1200, 1201, 1202, 1203, 1204, 1205] (by decide +kernel) (by decide +kernel)
set_option maxRecDepth 20000 in
theorem gL_law_X8_finds : GoodIn wsL_law (wsV RL 114 RX8 yX8_finds wsX8_finds) := goodIn_app (goodIn_of _ (by decide +kernel)) ggL_law_X8_finds
set_option maxRecDepth 20000 in
theorem ggL_law_L_tellsApart : GoodIn wsL_law wsL_tellsApart := goodIn_ca (goodIn_r _ [814, 698, 815, 816, 817, 2, 818, 29, 20, 177, 756, 757, 758, 759, 711, 712, 512, 513, 782, 783, 784, 785, 514, 515, 516, 57, 517, 82, 84, 533, 534, 535, 536, 31, 537, 509, 538, 539, 540, 107, 541, 116, 117, 542, 543, 544, 545, 342, 343, 546, 547, 548, 27, 549, 108, 109, 550, 551, 552, 553, 554, 555, 556, 557, 558, 559, 560, 561, 562, 563, 564, 565, 566, 567, 568, 111, 569, 570, 112, 571, 572, 573, 574, 575, 110, 576, 577, 578, 579, 580, 581, 582, 583, 584, 585, 586, 587, 588, 594, 595, 596, 597, 802, 764, 765, 1171, 1172, 1173, 1174, 1175, 1176, 1177, 1178, 1179, 1180, 1181, 1182, 1216, 1217, 1240, 1241, 1242, 1243, 1244, 1226, 1227, 1228, 1229, 1230, 1231, 1232, 1233, 1234, 1235, 1236, 1237, 1238, 1239, 1221, 1222, 1223, 1224, 1225, 1245, 1246] (by decide +kernel) (by decide +kernel)) (goodIn_sub (fun _ h => List.mem_append_left _ (List.mem_append_left _ (List.mem_append_right _ h))) (by decide +kernel))
set_option maxRecDepth 20000 in
theorem gL_law_L_tellsApart : GoodIn wsL_law (va_wsS RL 115 yL_tellsApart wsL_tellsApart) := goodIn_app (goodIn_of _ (by decide +kernel)) ggL_law_L_tellsApart
set_option maxRecDepth 20000 in
theorem ggL_law_X8_tellsApart : GoodIn wsL_law wsX8_tellsApart := goodIn_r _ [822, 159, 134, 127, 770, 771, 772, 5, 773, 629, 630, 631, 632, 481, 482, 483, 484, 122, 145, 396, 397, 398, 399, 400, 401, 402, 791, 792, 793, 794, 625, 626, 627, 628, 485, 486, 487, 488, 649, 650, 651, 652, 125, 617, 618, 619, 620, 653, 654, 655, 656, 126, 657, 658, 659, 660, 661, 662, 663, 664, 665, 666, 667, 668, 669, 670, 671, 672, 673, 674, 675, 676, 677, 678, 683, 684, 685, 686, 621, 622, 623, 624, 687, 688, 689, 690, 1183, 1184, 1185, 1186, 1187, 1188, 1189, 1190, 1191, 1192, 1193, 1194, 1195, 1196, 1197, 1198, 1199, 1200, 1201, 1202, 1203, 1204, 1205] (by decide +kernel) (by decide +kernel)
set_option maxRecDepth 20000 in
theorem gL_law_X8_tellsApart : GoodIn wsL_law (wsV RL 117 RX8 yX8_tellsApart wsX8_tellsApart) := goodIn_app (goodIn_of _ (by decide +kernel)) ggL_law_X8_tellsApart
set_option maxRecDepth 20000 in
theorem ggL_law_L_worth : GoodIn wsL_law wsL_worth := goodIn_ca (goodIn_r _ [825, 698, 826, 827, 828, 2, 829, 35, 756, 757, 758, 759, 711, 712, 20, 512, 513, 529, 530, 531, 532, 29, 533, 534, 535, 536, 31, 537, 177, 509, 538, 539, 540, 107, 541, 116, 117, 542, 543, 544, 545, 342, 57, 343, 546, 547, 548, 27, 549, 108, 109, 550, 515, 516, 517, 82, 84, 551, 552, 553, 554, 555, 556, 557, 558, 559, 560, 561, 562, 563, 564, 565, 566, 567, 568, 111, 569, 570, 112, 571, 572, 573, 574, 575, 110, 576, 577, 578, 579, 580, 581, 582, 583, 584, 585, 586, 587, 588, 589, 590, 591, 592, 593, 184, 185, 186, 514, 594, 595, 596, 597, 598, 599, 600, 601, 602, 603, 604, 1171, 1172, 1173, 1174, 1175, 1176, 1177, 1178, 1179, 1180, 1181, 1182, 1216, 1217, 1240, 1241, 1242, 1243, 1244, 1221, 1222, 1223, 1224, 1225, 1226, 1227, 1228, 1229, 1230, 1231, 1232, 1233, 1234, 1235, 1236, 1237, 1238, 1239, 1245, 1246] (by decide +kernel) (by decide +kernel)) (goodIn_sub (fun _ h => List.mem_append_left _ (List.mem_append_left _ (List.mem_append_right _ h))) (by decide +kernel))
set_option maxRecDepth 20000 in
theorem gL_law_L_worth : GoodIn wsL_law (va_wsS RL 118 yL_worth wsL_worth) := goodIn_app (goodIn_of _ (by decide +kernel)) ggL_law_L_worth
set_option maxRecDepth 20000 in
theorem ggL_law_X8_worth : GoodIn wsL_law wsX8_worth := goodIn_r _ [833, 159, 770, 771, 772, 5, 773, 629, 630, 631, 632, 481, 482, 483, 484, 122, 145, 396, 397, 398, 399, 400, 401, 402, 834, 835, 836, 837, 649, 650, 651, 652, 125, 617, 618, 619, 620, 653, 654, 655, 656, 126, 485, 486, 487, 488, 657, 658, 659, 660, 661, 662, 663, 664, 665, 666, 667, 668, 669, 670, 671, 672, 673, 674, 675, 676, 677, 678, 625, 626, 627, 628, 679, 680, 681, 682, 127, 683, 684, 685, 686, 621, 622, 623, 624, 687, 688, 689, 690, 1183, 1184, 1185, 1186, 1187, 1188, 1189, 1190, 1191, 1192, 1193, 1194, 1195, 1196, 1197, 1198, 1199, 1200, 1201, 1202, 1203, 1204, 1205] (by decide +kernel) (by decide +kernel)
set_option maxRecDepth 20000 in
theorem gL_law_X8_worth : GoodIn wsL_law (wsV RL 120 RX8 yX8_worth wsX8_worth) := goodIn_app (goodIn_of _ (by decide +kernel)) ggL_law_X8_worth
set_option maxRecDepth 20000 in
theorem ggL_law_L_testFor : GoodIn wsL_law wsL_testFor := goodIn_ca (goodIn_r _ [840, 698, 841, 842, 843, 2, 844, 28, 20, 177, 782, 783, 784, 785, 711, 712, 514, 515, 516, 57, 517, 82, 84, 845, 846, 847, 848, 30, 537, 509, 849, 850, 851, 852, 81, 853, 854, 855, 107, 856, 117, 585, 116, 545, 342, 343, 546, 547, 548, 27, 549, 108, 109, 550, 551, 552, 553, 554, 555, 556, 557, 558, 559, 560, 561, 562, 563, 564, 565, 566, 567, 568, 111, 569, 570, 112, 571, 572, 573, 574, 575, 110, 576, 577, 578, 579, 580, 581, 582, 583, 584, 586, 587, 588, 857, 858, 859, 860, 861, 184, 185, 186, 862, 863, 595, 596, 597, 864, 599, 600, 601, 602, 603, 604, 1171, 1172, 1173, 1174, 1175, 1176, 1177, 1178, 1179, 1180, 1181, 1182, 1216, 1217, 1226, 1227, 1228, 1229, 1230, 1231, 1232, 1233, 1234, 1235, 1236, 1237, 1238, 1239, 1221, 1222, 1223, 1224, 1225, 1245, 1246] (by decide +kernel) (by decide +kernel)) (goodIn_sub (fun _ h => List.mem_append_left _ (List.mem_append_left _ (List.mem_append_right _ h))) (by decide +kernel))
set_option maxRecDepth 20000 in
theorem gL_law_L_testFor : GoodIn wsL_law (va_wsS RL 121 yL_testFor wsL_testFor) := goodIn_app (goodIn_of _ (by decide +kernel)) ggL_law_L_testFor
set_option maxRecDepth 20000 in
theorem ggL_law_X8_testFor : GoodIn wsL_law wsX8_testFor := goodIn_r _ [868, 159, 791, 792, 793, 5, 794, 625, 626, 627, 628, 485, 486, 487, 488, 481, 482, 483, 484, 122, 145, 396, 397, 398, 399, 400, 401, 402, 869, 870, 871, 872, 129, 126, 127, 873, 874, 875, 876, 617, 618, 619, 620, 877, 878, 879, 880, 125, 653, 654, 655, 656, 657, 658, 659, 660, 661, 662, 663, 664, 665, 666, 667, 668, 669, 670, 671, 672, 673, 674, 675, 676, 677, 678, 881, 882, 883, 884, 621, 622, 623, 624, 687, 688, 689, 690, 683, 684, 685, 686, 885, 886, 887, 888, 1183, 1184, 1185, 1186, 1187, 1188, 1189, 1190, 1191, 1192, 1193, 1194, 1195, 1196, 1197, 1198, 1199, 1200, 1201, 1202, 1203, 1204, 1205] (by decide +kernel) (by decide +kernel)
set_option maxRecDepth 20000 in
theorem gL_law_X8_testFor : GoodIn wsL_law (wsV RL 123 RX8 yX8_testFor wsX8_testFor) := goodIn_app (goodIn_of _ (by decide +kernel)) ggL_law_X8_testFor
set_option maxRecDepth 20000 in
theorem ggL_law_L_testBetween : GoodIn wsL_law wsL_testBetween := goodIn_ca (goodIn_r _ [891, 698, 892, 893, 894, 2, 895, 28, 20, 177, 782, 783, 784, 785, 711, 712, 514, 515, 516, 57, 517, 82, 84, 845, 846, 847, 848, 30, 537, 509, 849, 850, 851, 852, 81, 853, 854, 855, 107, 856, 117, 585, 116, 545, 342, 343, 546, 547, 548, 27, 549, 108, 109, 550, 551, 552, 553, 554, 555, 556, 557, 558, 559, 560, 561, 562, 563, 564, 565, 566, 567, 568, 111, 569, 570, 112, 571, 572, 573, 574, 575, 110, 576, 577, 578, 579, 580, 581, 582, 583, 584, 586, 587, 588, 857, 858, 859, 860, 861, 184, 185, 186, 862, 863, 595, 596, 597, 864, 599, 600, 601, 602, 603, 604, 1171, 1172, 1173, 1174, 1175, 1176, 1177, 1178, 1179, 1180, 1181, 1182, 1216, 1217, 1226, 1227, 1228, 1229, 1230, 1231, 1232, 1233, 1234, 1235, 1236, 1237, 1238, 1239, 1221, 1222, 1223, 1224, 1225, 1245, 1246] (by decide +kernel) (by decide +kernel)) (goodIn_sub (fun _ h => List.mem_append_left _ (List.mem_append_left _ (List.mem_append_right _ h))) (by decide +kernel))
set_option maxRecDepth 20000 in
theorem gL_law_L_testBetween : GoodIn wsL_law (va_wsS RL 124 yL_testBetween wsL_testBetween) := goodIn_app (goodIn_of _ (by decide +kernel)) ggL_law_L_testBetween
set_option maxRecDepth 20000 in
theorem ggL_law_X8_testBetween : GoodIn wsL_law wsX8_testBetween := goodIn_r _ [899, 159, 791, 792, 793, 5, 794, 625, 626, 627, 628, 485, 486, 487, 488, 481, 482, 483, 484, 122, 145, 396, 397, 398, 399, 400, 401, 402, 869, 870, 871, 872, 129, 126, 127, 873, 874, 875, 876, 617, 618, 619, 620, 877, 878, 879, 880, 125, 653, 654, 655, 656, 657, 658, 659, 660, 661, 662, 663, 664, 665, 666, 667, 668, 669, 670, 671, 672, 673, 674, 675, 676, 677, 678, 881, 882, 883, 884, 621, 622, 623, 624, 687, 688, 689, 690, 683, 684, 685, 686, 885, 886, 887, 888, 1183, 1184, 1185, 1186, 1187, 1188, 1189, 1190, 1191, 1192, 1193, 1194, 1195, 1196, 1197, 1198, 1199, 1200, 1201, 1202, 1203, 1204, 1205] (by decide +kernel) (by decide +kernel)
set_option maxRecDepth 20000 in
theorem gL_law_X8_testBetween : GoodIn wsL_law (wsV RL 126 RX8 yX8_testBetween wsX8_testBetween) := goodIn_app (goodIn_of _ (by decide +kernel)) ggL_law_X8_testBetween
set_option maxRecDepth 20000 in
theorem ggL_law_X7_hidden : GoodIn wsL_law wsX7_hidden := goodIn_r _ [903, 20, 177, 28, 845, 846, 847, 2, 848, 30, 537, 509, 849, 850, 851, 57, 852, 81, 853, 854, 855, 107, 856, 117, 585, 116, 545, 342, 343, 546, 547, 548, 27, 549, 108, 109, 550, 515, 516, 517, 82, 84, 551, 552, 553, 554, 555, 556, 557, 558, 559, 560, 561, 562, 563, 564, 565, 566, 567, 568, 111, 569, 570, 112, 571, 572, 573, 574, 575, 110, 576, 577, 578, 579, 580, 581, 582, 583, 584, 586, 587, 588, 514, 857, 858, 859, 860, 861, 184, 185, 186, 862, 863, 595, 596, 597, 864, 599, 600, 601, 602, 603, 604, 1171, 1172, 1173, 1174, 1175, 1176, 1177, 1178, 1179, 1180, 1181, 1182, 1216, 1217, 1221, 1222, 1223, 1224, 1225, 1226, 1227, 1228, 1229, 1230, 1231, 1232, 1233, 1234, 1235, 1236, 1237, 1238, 1239, 1245, 1246] (by decide +kernel) (by decide +kernel)
set_option maxRecDepth 20000 in
theorem gL_law_X7_hidden : GoodIn wsL_law (wsV RL 127 RX7 yX7_hidden wsX7_hidden) := goodIn_app (goodIn_of _ (by decide +kernel)) ggL_law_X7_hidden
set_option maxRecDepth 20000 in
theorem ggL_law_X8_hidden : GoodIn wsL_law wsX8_hidden := goodIn_r _ [907, 159, 908, 909, 910, 5, 911, 869, 870, 871, 872, 129, 126, 127, 873, 874, 875, 876, 617, 618, 619, 620, 481, 482, 483, 484, 122, 145, 877, 878, 879, 880, 125, 653, 654, 655, 656, 485, 486, 487, 488, 657, 658, 659, 660, 661, 662, 663, 664, 665, 666, 667, 668, 669, 670, 671, 672, 673, 674, 675, 676, 677, 678, 881, 882, 883, 884, 621, 622, 623, 624, 687, 688, 689, 690, 625, 626, 627, 628, 683, 684, 685, 686, 912, 913, 914, 915, 885, 886, 887, 888, 1183, 1184, 1185, 1186, 1187, 1188, 1189, 1190, 1191, 1192, 1193, 1194, 1195, 1196, 1197, 1198, 1199, 1200, 1201, 1202, 1203, 1204, 1205] (by decide +kernel) (by decide +kernel)
set_option maxRecDepth 20000 in
theorem gL_law_X8_hidden : GoodIn wsL_law (wsV RL 130 RX8 yX8_hidden wsX8_hidden) := goodIn_app (goodIn_of _ (by decide +kernel)) ggL_law_X8_hidden
set_option maxRecDepth 20000 in
theorem ggL_law_L_alike : GoodIn wsL_law wsL_alike := goodIn_ca (goodIn_r _ [918, 698, 919, 920, 921, 2, 922, 782, 783, 784, 785, 711, 712, 20, 177, 514, 515, 516, 57, 517, 82, 84, 845, 846, 847, 848, 30, 28, 537, 509, 849, 850, 851, 852, 81, 853, 854, 855, 107, 856, 117, 585, 116, 545, 342, 343, 546, 547, 548, 27, 549, 108, 109, 550, 551, 552, 553, 554, 555, 556, 557, 558, 559, 560, 561, 562, 563, 564, 565, 566, 567, 568, 111, 569, 570, 112, 571, 572, 573, 574, 575, 110, 576, 577, 578, 579, 580, 581, 582, 583, 584, 586, 587, 588, 923, 924, 925, 926, 857, 858, 859, 860, 861, 184, 185, 186, 862, 863, 595, 596, 597, 864, 599, 600, 601, 602, 603, 604, 1171, 1172, 1173, 1174, 1175, 1176, 1177, 1178, 1179, 1180, 1181, 1182, 1216, 1217, 1226, 1227, 1228, 1229, 1230, 1231, 1232, 1233, 1234, 1235, 1236, 1237, 1238, 1239, 1221, 1222, 1223, 1224, 1225, 1245, 1246] (by decide +kernel) (by decide +kernel)) (goodIn_sub (fun _ h => List.mem_append_left _ (List.mem_append_left _ (List.mem_append_right _ h))) (by decide +kernel))
set_option maxRecDepth 20000 in
theorem gL_law_L_alike : GoodIn wsL_law (va_wsS RL 131 yL_alike wsL_alike) := goodIn_app (goodIn_of _ (by decide +kernel)) ggL_law_L_alike
set_option maxRecDepth 20000 in
theorem ggL_law_X8_alike : GoodIn wsL_law wsX8_alike := goodIn_r _ [930, 159, 791, 792, 793, 5, 794, 625, 626, 627, 628, 485, 486, 487, 488, 481, 482, 483, 484, 122, 145, 396, 397, 398, 399, 400, 401, 402, 869, 870, 871, 872, 129, 126, 127, 873, 874, 875, 876, 617, 618, 619, 620, 877, 878, 879, 880, 125, 653, 654, 655, 656, 657, 658, 659, 660, 661, 662, 663, 664, 665, 666, 667, 668, 669, 670, 671, 672, 673, 674, 675, 676, 677, 678, 881, 882, 883, 884, 621, 622, 623, 624, 687, 688, 689, 690, 683, 684, 685, 686, 931, 932, 933, 934, 885, 886, 887, 888, 1183, 1184, 1185, 1186, 1187, 1188, 1189, 1190, 1191, 1192, 1193, 1194, 1195, 1196, 1197, 1198, 1199, 1200, 1201, 1202, 1203, 1204, 1205] (by decide +kernel) (by decide +kernel)
set_option maxRecDepth 20000 in
theorem gL_law_X8_alike : GoodIn wsL_law (wsV RL 133 RX8 yX8_alike wsX8_alike) := goodIn_app (goodIn_of _ (by decide +kernel)) ggL_law_X8_alike
set_option maxRecDepth 20000 in
theorem ggL_law_X7_classes : GoodIn wsL_law wsX7_classes := goodIn_r _ [938, 20, 177, 845, 846, 847, 2, 848, 30, 28, 537, 509, 849, 850, 851, 57, 852, 81, 853, 854, 855, 107, 856, 117, 585, 116, 545, 342, 343, 546, 547, 548, 27, 549, 108, 109, 550, 515, 516, 517, 82, 84, 551, 552, 553, 554, 555, 556, 557, 558, 559, 560, 561, 562, 563, 564, 565, 566, 567, 568, 111, 569, 570, 112, 571, 572, 573, 574, 575, 110, 576, 577, 578, 579, 580, 581, 582, 583, 584, 586, 587, 588, 514, 923, 924, 925, 926, 857, 858, 859, 860, 861, 184, 185, 186, 862, 863, 595, 596, 597, 864, 599, 600, 601, 602, 603, 604, 1171, 1172, 1173, 1174, 1175, 1176, 1177, 1178, 1179, 1180, 1181, 1182, 1216, 1217, 1221, 1222, 1223, 1224, 1225, 1226, 1227, 1228, 1229, 1230, 1231, 1232, 1233, 1234, 1235, 1236, 1237, 1238, 1239, 1245, 1246] (by decide +kernel) (by decide +kernel)
set_option maxRecDepth 20000 in
theorem gL_law_X7_classes : GoodIn wsL_law (wsV RL 134 RX7 yX7_classes wsX7_classes) := goodIn_app (goodIn_of _ (by decide +kernel)) ggL_law_X7_classes
set_option maxRecDepth 20000 in
theorem ggL_law_X8_classes : GoodIn wsL_law wsX8_classes := goodIn_r _ [942, 159, 869, 870, 871, 5, 872, 129, 126, 127, 873, 874, 875, 876, 617, 618, 619, 620, 481, 482, 483, 484, 122, 145, 877, 878, 879, 880, 125, 653, 654, 655, 656, 485, 486, 487, 488, 657, 658, 659, 660, 661, 662, 663, 664, 665, 666, 667, 668, 669, 670, 671, 672, 673, 674, 675, 676, 677, 678, 881, 882, 883, 884, 621, 622, 623, 624, 687, 688, 689, 690, 625, 626, 627, 628, 683, 684, 685, 686, 931, 932, 933, 934, 885, 886, 887, 888, 1183, 1184, 1185, 1186, 1187, 1188, 1189, 1190, 1191, 1192, 1193, 1194, 1195, 1196, 1197, 1198, 1199, 1200, 1201, 1202, 1203, 1204, 1205] (by decide +kernel) (by decide +kernel)
set_option maxRecDepth 20000 in
theorem gL_law_X8_classes : GoodIn wsL_law (wsV RL 137 RX8 yX8_classes wsX8_classes) := goodIn_app (goodIn_of _ (by decide +kernel)) ggL_law_X8_classes
set_option maxRecDepth 20000 in
theorem ggL_law_X7_coverage : GoodIn wsL_law wsX7_coverage := goodIn_r _ [946, 20, 177, 514, 515, 516, 57, 517, 82, 84, 947, 901, 902, 2, 903, 28, 845, 846, 847, 848, 30, 537, 509, 849, 850, 851, 852, 81, 853, 854, 855, 107, 856, 117, 585, 116, 545, 342, 343, 546, 547, 548, 27, 549, 108, 109, 550, 551, 552, 553, 554, 555, 556, 557, 558, 559, 560, 561, 562, 563, 564, 565, 566, 567, 568, 111, 569, 570, 112, 571, 572, 573, 574, 575, 110, 576, 577, 578, 579, 580, 581, 582, 583, 584, 586, 587, 588, 857, 858, 859, 860, 861, 184, 185, 186, 862, 863, 595, 596, 597, 864, 599, 600, 601, 602, 603, 604, 529, 530, 531, 532, 29, 512, 513, 35, 533, 534, 535, 536, 31, 538, 539, 540, 541, 542, 543, 544, 589, 590, 591, 592, 593, 594, 598, 1171, 1172, 1173, 1174, 1175, 1176, 1177, 1178, 1179, 1180, 1181, 1182, 1216, 1217, 1226, 1227, 1228, 1229, 1230, 1231, 1232, 1233, 1234, 1235, 1236, 1237, 1238, 1239, 1221, 1222, 1223, 1224, 1225, 1245, 1246, 1240, 1241, 1242, 1243, 1244] (by decide +kernel) (by decide +kernel)
set_option maxRecDepth 20000 in
theorem gL_law_X7_coverage : GoodIn wsL_law (wsV RL 138 RX7 yX7_coverage wsX7_coverage) := goodIn_app (goodIn_of _ (by decide +kernel)) ggL_law_X7_coverage
set_option maxRecDepth 20000 in
theorem ggL_law_X8_coverage : GoodIn wsL_law wsX8_coverage := goodIn_r _ [951, 159, 625, 626, 627, 5, 628, 485, 486, 487, 488, 481, 482, 483, 484, 122, 145, 908, 909, 910, 911, 869, 870, 871, 872, 129, 126, 127, 873, 874, 875, 876, 617, 618, 619, 620, 877, 878, 879, 880, 125, 653, 654, 655, 656, 657, 658, 659, 660, 661, 662, 663, 664, 665, 666, 667, 668, 669, 670, 671, 672, 673, 674, 675, 676, 677, 678, 881, 882, 883, 884, 621, 622, 623, 624, 687, 688, 689, 690, 683, 684, 685, 686, 912, 913, 914, 915, 885, 886, 887, 888, 641, 642, 643, 644, 128, 645, 646, 647, 648, 629, 630, 631, 632, 649, 650, 651, 652, 679, 680, 681, 682, 1183, 1184, 1185, 1186, 1187, 1188, 1189, 1190, 1191, 1192, 1193, 1194, 1195, 1196, 1197, 1198, 1199, 1200, 1201, 1202, 1203, 1204, 1205] (by decide +kernel) (by decide +kernel)
set_option maxRecDepth 20000 in
theorem gL_law_X8_coverage : GoodIn wsL_law (wsV RL 142 RX8 yX8_coverage wsX8_coverage) := goodIn_app (goodIn_of _ (by decide +kernel)) ggL_law_X8_coverage
set_option maxRecDepth 20000 in
theorem ggL_law_X7_leastSet : GoodIn wsL_law wsX7_leastSet := goodIn_r _ [955, 20, 512, 513, 35, 36, 529, 530, 531, 2, 532, 29, 533, 534, 535, 536, 31, 537, 177, 509, 538, 539, 540, 107, 541, 116, 117, 542, 543, 544, 545, 342, 57, 343, 546, 547, 548, 27, 549, 108, 109, 550, 515, 516, 517, 82, 84, 551, 552, 553, 554, 555, 556, 557, 558, 559, 560, 561, 562, 563, 564, 565, 566, 567, 568, 111, 569, 570, 112, 571, 572, 573, 574, 575, 110, 576, 577, 578, 579, 580, 581, 582, 583, 584, 585, 586, 587, 588, 589, 590, 591, 592, 593, 184, 185, 186, 514, 594, 595, 596, 597, 956, 957, 958, 959, 1171, 1172, 1173, 1174, 1175, 1176, 1177, 1178, 1179, 1180, 1181, 1182, 1216, 1217, 1240, 1241, 1242, 1243, 1244, 1221, 1222, 1223, 1224, 1225, 1226, 1227, 1228, 1229, 1230, 1231, 1232, 1233, 1234, 1235, 1236, 1237, 1238, 1239, 1245, 1246] (by decide +kernel) (by decide +kernel)
set_option maxRecDepth 20000 in
theorem gL_law_X7_leastSet : GoodIn wsL_law (wsV RL 143 RX7 yX7_leastSet wsX7_leastSet) := goodIn_app (goodIn_of _ (by decide +kernel)) ggL_law_X7_leastSet
set_option maxRecDepth 20000 in
theorem ggL_law_X8_leastSet : GoodIn wsL_law wsX8_leastSet := goodIn_r _ [963, 159, 645, 646, 647, 5, 648, 128, 625, 626, 627, 628, 485, 486, 487, 488, 481, 482, 483, 484, 122, 145, 629, 630, 631, 632, 649, 650, 651, 652, 125, 617, 618, 619, 620, 653, 654, 655, 656, 126, 657, 658, 659, 660, 661, 662, 663, 664, 665, 666, 667, 668, 669, 670, 671, 672, 673, 674, 675, 676, 677, 678, 679, 680, 681, 682, 127, 683, 684, 685, 686, 621, 622, 623, 624, 687, 688, 689, 690, 964, 965, 966, 967, 968, 969, 970, 1183, 1184, 1185, 1186, 1187, 1188, 1189, 1190, 1191, 1192, 1193, 1194, 1195, 1196, 1197, 1198, 1199, 1200, 1201, 1202, 1203, 1204, 1205] (by decide +kernel) (by decide +kernel)
set_option maxRecDepth 20000 in
theorem gL_law_X8_leastSet : GoodIn wsL_law (wsV RL 146 RX8 yX8_leastSet wsX8_leastSet) := goodIn_app (goodIn_of _ (by decide +kernel)) ggL_law_X8_leastSet
set_option maxRecDepth 20000 in
theorem ggL_law_X7_suspects : GoodIn wsL_law wsX7_suspects := goodIn_r _ [974, 975, 976, 977, 2, 978, 20, 177, 33, 533, 534, 535, 536, 31, 29, 537, 509, 512, 538, 539, 540, 107, 541, 116, 117, 542, 543, 544, 545, 342, 57, 343, 546, 547, 548, 27, 549, 108, 109, 550, 515, 516, 517, 82, 84, 551, 552, 553, 554, 555, 556, 557, 558, 559, 560, 561, 562, 563, 564, 565, 566, 567, 568, 111, 569, 570, 112, 571, 572, 573, 574, 575, 110, 576, 577, 578, 579, 580, 581, 582, 583, 584, 585, 586, 587, 588, 514, 979, 980, 981, 982, 510, 983, 984, 985, 986, 987, 1171, 1172, 1173, 1174, 1175, 1176, 1177, 1178, 1179, 1180, 1181, 1182, 1216, 1217, 1221, 1222, 1223, 1224, 1225, 1226, 1227, 1228, 1229, 1230, 1231, 1232, 1233, 1234, 1235, 1236, 1237, 1238, 1239, 1245, 1246, 1240, 1241, 1242, 1243, 1244] (by decide +kernel) (by decide +kernel)
set_option maxRecDepth 20000 in
theorem gL_law_X7_suspects : GoodIn wsL_law (wsV RL 147 RX7 yX7_suspects wsX7_suspects) := goodIn_app (goodIn_of _ (by decide +kernel)) ggL_law_X7_suspects
set_option maxRecDepth 20000 in
theorem ggL_law_X8_suspects : GoodIn wsL_law wsX8_suspects := goodIn_r _ [991, 159, 992, 993, 994, 5, 995, 135, 625, 626, 627, 628, 485, 486, 487, 488, 481, 482, 483, 484, 122, 145, 629, 630, 631, 632, 649, 650, 651, 652, 125, 617, 618, 619, 620, 653, 654, 655, 656, 126, 657, 658, 659, 660, 661, 662, 663, 664, 665, 666, 667, 668, 669, 670, 671, 672, 673, 674, 675, 676, 677, 678, 996, 997, 998, 999, 683, 684, 685, 686, 127, 1000, 1001, 1002, 1003, 621, 622, 623, 624, 687, 688, 689, 690, 637, 638, 639, 640, 1183, 1184, 1185, 1186, 1187, 1188, 1189, 1190, 1191, 1192, 1193, 1194, 1195, 1196, 1197, 1198, 1199, 1200, 1201, 1202, 1203, 1204, 1205] (by decide +kernel) (by decide +kernel)
set_option maxRecDepth 20000 in
theorem gL_law_X8_suspects : GoodIn wsL_law (wsV RL 150 RX8 yX8_suspects wsX8_suspects) := goodIn_app (goodIn_of _ (by decide +kernel)) ggL_law_X8_suspects
set_option maxRecDepth 20000 in
theorem ggL_law_L_suspect : GoodIn wsL_law wsL_suspect := goodIn_ca (goodIn_r _ [1006, 737, 1007, 1008, 1009, 2, 1010, 742, 743, 33, 975, 976, 977, 978, 20, 177, 533, 534, 535, 536, 31, 29, 537, 509, 512, 538, 539, 540, 107, 541, 116, 117, 542, 543, 544, 545, 342, 57, 343, 546, 547, 548, 27, 549, 108, 109, 550, 515, 516, 517, 82, 84, 551, 552, 553, 554, 555, 556, 557, 558, 559, 560, 561, 562, 563, 564, 565, 566, 567, 568, 111, 569, 570, 112, 571, 572, 573, 574, 575, 110, 576, 577, 578, 579, 580, 581, 582, 583, 584, 585, 586, 587, 588, 514, 979, 980, 981, 982, 510, 983, 984, 985, 986, 987, 1171, 1172, 1173, 1174, 1175, 1176, 1177, 1178, 1179, 1180, 1181, 1182, 1216, 1217, 1221, 1222, 1223, 1224, 1225, 1226, 1227, 1228, 1229, 1230, 1231, 1232, 1233, 1234, 1235, 1236, 1237, 1238, 1239, 1245, 1246, 1240, 1241, 1242, 1243, 1244] (by decide +kernel) (by decide +kernel)) (goodIn_sub (fun _ h => List.mem_append_left _ (List.mem_append_right _ h)) (by decide +kernel))
set_option maxRecDepth 20000 in
theorem gL_law_L_suspect : GoodIn wsL_law (va_wsS RL 151 yL_suspect wsL_suspect) := goodIn_app (goodIn_of _ (by decide +kernel)) ggL_law_L_suspect
set_option maxRecDepth 20000 in
theorem ggL_law_X8_suspect : GoodIn wsL_law wsX8_suspect := goodIn_r _ [1014, 159, 135, 992, 993, 994, 5, 995, 625, 626, 627, 628, 485, 486, 487, 488, 481, 482, 483, 484, 122, 145, 629, 630, 631, 632, 649, 650, 651, 652, 125, 617, 618, 619, 620, 653, 654, 655, 656, 126, 657, 658, 659, 660, 661, 662, 663, 664, 665, 666, 667, 668, 669, 670, 671, 672, 673, 674, 675, 676, 677, 678, 996, 997, 998, 999, 683, 684, 685, 686, 127, 1000, 1001, 1002, 1003, 621, 622, 623, 624, 687, 688, 689, 690, 637, 638, 639, 640, 396, 397, 398, 399, 400, 401, 402, 1183, 1184, 1185, 1186, 1187, 1188, 1189, 1190, 1191, 1192, 1193, 1194, 1195, 1196, 1197, 1198, 1199, 1200, 1201, 1202, 1203, 1204, 1205] (by decide +kernel) (by decide +kernel)
set_option maxRecDepth 20000 in
theorem gL_law_X8_suspect : GoodIn wsL_law (wsV RL 153 RX8 yX8_suspect wsX8_suspect) := goodIn_app (goodIn_of _ (by decide +kernel)) ggL_law_X8_suspect
set_option maxRecDepth 20000 in
theorem ggL_law_X7_nextTest : GoodIn wsL_law wsX7_nextTest := goodIn_r _ [1018, 20, 512, 513, 975, 976, 977, 2, 978, 177, 33, 533, 534, 535, 536, 31, 29, 537, 509, 538, 539, 540, 107, 541, 116, 117, 542, 543, 544, 545, 342, 57, 343, 546, 547, 548, 27, 549, 108, 109, 550, 515, 516, 517, 82, 84, 551, 552, 553, 554, 555, 556, 557, 558, 559, 560, 561, 562, 563, 564, 565, 566, 567, 568, 111, 569, 570, 112, 571, 572, 573, 574, 575, 110, 576, 577, 578, 579, 580, 581, 582, 583, 584, 585, 586, 587, 588, 514, 979, 980, 981, 982, 510, 983, 984, 985, 986, 987, 1019, 1020, 1021, 1022, 34, 1023, 307, 185, 308, 1024, 1025, 1026, 1027, 764, 765, 1171, 1172, 1173, 1174, 1175, 1176, 1177, 1178, 1179, 1180, 1181, 1182, 1216, 1217, 1240, 1241, 1242, 1243, 1244, 1221, 1222, 1223, 1224, 1225, 1226, 1227, 1228, 1229, 1230, 1231, 1232, 1233, 1234, 1235, 1236, 1237, 1238, 1239, 1245, 1246] (by decide +kernel) (by decide +kernel)
set_option maxRecDepth 20000 in
theorem gL_law_X7_nextTest : GoodIn wsL_law (wsV RL 154 RX7 yX7_nextTest wsX7_nextTest) := goodIn_app (goodIn_of _ (by decide +kernel)) ggL_law_X7_nextTest
set_option maxRecDepth 20000 in
theorem ggL_law_X8_nextTest : GoodIn wsL_law wsX8_nextTest := goodIn_r _ [1031, 159, 992, 993, 994, 5, 995, 135, 625, 626, 627, 628, 485, 486, 487, 488, 481, 482, 483, 484, 122, 145, 629, 630, 631, 632, 649, 650, 651, 652, 125, 617, 618, 619, 620, 653, 654, 655, 656, 126, 657, 658, 659, 660, 661, 662, 663, 664, 665, 666, 667, 668, 669, 670, 671, 672, 673, 674, 675, 676, 677, 678, 996, 997, 998, 999, 683, 684, 685, 686, 127, 1000, 1001, 1002, 1003, 621, 622, 623, 624, 687, 688, 689, 690, 637, 638, 639, 640, 1032, 1033, 1034, 1035, 136, 1183, 1184, 1185, 1186, 1187, 1188, 1189, 1190, 1191, 1192, 1193, 1194, 1195, 1196, 1197, 1198, 1199, 1200, 1201, 1202, 1203, 1204, 1205] (by decide +kernel) (by decide +kernel)
set_option maxRecDepth 20000 in
theorem gL_law_X8_nextTest : GoodIn wsL_law (wsV RL 157 RX8 yX8_nextTest wsX8_nextTest) := goodIn_app (goodIn_of _ (by decide +kernel)) ggL_law_X8_nextTest
set_option maxRecDepth 20000 in
theorem ggL_law_L_addTest : GoodIn wsL_law wsL_addTest := goodIn_ca (goodIn_ca (goodIn_r _ [1038, 169, 1039, 1040, 1041, 1042, 2, 1043, 174, 175, 1044, 1045, 20, 512, 513, 24, 31, 1046, 1047, 1048, 1049, 177, 509, 362, 363, 364, 23, 365, 100, 98, 97, 366, 184, 185, 186, 367, 368, 369, 19, 370, 58, 62, 371, 372, 373, 57, 374, 81, 82, 83, 84, 67, 375, 376, 377, 378, 68, 69, 70, 71, 72, 73, 74, 75, 76, 379, 380, 381, 61, 382, 88, 89, 383, 90, 91, 92, 1050, 359, 360, 361, 1171, 1172, 1173, 1174, 1175, 1176, 1177, 1178, 1179, 1180, 1181, 1182, 1216, 1217, 1240, 1241, 1242, 1243, 1244, 1226, 1227, 1228, 1229, 1230, 1231, 1232, 1233, 1234, 1235, 1236, 1237, 1238, 1239, 1218, 1219, 1220] (by decide +kernel) (by decide +kernel)) (goodIn_sub (fun _ h => List.mem_append_left _ (List.mem_append_left _ (List.mem_append_left _ (List.mem_append_right _ h)))) (by decide +kernel))) (goodIn_sub (fun _ h => List.mem_append_right _ h) (by decide +kernel))
set_option maxRecDepth 20000 in
theorem gL_law_L_addTest : GoodIn wsL_law (va_wsS RL 158 yL_addTest wsL_addTest) := goodIn_app (goodIn_of _ (by decide +kernel)) ggL_law_L_addTest
set_option maxRecDepth 20000 in
theorem ggL_law_X8_addTest : GoodIn wsL_law wsX8_addTest := goodIn_r _ [1054, 159, 873, 874, 875, 5, 876, 617, 618, 619, 620, 481, 482, 483, 484, 122, 145, 396, 397, 398, 399, 400, 401, 402, 629, 630, 631, 632, 476, 477, 478, 479, 480, 1055, 1056, 1057, 1058, 141, 142, 143, 144, 1183, 1184, 1185, 1186, 1187, 1188, 1189, 1190, 1191, 1192, 1193, 1194, 1195, 1196, 1197, 1198, 1199, 1200, 1201, 1202, 1203, 1204, 1205] (by decide +kernel) (by decide +kernel)
set_option maxRecDepth 20000 in
theorem gL_law_X8_addTest : GoodIn wsL_law (wsV RL 160 RX8 yX8_addTest wsX8_addTest) := goodIn_app (goodIn_of _ (by decide +kernel)) ggL_law_X8_addTest
set_option maxRecDepth 20000 in
theorem ggL_law_L_removeTest : GoodIn wsL_law wsL_removeTest := goodIn_ca (goodIn_r _ [1061, 698, 1062, 1063, 1064, 2, 1065, 24, 20, 512, 31, 513, 756, 757, 758, 759, 711, 712, 362, 363, 364, 23, 365, 100, 98, 97, 366, 184, 185, 186, 367, 368, 369, 19, 370, 58, 62, 371, 372, 373, 57, 374, 81, 82, 83, 84, 67, 375, 376, 377, 378, 68, 69, 70, 71, 72, 73, 74, 75, 76, 379, 380, 381, 61, 382, 88, 89, 383, 90, 91, 92, 1066, 1067, 1068, 1069, 1070, 1071, 1072, 1171, 1172, 1173, 1174, 1175, 1176, 1177, 1178, 1179, 1180, 1181, 1182, 1216, 1217, 1240, 1241, 1242, 1243, 1244, 1218, 1219, 1220, 1226, 1227, 1228, 1229, 1230, 1231, 1232, 1233, 1234, 1235, 1236, 1237, 1238, 1239] (by decide +kernel) (by decide +kernel)) (goodIn_sub (fun _ h => List.mem_append_left _ (List.mem_append_left _ (List.mem_append_right _ h))) (by decide +kernel))
set_option maxRecDepth 20000 in
theorem gL_law_L_removeTest : GoodIn wsL_law (va_wsS RL 161 yL_removeTest wsL_removeTest) := goodIn_app (goodIn_of _ (by decide +kernel)) ggL_law_L_removeTest
set_option maxRecDepth 20000 in
theorem ggL_law_X8_removeTest : GoodIn wsL_law wsX8_removeTest := goodIn_r _ [1076, 159, 770, 771, 772, 5, 773, 629, 630, 631, 632, 481, 482, 483, 484, 122, 145, 396, 397, 398, 399, 400, 401, 402, 476, 477, 478, 479, 480, 141, 142, 143, 144, 1183, 1184, 1185, 1186, 1187, 1188, 1189, 1190, 1191, 1192, 1193, 1194, 1195, 1196, 1197, 1198, 1199, 1200, 1201, 1202, 1203, 1204, 1205] (by decide +kernel) (by decide +kernel)
set_option maxRecDepth 20000 in
theorem gL_law_X8_removeTest : GoodIn wsL_law (wsV RL 163 RX8 yX8_removeTest wsX8_removeTest) := goodIn_app (goodIn_of _ (by decide +kernel)) ggL_law_X8_removeTest
set_option maxRecDepth 20000 in
theorem ggL_law_L_setKind : GoodIn wsL_law wsL_setKind := goodIn_ca (goodIn_ca (goodIn_r _ [1079, 698, 169, 1080, 1081, 1082, 2, 1083, 174, 175, 20, 177, 703, 704, 1084, 1085, 24, 707, 708, 709, 710, 711, 712, 178, 362, 363, 364, 23, 365, 100, 98, 97, 366, 184, 185, 186, 367, 368, 369, 19, 370, 58, 62, 371, 372, 373, 57, 374, 81, 82, 83, 84, 67, 375, 376, 377, 378, 68, 69, 70, 71, 72, 73, 74, 75, 76, 379, 380, 381, 61, 382, 88, 89, 383, 90, 91, 92, 385, 386, 387, 388, 30, 31, 1171, 1172, 1173, 1174, 1175, 1176, 1177, 1178, 1179, 1180, 1181, 1182, 1216, 1217, 1226, 1227, 1228, 1229, 1230, 1231, 1232, 1233, 1234, 1235, 1236, 1237, 1238, 1239, 1218, 1219, 1220, 1240, 1241, 1242, 1243, 1244] (by decide +kernel) (by decide +kernel)) (goodIn_sub (fun _ h => List.mem_append_left _ (List.mem_append_left _ (List.mem_append_left _ (List.mem_append_right _ h)))) (by decide +kernel))) (goodIn_sub (fun _ h => List.mem_append_left _ (List.mem_append_left _ (List.mem_append_right _ h))) (by decide +kernel))
set_option maxRecDepth 20000 in
theorem gL_law_L_setKind : GoodIn wsL_law (va_wsS RL 164 yL_setKind wsL_setKind) := goodIn_app (goodIn_of _ (by decide +kernel)) ggL_law_L_setKind
set_option maxRecDepth 20000 in
theorem ggL_law_X8_setKind : GoodIn wsL_law wsX8_setKind := goodIn_r _ [1089, 159, 718, 719, 720, 5, 721, 485, 486, 487, 488, 481, 482, 483, 484, 122, 145, 396, 397, 398, 399, 400, 401, 402, 617, 618, 619, 620, 672, 673, 674, 675, 450, 451, 452, 453, 454, 455, 476, 477, 478, 479, 480, 661, 662, 663, 664, 141, 142, 143, 144, 1183, 1184, 1185, 1186, 1187, 1188, 1189, 1190, 1191, 1192, 1193, 1194, 1195, 1196, 1197, 1198, 1199, 1200, 1201, 1202, 1203, 1204, 1205] (by decide +kernel) (by decide +kernel)
set_option maxRecDepth 20000 in
theorem gL_law_X8_setKind : GoodIn wsL_law (wsV RL 166 RX8 yX8_setKind wsX8_setKind) := goodIn_app (goodIn_of _ (by decide +kernel)) ggL_law_X8_setKind
set_option maxRecDepth 20000 in
theorem ggL_law_L_see : GoodIn wsL_law wsL_see := goodIn_ca (goodIn_ca (goodIn_r _ [1092, 698, 169, 1093, 1094, 1095, 2, 1096, 711, 712, 174, 175, 20, 177, 510, 24, 512, 756, 757, 758, 759, 513, 362, 363, 364, 23, 365, 100, 98, 97, 366, 184, 185, 186, 367, 368, 369, 19, 370, 58, 62, 371, 372, 373, 57, 374, 81, 82, 83, 84, 67, 375, 376, 377, 378, 68, 69, 70, 71, 72, 73, 74, 75, 76, 379, 380, 381, 61, 382, 88, 89, 383, 90, 91, 92, 1097, 1098, 1099, 1100, 975, 976, 977, 978, 33, 533, 534, 535, 536, 31, 29, 537, 509, 538, 539, 540, 107, 541, 116, 117, 542, 543, 544, 545, 342, 343, 546, 547, 548, 27, 549, 108, 109, 550, 515, 516, 517, 551, 552, 553, 554, 555, 556, 557, 558, 559, 560, 561, 562, 563, 564, 565, 566, 567, 568, 111, 569, 570, 112, 571, 572, 573, 574, 575, 110, 576, 577, 578, 579, 580, 581, 582, 583, 584, 585, 586, 587, 588, 514, 979, 980, 981, 982, 983, 984, 985, 986, 987, 1171, 1172, 1173, 1174, 1175, 1176, 1177, 1178, 1179, 1180, 1181, 1182, 1216, 1217, 1226, 1227, 1228, 1229, 1230, 1231, 1232, 1233, 1234, 1235, 1236, 1237, 1238, 1239, 1240, 1241, 1242, 1243, 1244, 1218, 1219, 1220, 1221, 1222, 1223, 1224, 1225, 1245, 1246] (by decide +kernel) (by decide +kernel)) (goodIn_sub (fun _ h => List.mem_append_left _ (List.mem_append_left _ (List.mem_append_right _ h))) (by decide +kernel))) (goodIn_sub (fun _ h => List.mem_append_left _ (List.mem_append_left _ (List.mem_append_left _ (List.mem_append_right _ h)))) (by decide +kernel))
set_option maxRecDepth 20000 in
theorem gL_law_L_see : GoodIn wsL_law (va_wsS RL 167 yL_see wsL_see) := goodIn_app (goodIn_of _ (by decide +kernel)) ggL_law_L_see
set_option maxRecDepth 20000 in
theorem ggL_law_X8_see : GoodIn wsL_law wsX8_see := goodIn_r _ [1104, 159, 770, 771, 772, 5, 773, 629, 630, 631, 632, 481, 482, 483, 484, 122, 145, 396, 397, 398, 399, 400, 401, 402, 621, 622, 623, 624, 476, 477, 478, 479, 480, 141, 142, 143, 144, 992, 993, 994, 995, 135, 625, 626, 627, 628, 485, 486, 487, 488, 649, 650, 651, 652, 125, 617, 618, 619, 620, 653, 654, 655, 656, 126, 657, 658, 659, 660, 661, 662, 663, 664, 665, 666, 667, 668, 669, 670, 671, 672, 673, 674, 675, 676, 677, 678, 996, 997, 998, 999, 683, 684, 685, 686, 127, 1000, 1001, 1002, 1003, 687, 688, 689, 690, 637, 638, 639, 640, 1183, 1184, 1185, 1186, 1187, 1188, 1189, 1190, 1191, 1192, 1193, 1194, 1195, 1196, 1197, 1198, 1199, 1200, 1201, 1202, 1203, 1204, 1205] (by decide +kernel) (by decide +kernel)
set_option maxRecDepth 20000 in
theorem gL_law_X8_see : GoodIn wsL_law (wsV RL 169 RX8 yX8_see wsX8_see) := goodIn_app (goodIn_of _ (by decide +kernel)) ggL_law_X8_see
set_option maxRecDepth 20000 in
theorem ggL_law_X7_forget : GoodIn wsL_law wsX7_forget := goodIn_r _ [1108, 24, 20, 512, 362, 363, 364, 23, 365, 100, 98, 97, 366, 184, 185, 186, 367, 368, 369, 19, 370, 58, 62, 371, 372, 373, 57, 374, 81, 82, 83, 84, 67, 375, 376, 377, 378, 68, 69, 70, 71, 72, 73, 74, 75, 76, 379, 380, 381, 61, 382, 88, 89, 383, 90, 91, 92, 518, 519, 520, 521, 522, 523, 524, 525, 526, 527, 528, 1109, 197, 198, 199, 1171, 1172, 1173, 1174, 1175, 1176, 1177, 1178, 1179, 1180, 1181, 1182, 1216, 1217, 1218, 1219, 1220, 1226, 1227, 1228, 1229, 1230, 1231, 1232, 1233, 1234, 1235, 1236, 1237, 1238, 1239, 1240, 1241, 1242, 1243, 1244] (by decide +kernel) (by decide +kernel)
set_option maxRecDepth 20000 in
theorem gL_law_X7_forget : GoodIn wsL_law (wsV RL 170 RX7 yX7_forget wsX7_forget) := goodIn_app (goodIn_of _ (by decide +kernel)) ggL_law_X7_forget
set_option maxRecDepth 20000 in
theorem ggL_law_X8_forget : GoodIn wsL_law wsX8_forget := goodIn_r _ [1113, 159, 476, 477, 478, 5, 479, 145, 122, 480, 481, 482, 483, 484, 633, 634, 635, 636, 629, 630, 631, 632, 621, 622, 623, 624, 637, 638, 639, 640, 141, 142, 143, 144, 1183, 1184, 1185, 1186, 1187, 1188, 1189, 1190, 1191, 1192, 1193, 1194, 1195, 1196, 1197, 1198, 1199, 1200, 1201, 1202, 1203, 1204, 1205] (by decide +kernel) (by decide +kernel)
set_option maxRecDepth 20000 in
theorem gL_law_X8_forget : GoodIn wsL_law (wsV RL 173 RX8 yX8_forget wsX8_forget) := goodIn_app (goodIn_of _ (by decide +kernel)) ggL_law_X8_forget
set_option maxRecDepth 20000 in
theorem ggL_law_X7_complete : GoodIn wsL_law wsX7_complete := goodIn_r _ [1117, 24, 20, 959, 512, 513, 37, 31, 362, 363, 364, 23, 365, 100, 98, 97, 366, 184, 185, 186, 367, 368, 369, 19, 370, 58, 62, 371, 372, 373, 57, 374, 81, 82, 83, 84, 67, 375, 376, 377, 378, 68, 69, 70, 71, 72, 73, 74, 75, 76, 379, 380, 381, 61, 382, 88, 89, 383, 90, 91, 92, 529, 530, 531, 2, 532, 29, 35, 533, 534, 535, 536, 537, 177, 509, 538, 539, 540, 107, 541, 116, 117, 542, 543, 544, 545, 342, 343, 546, 547, 548, 27, 549, 108, 109, 550, 515, 516, 517, 551, 552, 553, 554, 555, 556, 557, 558, 559, 560, 561, 562, 563, 564, 565, 566, 567, 568, 111, 569, 570, 112, 571, 572, 573, 574, 575, 110, 576, 577, 578, 579, 580, 581, 582, 583, 584, 585, 586, 587, 588, 589, 590, 591, 592, 593, 514, 594, 595, 596, 597, 1118, 1119, 1120, 1121, 28, 845, 846, 847, 848, 30, 849, 850, 851, 852, 853, 854, 855, 856, 1122, 1123, 1124, 1125, 598, 599, 600, 601, 602, 603, 604, 1050, 359, 360, 361, 1171, 1172, 1173, 1174, 1175, 1176, 1177, 1178, 1179, 1180, 1181, 1182, 1216, 1217, 1240, 1241, 1242, 1243, 1244, 1218, 1219, 1220, 1226, 1227, 1228, 1229, 1230, 1231, 1232, 1233, 1234, 1235, 1236, 1237, 1238, 1239, 1221, 1222, 1223, 1224, 1225, 1245, 1246] (by decide +kernel) (by decide +kernel)
set_option maxRecDepth 20000 in
theorem gL_law_X7_complete : GoodIn wsL_law (wsV RL 174 RX7 yX7_complete wsX7_complete) := goodIn_app (goodIn_of _ (by decide +kernel)) ggL_law_X7_complete
set_option maxRecDepth 20000 in
theorem ggL_law_X8_complete : GoodIn wsL_law wsX8_complete := goodIn_r _ [1129, 159, 128, 129, 476, 477, 478, 5, 479, 145, 122, 480, 481, 482, 483, 484, 869, 870, 871, 872, 126, 127, 873, 874, 875, 876, 617, 618, 619, 620, 877, 878, 879, 880, 125, 653, 654, 655, 656, 485, 486, 487, 488, 657, 658, 659, 660, 661, 662, 663, 664, 665, 666, 667, 668, 669, 670, 671, 672, 673, 674, 675, 676, 677, 678, 881, 882, 883, 884, 621, 622, 623, 624, 687, 688, 689, 690, 625, 626, 627, 628, 683, 684, 685, 686, 645, 646, 647, 648, 629, 630, 631, 632, 649, 650, 651, 652, 679, 680, 681, 682, 1055, 1056, 1057, 1058, 141, 142, 143, 144, 1183, 1184, 1185, 1186, 1187, 1188, 1189, 1190, 1191, 1192, 1193, 1194, 1195, 1196, 1197, 1198, 1199, 1200, 1201, 1202, 1203, 1204, 1205] (by decide +kernel) (by decide +kernel)
set_option maxRecDepth 20000 in
theorem gL_law_X8_complete : GoodIn wsL_law (wsV RL 177 RX8 yX8_complete wsX8_complete) := goodIn_app (goodIn_of _ (by decide +kernel)) ggL_law_X8_complete
set_option maxRecDepth 20000 in
theorem ggL_law_X7_undo : GoodIn wsL_law wsX7_undo := goodIn_r _ [1133, 24, 1134, 20, 1135, 1136, 1137, 23, 1138, 98, 100, 97, 367, 368, 369, 19, 370, 58, 62, 371, 372, 373, 57, 374, 81, 82, 83, 84, 67, 375, 376, 377, 378, 68, 69, 70, 71, 72, 73, 74, 75, 76, 379, 380, 381, 61, 382, 88, 89, 383, 90, 91, 92, 385, 386, 387, 2, 388, 30, 31, 1171, 1172, 1173, 1174, 1175, 1176, 1177, 1178, 1179, 1180, 1181, 1182, 1218, 1219, 1220, 1216, 1217, 1226, 1227, 1228, 1229, 1230, 1231, 1232, 1233, 1234, 1235, 1236, 1237, 1238, 1239, 1240, 1241, 1242, 1243, 1244] (by decide +kernel) (by decide +kernel)
set_option maxRecDepth 20000 in
theorem gL_law_X7_undo : GoodIn wsL_law (wsV RL 178 RX7 yX7_undo wsX7_undo) := goodIn_app (goodIn_of _ (by decide +kernel)) ggL_law_X7_undo
set_option maxRecDepth 20000 in
theorem ggL_law_X8_undo : GoodIn wsL_law wsX8_undo := goodIn_r _ [1142, 159, 480, 145, 1183, 1184, 1185, 1186, 1187, 1188, 1189, 1190, 1191, 1192, 1193, 1194, 1195, 1196, 1197, 1198, 1199, 1200, 1201, 1202, 1203, 1204, 1205] (by decide +kernel) (by decide +kernel)
set_option maxRecDepth 20000 in
theorem gL_law_X8_undo : GoodIn wsL_law (wsV RL 181 RX8 yX8_undo wsX8_undo) := goodIn_app (goodIn_of _ (by decide +kernel)) ggL_law_X8_undo
set_option maxRecDepth 20000 in
theorem ggL_law_X7_checksum : GoodIn wsL_law wsX7_checksum := goodIn_ca (goodIn_ca (goodIn_r _ [1146, 1147, 1148, 506, 507, 2, 508, 174, 175, 20, 177, 509, 178, 510, 511, 512, 513, 514, 515, 516, 57, 517, 82, 84, 518, 519, 520, 61, 521, 91, 92, 522, 523, 524, 525, 526, 527, 528, 529, 530, 531, 532, 29, 35, 533, 534, 535, 536, 31, 537, 538, 539, 540, 107, 541, 116, 117, 542, 543, 544, 545, 342, 343, 546, 547, 548, 27, 549, 108, 109, 550, 551, 552, 553, 554, 555, 556, 557, 558, 559, 560, 561, 562, 563, 564, 565, 566, 567, 568, 111, 569, 570, 112, 571, 572, 573, 574, 575, 110, 576, 577, 578, 579, 580, 581, 582, 583, 584, 585, 586, 587, 588, 589, 590, 591, 592, 593, 184, 185, 186, 594, 595, 596, 597, 598, 599, 600, 601, 602, 603, 604, 605, 606, 607, 608, 70, 306, 307, 308, 1149, 1150, 1151, 1152, 704, 744, 1153, 700, 701, 702, 703, 705, 706, 707, 708, 709, 710, 711, 712, 713, 314, 315, 316, 83, 73, 1154, 1155, 1156, 1157, 760, 761, 762, 763, 764, 765, 1158, 1159, 1160, 1161, 1162, 975, 976, 977, 978, 33, 979, 980, 981, 982, 983, 984, 985, 986, 987, 1171, 1172, 1173, 1174, 1175, 1176, 1177, 1178, 1179, 1180, 1181, 1182, 1216, 1217, 1226, 1227, 1228, 1229, 1230, 1231, 1232, 1233, 1234, 1235, 1236, 1237, 1238, 1239, 1240, 1241, 1242, 1243, 1244, 1221, 1222, 1223, 1224, 1225, 1245, 1246] (by decide +kernel) (by decide +kernel)) (goodIn_sub (fun _ h => List.mem_append_left _ (List.mem_append_left _ (List.mem_append_left _ (List.mem_append_right _ h)))) (by decide +kernel))) (goodIn_sub (fun _ h => List.mem_append_left _ (List.mem_append_left _ (List.mem_append_right _ h))) (by decide +kernel))
set_option maxRecDepth 20000 in
theorem gL_law_X7_checksum : GoodIn wsL_law (wsV RL 182 RX7 yX7_checksum wsX7_checksum) := goodIn_app (goodIn_of _ (by decide +kernel)) ggL_law_X7_checksum
set_option maxRecDepth 20000 in
theorem ggL_law_X8_checksum : GoodIn wsL_law wsX8_checksum := goodIn_r _ [1166, 159, 126, 613, 614, 615, 5, 616, 617, 618, 619, 620, 481, 482, 483, 484, 122, 145, 485, 486, 487, 488, 621, 622, 623, 624, 625, 626, 627, 628, 629, 630, 631, 632, 633, 634, 635, 636, 637, 638, 639, 640, 641, 642, 643, 644, 128, 645, 646, 647, 648, 649, 650, 651, 652, 125, 653, 654, 655, 656, 657, 658, 659, 660, 661, 662, 663, 664, 665, 666, 667, 668, 669, 670, 671, 672, 673, 674, 675, 676, 677, 678, 679, 680, 681, 682, 127, 683, 684, 685, 686, 687, 688, 689, 690, 691, 692, 693, 694, 124, 1167, 1168, 1169, 1170, 722, 723, 724, 725, 726, 727, 728, 729, 730, 731, 732, 733, 834, 835, 836, 837, 992, 993, 994, 995, 135, 996, 997, 998, 999, 1000, 1001, 1002, 1003, 1183, 1184, 1185, 1186, 1187, 1188, 1189, 1190, 1191, 1192, 1193, 1194, 1195, 1196, 1197, 1198, 1199, 1200, 1201, 1202, 1203, 1204, 1205] (by decide +kernel) (by decide +kernel)
set_option maxRecDepth 20000 in
theorem gL_law_X8_checksum : GoodIn wsL_law (wsV RL 186 RX8 yX8_checksum wsX8_checksum) := goodIn_app (goodIn_of _ (by decide +kernel)) ggL_law_X8_checksum
theorem dL_law_0 : decode cL_law 0 = .ok (.new 8, 3) := by decide +kernel
theorem dL_law_3 : decode cL_law 3 = .ok (.dup, 1) := by decide +kernel
theorem dL_law_4 : decode cL_law 4 = .ok (.invokespecial 72, 3) := by decide +kernel
theorem dL_law_7 : decode cL_law 7 = .ok (.astore_n 1, 1) := by decide +kernel
theorem dL_law_8 : decode cL_law 8 = .ok (.new 73, 3) := by decide +kernel
theorem dL_law_11 : decode cL_law 11 = .ok (.dup, 1) := by decide +kernel
theorem dL_law_12 : decode cL_law 12 = .ok (.invokespecial 75, 3) := by decide +kernel
theorem dL_law_15 : decode cL_law 15 = .ok (.astore_n 2, 1) := by decide +kernel
theorem dL_law_16 : decode cL_law 16 = .ok (.iconst 1, 1) := by decide +kernel
theorem dL_law_17 : decode cL_law 17 = .ok (.newarray .long, 2) := by decide +kernel
theorem dL_law_19 : decode cL_law 19 = .ok (.astore_n 3, 1) := by decide +kernel
theorem dL_law_20 : decode cL_law 20 = .ok (.iconst 0, 1) := by decide +kernel
theorem dL_law_21 : decode cL_law 21 = .ok (.istore 4, 2) := by decide +kernel
theorem dL_law_23 : decode cL_law 23 = .ok (.iload 4, 2) := by decide +kernel
theorem dL_law_25 : decode cL_law 25 = .ok (.aload_n 0, 1) := by decide +kernel
theorem dL_law_26 : decode cL_law 26 = .ok (.arraylength, 1) := by decide +kernel
theorem dL_law_27 : decode cL_law 27 = .ok (.bipush 6, 2) := by decide +kernel
theorem dL_law_29 : decode cL_law 29 = .ok (.isub, 1) := by decide +kernel
theorem dL_law_30 : decode cL_law 30 = .ok (.if_icmp .gt 1508, 3) := by decide +kernel
theorem dL_law_33 : decode cL_law 33 = .ok (.aload_n 0, 1) := by decide +kernel
theorem dL_law_34 : decode cL_law 34 = .ok (.iload 4, 2) := by decide +kernel
theorem dL_law_36 : decode cL_law 36 = .ok (.iaload, 1) := by decide +kernel
theorem dL_law_37 : decode cL_law 37 = .ok (.bipush 31, 2) := by decide +kernel
theorem dL_law_39 : decode cL_law 39 = .ok (.iand, 1) := by decide +kernel
theorem dL_law_40 : decode cL_law 40 = .ok (.tableswitch 1492 0 28 #[132, 205, 261, 274, 330, 398, 466, 534, 614, 682, 769, 825, 881, 949, 962, 1018, 1031, 1072, 1085, 1098, 1154, 1167, 1235, 1291, 1359, 1439, 1452, 1465, 1478], 132) := by decide +kernel
theorem dL_law_172 : decode cL_law 172 = .ok (.aload_n 1, 1) := by decide +kernel
theorem dL_law_173 : decode cL_law 173 = .ok (.aload_n 0, 1) := by decide +kernel
theorem dL_law_174 : decode cL_law 174 = .ok (.iload 4, 2) := by decide +kernel
theorem dL_law_176 : decode cL_law 176 = .ok (.iconst 1, 1) := by decide +kernel
theorem dL_law_177 : decode cL_law 177 = .ok (.iadd, 1) := by decide +kernel
theorem dL_law_178 : decode cL_law 178 = .ok (.iaload, 1) := by decide +kernel
theorem dL_law_179 : decode cL_law 179 = .ok (.aload_n 0, 1) := by decide +kernel
theorem dL_law_180 : decode cL_law 180 = .ok (.iload 4, 2) := by decide +kernel
theorem dL_law_182 : decode cL_law 182 = .ok (.iconst 2, 1) := by decide +kernel
theorem dL_law_183 : decode cL_law 183 = .ok (.iadd, 1) := by decide +kernel
theorem dL_law_184 : decode cL_law 184 = .ok (.iaload, 1) := by decide +kernel
theorem dL_law_185 : decode cL_law 185 = .ok (.aload_n 0, 1) := by decide +kernel
theorem dL_law_186 : decode cL_law 186 = .ok (.iload 4, 2) := by decide +kernel
theorem dL_law_188 : decode cL_law 188 = .ok (.iconst 3, 1) := by decide +kernel
theorem dL_law_189 : decode cL_law 189 = .ok (.iadd, 1) := by decide +kernel
theorem dL_law_190 : decode cL_law 190 = .ok (.iaload, 1) := by decide +kernel
theorem dL_law_191 : decode cL_law 191 = .ok (.aload_n 0, 1) := by decide +kernel
theorem dL_law_192 : decode cL_law 192 = .ok (.iload 4, 2) := by decide +kernel
theorem dL_law_194 : decode cL_law 194 = .ok (.iconst 4, 1) := by decide +kernel
theorem dL_law_195 : decode cL_law 195 = .ok (.iadd, 1) := by decide +kernel
theorem dL_law_196 : decode cL_law 196 = .ok (.iaload, 1) := by decide +kernel
theorem dL_law_197 : decode cL_law 197 = .ok (.aload_n 0, 1) := by decide +kernel
theorem dL_law_198 : decode cL_law 198 = .ok (.iload 4, 2) := by decide +kernel
theorem dL_law_200 : decode cL_law 200 = .ok (.iconst 5, 1) := by decide +kernel
theorem dL_law_201 : decode cL_law 201 = .ok (.iadd, 1) := by decide +kernel
theorem dL_law_202 : decode cL_law 202 = .ok (.iaload, 1) := by decide +kernel
theorem dL_law_203 : decode cL_law 203 = .ok (.invokevirtual 76, 3) := by decide +kernel
theorem dL_law_206 : decode cL_law 206 = .ok (.aload_n 2, 1) := by decide +kernel
theorem dL_law_207 : decode cL_law 207 = .ok (.aload_n 0, 1) := by decide +kernel
theorem dL_law_208 : decode cL_law 208 = .ok (.iload 4, 2) := by decide +kernel
theorem dL_law_210 : decode cL_law 210 = .ok (.iconst 1, 1) := by decide +kernel
theorem dL_law_211 : decode cL_law 211 = .ok (.iadd, 1) := by decide +kernel
theorem dL_law_212 : decode cL_law 212 = .ok (.iaload, 1) := by decide +kernel
theorem dL_law_213 : decode cL_law 213 = .ok (.aload_n 0, 1) := by decide +kernel
theorem dL_law_214 : decode cL_law 214 = .ok (.iload 4, 2) := by decide +kernel
theorem dL_law_216 : decode cL_law 216 = .ok (.iconst 2, 1) := by decide +kernel
theorem dL_law_217 : decode cL_law 217 = .ok (.iadd, 1) := by decide +kernel
theorem dL_law_218 : decode cL_law 218 = .ok (.iaload, 1) := by decide +kernel
theorem dL_law_219 : decode cL_law 219 = .ok (.aload_n 0, 1) := by decide +kernel
theorem dL_law_220 : decode cL_law 220 = .ok (.iload 4, 2) := by decide +kernel
theorem dL_law_222 : decode cL_law 222 = .ok (.iconst 3, 1) := by decide +kernel
theorem dL_law_223 : decode cL_law 223 = .ok (.iadd, 1) := by decide +kernel
theorem dL_law_224 : decode cL_law 224 = .ok (.iaload, 1) := by decide +kernel
theorem dL_law_225 : decode cL_law 225 = .ok (.aload_n 0, 1) := by decide +kernel
theorem dL_law_226 : decode cL_law 226 = .ok (.iload 4, 2) := by decide +kernel
theorem dL_law_228 : decode cL_law 228 = .ok (.iconst 4, 1) := by decide +kernel
theorem dL_law_229 : decode cL_law 229 = .ok (.iadd, 1) := by decide +kernel
theorem dL_law_230 : decode cL_law 230 = .ok (.iaload, 1) := by decide +kernel
theorem dL_law_231 : decode cL_law 231 = .ok (.aload_n 0, 1) := by decide +kernel
theorem dL_law_232 : decode cL_law 232 = .ok (.iload 4, 2) := by decide +kernel
theorem dL_law_234 : decode cL_law 234 = .ok (.iconst 5, 1) := by decide +kernel
theorem dL_law_235 : decode cL_law 235 = .ok (.iadd, 1) := by decide +kernel
theorem dL_law_236 : decode cL_law 236 = .ok (.iaload, 1) := by decide +kernel
theorem dL_law_237 : decode cL_law 237 = .ok (.invokevirtual 80, 3) := by decide +kernel
theorem dL_law_240 : decode cL_law 240 = .ok (.if_icmp .eq 1292, 3) := by decide +kernel
theorem dL_law_243 : decode cL_law 243 = .ok (.iconst 0, 1) := by decide +kernel
theorem dL_law_244 : decode cL_law 244 = .ok (.ireturn, 1) := by decide +kernel
theorem dL_law_245 : decode cL_law 245 = .ok (.aload_n 1, 1) := by decide +kernel
theorem dL_law_246 : decode cL_law 246 = .ok (.aload_n 0, 1) := by decide +kernel
theorem dL_law_247 : decode cL_law 247 = .ok (.iload 4, 2) := by decide +kernel
theorem dL_law_249 : decode cL_law 249 = .ok (.iconst 1, 1) := by decide +kernel
theorem dL_law_250 : decode cL_law 250 = .ok (.iadd, 1) := by decide +kernel
theorem dL_law_251 : decode cL_law 251 = .ok (.iaload, 1) := by decide +kernel
theorem dL_law_252 : decode cL_law 252 = .ok (.aload_n 3, 1) := by decide +kernel
theorem dL_law_253 : decode cL_law 253 = .ok (.invokestatic 81, 3) := by decide +kernel
theorem dL_law_256 : decode cL_law 256 = .ok (.istore 5, 2) := by decide +kernel
theorem dL_law_258 : decode cL_law 258 = .ok (.aload_n 2, 1) := by decide +kernel
theorem dL_law_259 : decode cL_law 259 = .ok (.aload_n 0, 1) := by decide +kernel
theorem dL_law_260 : decode cL_law 260 = .ok (.iload 4, 2) := by decide +kernel
theorem dL_law_262 : decode cL_law 262 = .ok (.iconst 1, 1) := by decide +kernel
theorem dL_law_263 : decode cL_law 263 = .ok (.iadd, 1) := by decide +kernel
theorem dL_law_264 : decode cL_law 264 = .ok (.iaload, 1) := by decide +kernel
theorem dL_law_265 : decode cL_law 265 = .ok (.invokevirtual 86, 3) := by decide +kernel
theorem dL_law_268 : decode cL_law 268 = .ok (.istore 6, 2) := by decide +kernel
theorem dL_law_270 : decode cL_law 270 = .ok (.aload_n 2, 1) := by decide +kernel
theorem dL_law_271 : decode cL_law 271 = .ok (.invokevirtual 87, 3) := by decide +kernel
theorem dL_law_274 : decode cL_law 274 = .ok (.iload 5, 2) := by decide +kernel
theorem dL_law_276 : decode cL_law 276 = .ok (.if_icmp .eq 5, 3) := by decide +kernel
theorem dL_law_279 : decode cL_law 279 = .ok (.iconst 0, 1) := by decide +kernel
theorem dL_law_280 : decode cL_law 280 = .ok (.ireturn, 1) := by decide +kernel
theorem dL_law_281 : decode cL_law 281 = .ok (.iload 5, 2) := by decide +kernel
theorem dL_law_283 : decode cL_law 283 = .ok (.ifCond .ne 15, 3) := by decide +kernel
theorem dL_law_286 : decode cL_law 286 = .ok (.aload_n 3, 1) := by decide +kernel
theorem dL_law_287 : decode cL_law 287 = .ok (.iconst 0, 1) := by decide +kernel
theorem dL_law_288 : decode cL_law 288 = .ok (.laload, 1) := by decide +kernel
theorem dL_law_289 : decode cL_law 289 = .ok (.iload 6, 2) := by decide +kernel
theorem dL_law_291 : decode cL_law 291 = .ok (.i2l, 1) := by decide +kernel
theorem dL_law_292 : decode cL_law 292 = .ok (.lcmp, 1) := by decide +kernel
theorem dL_law_293 : decode cL_law 293 = .ok (.ifCond .eq 5, 3) := by decide +kernel
theorem dL_law_296 : decode cL_law 296 = .ok (.iconst 0, 1) := by decide +kernel
theorem dL_law_297 : decode cL_law 297 = .ok (.ireturn, 1) := by decide +kernel
theorem dL_law_298 : decode cL_law 298 = .ok (.goto 1234, 3) := by decide +kernel
theorem dL_law_301 : decode cL_law 301 = .ok (.aload_n 1, 1) := by decide +kernel
theorem dL_law_302 : decode cL_law 302 = .ok (.invokevirtual 91, 3) := by decide +kernel
theorem dL_law_305 : decode cL_law 305 = .ok (.aload_n 2, 1) := by decide +kernel
theorem dL_law_306 : decode cL_law 306 = .ok (.invokevirtual 94, 3) := by decide +kernel
theorem dL_law_309 : decode cL_law 309 = .ok (.if_icmp .eq 1223, 3) := by decide +kernel
theorem dL_law_312 : decode cL_law 312 = .ok (.iconst 0, 1) := by decide +kernel
theorem dL_law_313 : decode cL_law 313 = .ok (.ireturn, 1) := by decide +kernel
theorem dL_law_314 : decode cL_law 314 = .ok (.aload_n 1, 1) := by decide +kernel
theorem dL_law_315 : decode cL_law 315 = .ok (.aload_n 0, 1) := by decide +kernel
theorem dL_law_316 : decode cL_law 316 = .ok (.iload 4, 2) := by decide +kernel
theorem dL_law_318 : decode cL_law 318 = .ok (.iconst 1, 1) := by decide +kernel
theorem dL_law_319 : decode cL_law 319 = .ok (.iadd, 1) := by decide +kernel
theorem dL_law_320 : decode cL_law 320 = .ok (.iaload, 1) := by decide +kernel
theorem dL_law_321 : decode cL_law 321 = .ok (.aload_n 3, 1) := by decide +kernel
theorem dL_law_322 : decode cL_law 322 = .ok (.invokestatic 95, 3) := by decide +kernel
theorem dL_law_325 : decode cL_law 325 = .ok (.istore 5, 2) := by decide +kernel
theorem dL_law_327 : decode cL_law 327 = .ok (.aload_n 2, 1) := by decide +kernel
theorem dL_law_328 : decode cL_law 328 = .ok (.aload_n 0, 1) := by decide +kernel
theorem dL_law_329 : decode cL_law 329 = .ok (.iload 4, 2) := by decide +kernel
theorem dL_law_331 : decode cL_law 331 = .ok (.iconst 1, 1) := by decide +kernel
theorem dL_law_332 : decode cL_law 332 = .ok (.iadd, 1) := by decide +kernel
theorem dL_law_333 : decode cL_law 333 = .ok (.iaload, 1) := by decide +kernel
theorem dL_law_334 : decode cL_law 334 = .ok (.invokevirtual 97, 3) := by decide +kernel
theorem dL_law_337 : decode cL_law 337 = .ok (.istore 6, 2) := by decide +kernel
theorem dL_law_339 : decode cL_law 339 = .ok (.aload_n 2, 1) := by decide +kernel
theorem dL_law_340 : decode cL_law 340 = .ok (.invokevirtual 87, 3) := by decide +kernel
theorem dL_law_343 : decode cL_law 343 = .ok (.iload 5, 2) := by decide +kernel
theorem dL_law_345 : decode cL_law 345 = .ok (.if_icmp .eq 5, 3) := by decide +kernel
theorem dL_law_348 : decode cL_law 348 = .ok (.iconst 0, 1) := by decide +kernel
theorem dL_law_349 : decode cL_law 349 = .ok (.ireturn, 1) := by decide +kernel
theorem dL_law_350 : decode cL_law 350 = .ok (.iload 5, 2) := by decide +kernel
theorem dL_law_352 : decode cL_law 352 = .ok (.ifCond .ne 15, 3) := by decide +kernel
theorem dL_law_355 : decode cL_law 355 = .ok (.aload_n 3, 1) := by decide +kernel
theorem dL_law_356 : decode cL_law 356 = .ok (.iconst 0, 1) := by decide +kernel
theorem dL_law_357 : decode cL_law 357 = .ok (.laload, 1) := by decide +kernel
theorem dL_law_358 : decode cL_law 358 = .ok (.iload 6, 2) := by decide +kernel
theorem dL_law_360 : decode cL_law 360 = .ok (.i2l, 1) := by decide +kernel
theorem dL_law_361 : decode cL_law 361 = .ok (.lcmp, 1) := by decide +kernel
theorem dL_law_362 : decode cL_law 362 = .ok (.ifCond .eq 5, 3) := by decide +kernel
theorem dL_law_365 : decode cL_law 365 = .ok (.iconst 0, 1) := by decide +kernel
theorem dL_law_366 : decode cL_law 366 = .ok (.ireturn, 1) := by decide +kernel
theorem dL_law_367 : decode cL_law 367 = .ok (.goto 1165, 3) := by decide +kernel
theorem dL_law_370 : decode cL_law 370 = .ok (.aload_n 1, 1) := by decide +kernel
theorem dL_law_371 : decode cL_law 371 = .ok (.aload_n 0, 1) := by decide +kernel
theorem dL_law_372 : decode cL_law 372 = .ok (.iload 4, 2) := by decide +kernel
theorem dL_law_374 : decode cL_law 374 = .ok (.iconst 1, 1) := by decide +kernel
theorem dL_law_375 : decode cL_law 375 = .ok (.iadd, 1) := by decide +kernel
theorem dL_law_376 : decode cL_law 376 = .ok (.iaload, 1) := by decide +kernel
theorem dL_law_377 : decode cL_law 377 = .ok (.aload_n 0, 1) := by decide +kernel
theorem dL_law_378 : decode cL_law 378 = .ok (.iload 4, 2) := by decide +kernel
theorem dL_law_380 : decode cL_law 380 = .ok (.iconst 2, 1) := by decide +kernel
theorem dL_law_381 : decode cL_law 381 = .ok (.iadd, 1) := by decide +kernel
theorem dL_law_382 : decode cL_law 382 = .ok (.iaload, 1) := by decide +kernel
theorem dL_law_383 : decode cL_law 383 = .ok (.aload_n 3, 1) := by decide +kernel
theorem dL_law_384 : decode cL_law 384 = .ok (.invokestatic 98, 3) := by decide +kernel
theorem dL_law_387 : decode cL_law 387 = .ok (.istore 5, 2) := by decide +kernel
theorem dL_law_389 : decode cL_law 389 = .ok (.aload_n 2, 1) := by decide +kernel
theorem dL_law_390 : decode cL_law 390 = .ok (.aload_n 0, 1) := by decide +kernel
theorem dL_law_391 : decode cL_law 391 = .ok (.iload 4, 2) := by decide +kernel
theorem dL_law_393 : decode cL_law 393 = .ok (.iconst 1, 1) := by decide +kernel
theorem dL_law_394 : decode cL_law 394 = .ok (.iadd, 1) := by decide +kernel
theorem dL_law_395 : decode cL_law 395 = .ok (.iaload, 1) := by decide +kernel
theorem dL_law_396 : decode cL_law 396 = .ok (.aload_n 0, 1) := by decide +kernel
theorem dL_law_397 : decode cL_law 397 = .ok (.iload 4, 2) := by decide +kernel
theorem dL_law_399 : decode cL_law 399 = .ok (.iconst 2, 1) := by decide +kernel
theorem dL_law_400 : decode cL_law 400 = .ok (.iadd, 1) := by decide +kernel
theorem dL_law_401 : decode cL_law 401 = .ok (.iaload, 1) := by decide +kernel
theorem dL_law_402 : decode cL_law 402 = .ok (.invokevirtual 101, 3) := by decide +kernel
theorem dL_law_405 : decode cL_law 405 = .ok (.istore 6, 2) := by decide +kernel
theorem dL_law_407 : decode cL_law 407 = .ok (.aload_n 2, 1) := by decide +kernel
theorem dL_law_408 : decode cL_law 408 = .ok (.invokevirtual 87, 3) := by decide +kernel
theorem dL_law_411 : decode cL_law 411 = .ok (.iload 5, 2) := by decide +kernel
theorem dL_law_413 : decode cL_law 413 = .ok (.if_icmp .eq 5, 3) := by decide +kernel
theorem dL_law_416 : decode cL_law 416 = .ok (.iconst 0, 1) := by decide +kernel
theorem dL_law_417 : decode cL_law 417 = .ok (.ireturn, 1) := by decide +kernel
theorem dL_law_418 : decode cL_law 418 = .ok (.iload 5, 2) := by decide +kernel
theorem dL_law_420 : decode cL_law 420 = .ok (.ifCond .ne 15, 3) := by decide +kernel
theorem dL_law_423 : decode cL_law 423 = .ok (.aload_n 3, 1) := by decide +kernel
theorem dL_law_424 : decode cL_law 424 = .ok (.iconst 0, 1) := by decide +kernel
theorem dL_law_425 : decode cL_law 425 = .ok (.laload, 1) := by decide +kernel
theorem dL_law_426 : decode cL_law 426 = .ok (.iload 6, 2) := by decide +kernel
theorem dL_law_428 : decode cL_law 428 = .ok (.i2l, 1) := by decide +kernel
theorem dL_law_429 : decode cL_law 429 = .ok (.lcmp, 1) := by decide +kernel
theorem dL_law_430 : decode cL_law 430 = .ok (.ifCond .eq 5, 3) := by decide +kernel
theorem dL_law_433 : decode cL_law 433 = .ok (.iconst 0, 1) := by decide +kernel
theorem dL_law_434 : decode cL_law 434 = .ok (.ireturn, 1) := by decide +kernel
theorem dL_law_435 : decode cL_law 435 = .ok (.goto 1097, 3) := by decide +kernel
theorem dL_law_438 : decode cL_law 438 = .ok (.aload_n 1, 1) := by decide +kernel
theorem dL_law_439 : decode cL_law 439 = .ok (.aload_n 0, 1) := by decide +kernel
theorem dL_law_440 : decode cL_law 440 = .ok (.iload 4, 2) := by decide +kernel
theorem dL_law_442 : decode cL_law 442 = .ok (.iconst 1, 1) := by decide +kernel
theorem dL_law_443 : decode cL_law 443 = .ok (.iadd, 1) := by decide +kernel
theorem dL_law_444 : decode cL_law 444 = .ok (.iaload, 1) := by decide +kernel
theorem dL_law_445 : decode cL_law 445 = .ok (.aload_n 0, 1) := by decide +kernel
theorem dL_law_446 : decode cL_law 446 = .ok (.iload 4, 2) := by decide +kernel
theorem dL_law_448 : decode cL_law 448 = .ok (.iconst 2, 1) := by decide +kernel
theorem dL_law_449 : decode cL_law 449 = .ok (.iadd, 1) := by decide +kernel
theorem dL_law_450 : decode cL_law 450 = .ok (.iaload, 1) := by decide +kernel
theorem dL_law_451 : decode cL_law 451 = .ok (.aload_n 3, 1) := by decide +kernel
theorem dL_law_452 : decode cL_law 452 = .ok (.invokestatic 102, 3) := by decide +kernel
theorem dL_law_455 : decode cL_law 455 = .ok (.istore 5, 2) := by decide +kernel
theorem dL_law_457 : decode cL_law 457 = .ok (.aload_n 2, 1) := by decide +kernel
theorem dL_law_458 : decode cL_law 458 = .ok (.aload_n 0, 1) := by decide +kernel
theorem dL_law_459 : decode cL_law 459 = .ok (.iload 4, 2) := by decide +kernel
theorem dL_law_461 : decode cL_law 461 = .ok (.iconst 1, 1) := by decide +kernel
theorem dL_law_462 : decode cL_law 462 = .ok (.iadd, 1) := by decide +kernel
theorem dL_law_463 : decode cL_law 463 = .ok (.iaload, 1) := by decide +kernel
theorem dL_law_464 : decode cL_law 464 = .ok (.aload_n 0, 1) := by decide +kernel
theorem dL_law_465 : decode cL_law 465 = .ok (.iload 4, 2) := by decide +kernel
theorem dL_law_467 : decode cL_law 467 = .ok (.iconst 2, 1) := by decide +kernel
theorem dL_law_468 : decode cL_law 468 = .ok (.iadd, 1) := by decide +kernel
theorem dL_law_469 : decode cL_law 469 = .ok (.iaload, 1) := by decide +kernel
theorem dL_law_470 : decode cL_law 470 = .ok (.invokevirtual 104, 3) := by decide +kernel
theorem dL_law_473 : decode cL_law 473 = .ok (.istore 6, 2) := by decide +kernel
theorem dL_law_475 : decode cL_law 475 = .ok (.aload_n 2, 1) := by decide +kernel
theorem dL_law_476 : decode cL_law 476 = .ok (.invokevirtual 87, 3) := by decide +kernel
theorem dL_law_479 : decode cL_law 479 = .ok (.iload 5, 2) := by decide +kernel
theorem dL_law_481 : decode cL_law 481 = .ok (.if_icmp .eq 5, 3) := by decide +kernel
theorem dL_law_484 : decode cL_law 484 = .ok (.iconst 0, 1) := by decide +kernel
theorem dL_law_485 : decode cL_law 485 = .ok (.ireturn, 1) := by decide +kernel
theorem dL_law_486 : decode cL_law 486 = .ok (.iload 5, 2) := by decide +kernel
theorem dL_law_488 : decode cL_law 488 = .ok (.ifCond .ne 15, 3) := by decide +kernel
theorem dL_law_491 : decode cL_law 491 = .ok (.aload_n 3, 1) := by decide +kernel
theorem dL_law_492 : decode cL_law 492 = .ok (.iconst 0, 1) := by decide +kernel
theorem dL_law_493 : decode cL_law 493 = .ok (.laload, 1) := by decide +kernel
theorem dL_law_494 : decode cL_law 494 = .ok (.iload 6, 2) := by decide +kernel
theorem dL_law_496 : decode cL_law 496 = .ok (.i2l, 1) := by decide +kernel
theorem dL_law_497 : decode cL_law 497 = .ok (.lcmp, 1) := by decide +kernel
theorem dL_law_498 : decode cL_law 498 = .ok (.ifCond .eq 5, 3) := by decide +kernel
theorem dL_law_501 : decode cL_law 501 = .ok (.iconst 0, 1) := by decide +kernel
theorem dL_law_502 : decode cL_law 502 = .ok (.ireturn, 1) := by decide +kernel
theorem dL_law_503 : decode cL_law 503 = .ok (.goto 1029, 3) := by decide +kernel
theorem dL_law_506 : decode cL_law 506 = .ok (.aload_n 1, 1) := by decide +kernel
theorem dL_law_507 : decode cL_law 507 = .ok (.aload_n 0, 1) := by decide +kernel
theorem dL_law_508 : decode cL_law 508 = .ok (.iload 4, 2) := by decide +kernel
theorem dL_law_510 : decode cL_law 510 = .ok (.iconst 1, 1) := by decide +kernel
theorem dL_law_511 : decode cL_law 511 = .ok (.iadd, 1) := by decide +kernel
theorem dL_law_512 : decode cL_law 512 = .ok (.iaload, 1) := by decide +kernel
theorem dL_law_513 : decode cL_law 513 = .ok (.aload_n 0, 1) := by decide +kernel
theorem dL_law_514 : decode cL_law 514 = .ok (.iload 4, 2) := by decide +kernel
theorem dL_law_516 : decode cL_law 516 = .ok (.iconst 2, 1) := by decide +kernel
theorem dL_law_517 : decode cL_law 517 = .ok (.iadd, 1) := by decide +kernel
theorem dL_law_518 : decode cL_law 518 = .ok (.iaload, 1) := by decide +kernel
theorem dL_law_519 : decode cL_law 519 = .ok (.aload_n 3, 1) := by decide +kernel
theorem dL_law_520 : decode cL_law 520 = .ok (.invokestatic 105, 3) := by decide +kernel
theorem dL_law_523 : decode cL_law 523 = .ok (.istore 5, 2) := by decide +kernel
theorem dL_law_525 : decode cL_law 525 = .ok (.aload_n 2, 1) := by decide +kernel
theorem dL_law_526 : decode cL_law 526 = .ok (.aload_n 0, 1) := by decide +kernel
theorem dL_law_527 : decode cL_law 527 = .ok (.iload 4, 2) := by decide +kernel
theorem dL_law_529 : decode cL_law 529 = .ok (.iconst 1, 1) := by decide +kernel
theorem dL_law_530 : decode cL_law 530 = .ok (.iadd, 1) := by decide +kernel
theorem dL_law_531 : decode cL_law 531 = .ok (.iaload, 1) := by decide +kernel
theorem dL_law_532 : decode cL_law 532 = .ok (.aload_n 0, 1) := by decide +kernel
theorem dL_law_533 : decode cL_law 533 = .ok (.iload 4, 2) := by decide +kernel
theorem dL_law_535 : decode cL_law 535 = .ok (.iconst 2, 1) := by decide +kernel
theorem dL_law_536 : decode cL_law 536 = .ok (.iadd, 1) := by decide +kernel
theorem dL_law_537 : decode cL_law 537 = .ok (.iaload, 1) := by decide +kernel
theorem dL_law_538 : decode cL_law 538 = .ok (.invokevirtual 107, 3) := by decide +kernel
theorem dL_law_541 : decode cL_law 541 = .ok (.istore 6, 2) := by decide +kernel
theorem dL_law_543 : decode cL_law 543 = .ok (.aload_n 2, 1) := by decide +kernel
theorem dL_law_544 : decode cL_law 544 = .ok (.invokevirtual 87, 3) := by decide +kernel
theorem dL_law_547 : decode cL_law 547 = .ok (.iload 5, 2) := by decide +kernel
theorem dL_law_549 : decode cL_law 549 = .ok (.if_icmp .eq 5, 3) := by decide +kernel
theorem dL_law_552 : decode cL_law 552 = .ok (.iconst 0, 1) := by decide +kernel
theorem dL_law_553 : decode cL_law 553 = .ok (.ireturn, 1) := by decide +kernel
theorem dL_law_554 : decode cL_law 554 = .ok (.iload 5, 2) := by decide +kernel
theorem dL_law_556 : decode cL_law 556 = .ok (.ifCond .ne 15, 3) := by decide +kernel
theorem dL_law_559 : decode cL_law 559 = .ok (.aload_n 3, 1) := by decide +kernel
theorem dL_law_560 : decode cL_law 560 = .ok (.iconst 0, 1) := by decide +kernel
theorem dL_law_561 : decode cL_law 561 = .ok (.laload, 1) := by decide +kernel
theorem dL_law_562 : decode cL_law 562 = .ok (.iload 6, 2) := by decide +kernel
theorem dL_law_564 : decode cL_law 564 = .ok (.i2l, 1) := by decide +kernel
theorem dL_law_565 : decode cL_law 565 = .ok (.lcmp, 1) := by decide +kernel
theorem dL_law_566 : decode cL_law 566 = .ok (.ifCond .eq 5, 3) := by decide +kernel
theorem dL_law_569 : decode cL_law 569 = .ok (.iconst 0, 1) := by decide +kernel
theorem dL_law_570 : decode cL_law 570 = .ok (.ireturn, 1) := by decide +kernel
theorem dL_law_571 : decode cL_law 571 = .ok (.goto 961, 3) := by decide +kernel
theorem dL_law_574 : decode cL_law 574 = .ok (.aload_n 1, 1) := by decide +kernel
theorem dL_law_575 : decode cL_law 575 = .ok (.aload_n 0, 1) := by decide +kernel
theorem dL_law_576 : decode cL_law 576 = .ok (.iload 4, 2) := by decide +kernel
theorem dL_law_578 : decode cL_law 578 = .ok (.iconst 1, 1) := by decide +kernel
theorem dL_law_579 : decode cL_law 579 = .ok (.iadd, 1) := by decide +kernel
theorem dL_law_580 : decode cL_law 580 = .ok (.iaload, 1) := by decide +kernel
theorem dL_law_581 : decode cL_law 581 = .ok (.aload_n 0, 1) := by decide +kernel
theorem dL_law_582 : decode cL_law 582 = .ok (.iload 4, 2) := by decide +kernel
theorem dL_law_584 : decode cL_law 584 = .ok (.iconst 2, 1) := by decide +kernel
theorem dL_law_585 : decode cL_law 585 = .ok (.iadd, 1) := by decide +kernel
theorem dL_law_586 : decode cL_law 586 = .ok (.iaload, 1) := by decide +kernel
theorem dL_law_587 : decode cL_law 587 = .ok (.aload_n 0, 1) := by decide +kernel
theorem dL_law_588 : decode cL_law 588 = .ok (.iload 4, 2) := by decide +kernel
theorem dL_law_590 : decode cL_law 590 = .ok (.iconst 3, 1) := by decide +kernel
theorem dL_law_591 : decode cL_law 591 = .ok (.iadd, 1) := by decide +kernel
theorem dL_law_592 : decode cL_law 592 = .ok (.iaload, 1) := by decide +kernel
theorem dL_law_593 : decode cL_law 593 = .ok (.aload_n 3, 1) := by decide +kernel
theorem dL_law_594 : decode cL_law 594 = .ok (.invokestatic 108, 3) := by decide +kernel
theorem dL_law_597 : decode cL_law 597 = .ok (.istore 5, 2) := by decide +kernel
theorem dL_law_599 : decode cL_law 599 = .ok (.aload_n 2, 1) := by decide +kernel
theorem dL_law_600 : decode cL_law 600 = .ok (.aload_n 0, 1) := by decide +kernel
theorem dL_law_601 : decode cL_law 601 = .ok (.iload 4, 2) := by decide +kernel
theorem dL_law_603 : decode cL_law 603 = .ok (.iconst 1, 1) := by decide +kernel
theorem dL_law_604 : decode cL_law 604 = .ok (.iadd, 1) := by decide +kernel
theorem dL_law_605 : decode cL_law 605 = .ok (.iaload, 1) := by decide +kernel
theorem dL_law_606 : decode cL_law 606 = .ok (.aload_n 0, 1) := by decide +kernel
theorem dL_law_607 : decode cL_law 607 = .ok (.iload 4, 2) := by decide +kernel
theorem dL_law_609 : decode cL_law 609 = .ok (.iconst 2, 1) := by decide +kernel
theorem dL_law_610 : decode cL_law 610 = .ok (.iadd, 1) := by decide +kernel
theorem dL_law_611 : decode cL_law 611 = .ok (.iaload, 1) := by decide +kernel
theorem dL_law_612 : decode cL_law 612 = .ok (.aload_n 0, 1) := by decide +kernel
theorem dL_law_613 : decode cL_law 613 = .ok (.iload 4, 2) := by decide +kernel
theorem dL_law_615 : decode cL_law 615 = .ok (.iconst 3, 1) := by decide +kernel
theorem dL_law_616 : decode cL_law 616 = .ok (.iadd, 1) := by decide +kernel
theorem dL_law_617 : decode cL_law 617 = .ok (.iaload, 1) := by decide +kernel
theorem dL_law_618 : decode cL_law 618 = .ok (.invokevirtual 111, 3) := by decide +kernel
theorem dL_law_621 : decode cL_law 621 = .ok (.istore 6, 2) := by decide +kernel
theorem dL_law_623 : decode cL_law 623 = .ok (.aload_n 2, 1) := by decide +kernel
theorem dL_law_624 : decode cL_law 624 = .ok (.invokevirtual 87, 3) := by decide +kernel
theorem dL_law_627 : decode cL_law 627 = .ok (.iload 5, 2) := by decide +kernel
theorem dL_law_629 : decode cL_law 629 = .ok (.if_icmp .eq 5, 3) := by decide +kernel
theorem dL_law_632 : decode cL_law 632 = .ok (.iconst 0, 1) := by decide +kernel
theorem dL_law_633 : decode cL_law 633 = .ok (.ireturn, 1) := by decide +kernel
theorem dL_law_634 : decode cL_law 634 = .ok (.iload 5, 2) := by decide +kernel
theorem dL_law_636 : decode cL_law 636 = .ok (.ifCond .ne 15, 3) := by decide +kernel
theorem dL_law_639 : decode cL_law 639 = .ok (.aload_n 3, 1) := by decide +kernel
theorem dL_law_640 : decode cL_law 640 = .ok (.iconst 0, 1) := by decide +kernel
theorem dL_law_641 : decode cL_law 641 = .ok (.laload, 1) := by decide +kernel
theorem dL_law_642 : decode cL_law 642 = .ok (.iload 6, 2) := by decide +kernel
theorem dL_law_644 : decode cL_law 644 = .ok (.i2l, 1) := by decide +kernel
theorem dL_law_645 : decode cL_law 645 = .ok (.lcmp, 1) := by decide +kernel
theorem dL_law_646 : decode cL_law 646 = .ok (.ifCond .eq 5, 3) := by decide +kernel
theorem dL_law_649 : decode cL_law 649 = .ok (.iconst 0, 1) := by decide +kernel
theorem dL_law_650 : decode cL_law 650 = .ok (.ireturn, 1) := by decide +kernel
theorem dL_law_651 : decode cL_law 651 = .ok (.goto 881, 3) := by decide +kernel
theorem dL_law_654 : decode cL_law 654 = .ok (.aload_n 1, 1) := by decide +kernel
theorem dL_law_655 : decode cL_law 655 = .ok (.aload_n 0, 1) := by decide +kernel
theorem dL_law_656 : decode cL_law 656 = .ok (.iload 4, 2) := by decide +kernel
theorem dL_law_658 : decode cL_law 658 = .ok (.iconst 1, 1) := by decide +kernel
theorem dL_law_659 : decode cL_law 659 = .ok (.iadd, 1) := by decide +kernel
theorem dL_law_660 : decode cL_law 660 = .ok (.iaload, 1) := by decide +kernel
theorem dL_law_661 : decode cL_law 661 = .ok (.aload_n 0, 1) := by decide +kernel
theorem dL_law_662 : decode cL_law 662 = .ok (.iload 4, 2) := by decide +kernel
theorem dL_law_664 : decode cL_law 664 = .ok (.iconst 2, 1) := by decide +kernel
theorem dL_law_665 : decode cL_law 665 = .ok (.iadd, 1) := by decide +kernel
theorem dL_law_666 : decode cL_law 666 = .ok (.iaload, 1) := by decide +kernel
theorem dL_law_667 : decode cL_law 667 = .ok (.aload_n 3, 1) := by decide +kernel
theorem dL_law_668 : decode cL_law 668 = .ok (.invokestatic 112, 3) := by decide +kernel
theorem dL_law_671 : decode cL_law 671 = .ok (.istore 5, 2) := by decide +kernel
theorem dL_law_673 : decode cL_law 673 = .ok (.aload_n 2, 1) := by decide +kernel
theorem dL_law_674 : decode cL_law 674 = .ok (.aload_n 0, 1) := by decide +kernel
theorem dL_law_675 : decode cL_law 675 = .ok (.iload 4, 2) := by decide +kernel
theorem dL_law_677 : decode cL_law 677 = .ok (.iconst 1, 1) := by decide +kernel
theorem dL_law_678 : decode cL_law 678 = .ok (.iadd, 1) := by decide +kernel
theorem dL_law_679 : decode cL_law 679 = .ok (.iaload, 1) := by decide +kernel
theorem dL_law_680 : decode cL_law 680 = .ok (.aload_n 0, 1) := by decide +kernel
theorem dL_law_681 : decode cL_law 681 = .ok (.iload 4, 2) := by decide +kernel
theorem dL_law_683 : decode cL_law 683 = .ok (.iconst 2, 1) := by decide +kernel
theorem dL_law_684 : decode cL_law 684 = .ok (.iadd, 1) := by decide +kernel
theorem dL_law_685 : decode cL_law 685 = .ok (.iaload, 1) := by decide +kernel
theorem dL_law_686 : decode cL_law 686 = .ok (.invokevirtual 114, 3) := by decide +kernel
theorem dL_law_689 : decode cL_law 689 = .ok (.istore 6, 2) := by decide +kernel
theorem dL_law_691 : decode cL_law 691 = .ok (.aload_n 2, 1) := by decide +kernel
theorem dL_law_692 : decode cL_law 692 = .ok (.invokevirtual 87, 3) := by decide +kernel
theorem dL_law_695 : decode cL_law 695 = .ok (.iload 5, 2) := by decide +kernel
theorem dL_law_697 : decode cL_law 697 = .ok (.if_icmp .eq 5, 3) := by decide +kernel
theorem dL_law_700 : decode cL_law 700 = .ok (.iconst 0, 1) := by decide +kernel
theorem dL_law_701 : decode cL_law 701 = .ok (.ireturn, 1) := by decide +kernel
theorem dL_law_702 : decode cL_law 702 = .ok (.iload 5, 2) := by decide +kernel
theorem dL_law_704 : decode cL_law 704 = .ok (.ifCond .ne 15, 3) := by decide +kernel
theorem dL_law_707 : decode cL_law 707 = .ok (.aload_n 3, 1) := by decide +kernel
theorem dL_law_708 : decode cL_law 708 = .ok (.iconst 0, 1) := by decide +kernel
theorem dL_law_709 : decode cL_law 709 = .ok (.laload, 1) := by decide +kernel
theorem dL_law_710 : decode cL_law 710 = .ok (.iload 6, 2) := by decide +kernel
theorem dL_law_712 : decode cL_law 712 = .ok (.i2l, 1) := by decide +kernel
theorem dL_law_713 : decode cL_law 713 = .ok (.lcmp, 1) := by decide +kernel
theorem dL_law_714 : decode cL_law 714 = .ok (.ifCond .eq 5, 3) := by decide +kernel
theorem dL_law_717 : decode cL_law 717 = .ok (.iconst 0, 1) := by decide +kernel
theorem dL_law_718 : decode cL_law 718 = .ok (.ireturn, 1) := by decide +kernel
theorem dL_law_719 : decode cL_law 719 = .ok (.goto 813, 3) := by decide +kernel
theorem dL_law_722 : decode cL_law 722 = .ok (.aload_n 1, 1) := by decide +kernel
theorem dL_law_723 : decode cL_law 723 = .ok (.aload_n 0, 1) := by decide +kernel
theorem dL_law_724 : decode cL_law 724 = .ok (.iload 4, 2) := by decide +kernel
theorem dL_law_726 : decode cL_law 726 = .ok (.iconst 1, 1) := by decide +kernel
theorem dL_law_727 : decode cL_law 727 = .ok (.iadd, 1) := by decide +kernel
theorem dL_law_728 : decode cL_law 728 = .ok (.iaload, 1) := by decide +kernel
theorem dL_law_729 : decode cL_law 729 = .ok (.aload_n 0, 1) := by decide +kernel
theorem dL_law_730 : decode cL_law 730 = .ok (.iload 4, 2) := by decide +kernel
theorem dL_law_732 : decode cL_law 732 = .ok (.iconst 2, 1) := by decide +kernel
theorem dL_law_733 : decode cL_law 733 = .ok (.iadd, 1) := by decide +kernel
theorem dL_law_734 : decode cL_law 734 = .ok (.iaload, 1) := by decide +kernel
theorem dL_law_735 : decode cL_law 735 = .ok (.aload_n 0, 1) := by decide +kernel
theorem dL_law_736 : decode cL_law 736 = .ok (.iload 4, 2) := by decide +kernel
theorem dL_law_738 : decode cL_law 738 = .ok (.iconst 3, 1) := by decide +kernel
theorem dL_law_739 : decode cL_law 739 = .ok (.iadd, 1) := by decide +kernel
theorem dL_law_740 : decode cL_law 740 = .ok (.iaload, 1) := by decide +kernel
theorem dL_law_741 : decode cL_law 741 = .ok (.aload_n 3, 1) := by decide +kernel
theorem dL_law_742 : decode cL_law 742 = .ok (.invokestatic 115, 3) := by decide +kernel
theorem dL_law_745 : decode cL_law 745 = .ok (.istore 5, 2) := by decide +kernel
theorem dL_law_747 : decode cL_law 747 = .ok (.aload_n 2, 1) := by decide +kernel
theorem dL_law_748 : decode cL_law 748 = .ok (.aload_n 0, 1) := by decide +kernel
theorem dL_law_749 : decode cL_law 749 = .ok (.iload 4, 2) := by decide +kernel
theorem dL_law_751 : decode cL_law 751 = .ok (.iconst 1, 1) := by decide +kernel
theorem dL_law_752 : decode cL_law 752 = .ok (.iadd, 1) := by decide +kernel
theorem dL_law_753 : decode cL_law 753 = .ok (.iaload, 1) := by decide +kernel
theorem dL_law_754 : decode cL_law 754 = .ok (.aload_n 0, 1) := by decide +kernel
theorem dL_law_755 : decode cL_law 755 = .ok (.iload 4, 2) := by decide +kernel
theorem dL_law_757 : decode cL_law 757 = .ok (.iconst 2, 1) := by decide +kernel
theorem dL_law_758 : decode cL_law 758 = .ok (.iadd, 1) := by decide +kernel
theorem dL_law_759 : decode cL_law 759 = .ok (.iaload, 1) := by decide +kernel
theorem dL_law_760 : decode cL_law 760 = .ok (.aload_n 0, 1) := by decide +kernel
theorem dL_law_761 : decode cL_law 761 = .ok (.iload 4, 2) := by decide +kernel
theorem dL_law_763 : decode cL_law 763 = .ok (.iconst 3, 1) := by decide +kernel
theorem dL_law_764 : decode cL_law 764 = .ok (.iadd, 1) := by decide +kernel
theorem dL_law_765 : decode cL_law 765 = .ok (.iaload, 1) := by decide +kernel
theorem dL_law_766 : decode cL_law 766 = .ok (.invokevirtual 117, 3) := by decide +kernel
theorem dL_law_769 : decode cL_law 769 = .ok (.istore 6, 2) := by decide +kernel
theorem dL_law_771 : decode cL_law 771 = .ok (.aload_n 2, 1) := by decide +kernel
theorem dL_law_772 : decode cL_law 772 = .ok (.invokevirtual 87, 3) := by decide +kernel
theorem dL_law_775 : decode cL_law 775 = .ok (.iload 5, 2) := by decide +kernel
theorem dL_law_777 : decode cL_law 777 = .ok (.if_icmp .eq 5, 3) := by decide +kernel
theorem dL_law_780 : decode cL_law 780 = .ok (.iconst 0, 1) := by decide +kernel
theorem dL_law_781 : decode cL_law 781 = .ok (.ireturn, 1) := by decide +kernel
theorem dL_law_782 : decode cL_law 782 = .ok (.iload 5, 2) := by decide +kernel
theorem dL_law_784 : decode cL_law 784 = .ok (.ifCond .ne 22, 3) := by decide +kernel
