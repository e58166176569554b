theorem dX7_wire_0 : decode cX7_wire 0 = .ok (.aload_n 0, 1) := by decide +kernel
theorem dX7_wire_1 : decode cX7_wire 1 = .ok (.iload_n 1, 1) := by decide +kernel
theorem dX7_wire_2 : decode cX7_wire 2 = .ok (.invokevirtual 149, 3) := by decide +kernel
theorem dX7_wire_5 : decode cX7_wire 5 = .ok (.iload_n 2, 1) := by decide +kernel
theorem dX7_wire_6 : decode cX7_wire 6 = .ok (.tableswitch 98 0 4 #[34, 47, 60, 73, 86], 34) := by decide +kernel
theorem dX7_wire_40 : decode cX7_wire 40 = .ok (.aload_n 0, 1) := by decide +kernel
theorem dX7_wire_41 : decode cX7_wire 41 = .ok (.getfield 19, 3) := by decide +kernel
theorem dX7_wire_44 : decode cX7_wire 44 = .ok (.getfield 97, 3) := by decide +kernel
theorem dX7_wire_47 : decode cX7_wire 47 = .ok (.getfield 152, 3) := by decide +kernel
theorem dX7_wire_50 : decode cX7_wire 50 = .ok (.iload_n 1, 1) := by decide +kernel
theorem dX7_wire_51 : decode cX7_wire 51 = .ok (.iaload, 1) := by decide +kernel
theorem dX7_wire_52 : decode cX7_wire 52 = .ok (.ireturn, 1) := by decide +kernel
theorem dX7_wire_53 : decode cX7_wire 53 = .ok (.aload_n 0, 1) := by decide +kernel
theorem dX7_wire_54 : decode cX7_wire 54 = .ok (.getfield 19, 3) := by decide +kernel
theorem dX7_wire_57 : decode cX7_wire 57 = .ok (.getfield 97, 3) := by decide +kernel
theorem dX7_wire_60 : decode cX7_wire 60 = .ok (.getfield 155, 3) := by decide +kernel
theorem dX7_wire_63 : decode cX7_wire 63 = .ok (.iload_n 1, 1) := by decide +kernel
theorem dX7_wire_64 : decode cX7_wire 64 = .ok (.iaload, 1) := by decide +kernel
theorem dX7_wire_65 : decode cX7_wire 65 = .ok (.ireturn, 1) := by decide +kernel
theorem dX7_wire_66 : decode cX7_wire 66 = .ok (.aload_n 0, 1) := by decide +kernel
theorem dX7_wire_67 : decode cX7_wire 67 = .ok (.getfield 19, 3) := by decide +kernel
theorem dX7_wire_70 : decode cX7_wire 70 = .ok (.getfield 97, 3) := by decide +kernel
theorem dX7_wire_73 : decode cX7_wire 73 = .ok (.getfield 158, 3) := by decide +kernel
theorem dX7_wire_76 : decode cX7_wire 76 = .ok (.iload_n 1, 1) := by decide +kernel
theorem dX7_wire_77 : decode cX7_wire 77 = .ok (.iaload, 1) := by decide +kernel
theorem dX7_wire_78 : decode cX7_wire 78 = .ok (.ireturn, 1) := by decide +kernel
theorem dX7_wire_79 : decode cX7_wire 79 = .ok (.aload_n 0, 1) := by decide +kernel
theorem dX7_wire_80 : decode cX7_wire 80 = .ok (.getfield 19, 3) := by decide +kernel
theorem dX7_wire_83 : decode cX7_wire 83 = .ok (.getfield 97, 3) := by decide +kernel
theorem dX7_wire_86 : decode cX7_wire 86 = .ok (.getfield 161, 3) := by decide +kernel
theorem dX7_wire_89 : decode cX7_wire 89 = .ok (.iload_n 1, 1) := by decide +kernel
theorem dX7_wire_90 : decode cX7_wire 90 = .ok (.iaload, 1) := by decide +kernel
theorem dX7_wire_91 : decode cX7_wire 91 = .ok (.ireturn, 1) := by decide +kernel
theorem dX7_wire_92 : decode cX7_wire 92 = .ok (.aload_n 0, 1) := by decide +kernel
theorem dX7_wire_93 : decode cX7_wire 93 = .ok (.getfield 19, 3) := by decide +kernel
theorem dX7_wire_96 : decode cX7_wire 96 = .ok (.getfield 97, 3) := by decide +kernel
theorem dX7_wire_99 : decode cX7_wire 99 = .ok (.iload_n 1, 1) := by decide +kernel
theorem dX7_wire_100 : decode cX7_wire 100 = .ok (.invokevirtual 164, 3) := by decide +kernel
theorem dX7_wire_103 : decode cX7_wire 103 = .ok (.ireturn, 1) := by decide +kernel
theorem dX7_wire_104 : decode cX7_wire 104 = .ok (.new 73, 3) := by decide +kernel
theorem dX7_wire_107 : decode cX7_wire 107 = .ok (.dup, 1) := by decide +kernel
theorem dX7_wire_108 : decode cX7_wire 108 = .ok (.ldc 147, 2) := by decide +kernel
theorem dX7_wire_110 : decode cX7_wire 110 = .ok (.invokespecial 77, 3) := by decide +kernel
theorem dX7_wire_113 : decode cX7_wire 113 = .ok (.athrow, 1) := by decide +kernel
set_option maxRecDepth 20000 in
theorem ggX7_operand_X7_checkWire : GoodIn wsX7_operand wsX7_checkWire := goodIn_ca (goodIn_r _ [11, 12, 13, 3, 4, 14, 15, 16, 17, 18, 19, 20, 21, 22, 23, 24, 25, 26, 27, 28, 29, 30, 31, 32, 33, 34, 35, 36, 37, 38, 39, 40, 41, 42] (by decide +kernel) (by decide +kernel)) (goodIn_sub (fun _ h => List.mem_cons_of_mem _ (List.mem_append_right _ h)) (by decide +kernel))
set_option maxRecDepth 20000 in
theorem gX7_operand_X7_checkWire : GoodIn wsX7_operand (wsV RX7 149 RX7 yX7_checkWire wsX7_checkWire) := goodIn_app (goodIn_of _ (by decide +kernel)) ggX7_operand_X7_checkWire
theorem dX7_operand_0 : decode cX7_operand 0 = .ok (.aload_n 0, 1) := by decide +kernel
theorem dX7_operand_1 : decode cX7_operand 1 = .ok (.iload_n 1, 1) := by decide +kernel
theorem dX7_operand_2 : decode cX7_operand 2 = .ok (.invokevirtual 149, 3) := by decide +kernel
theorem dX7_operand_5 : decode cX7_operand 5 = .ok (.iload_n 2, 1) := by decide +kernel
theorem dX7_operand_6 : decode cX7_operand 6 = .ok (.ifCond .lt 19, 3) := by decide +kernel
theorem dX7_operand_9 : decode cX7_operand 9 = .ok (.iload_n 2, 1) := by decide +kernel
theorem dX7_operand_10 : decode cX7_operand 10 = .ok (.aload_n 0, 1) := by decide +kernel
theorem dX7_operand_11 : decode cX7_operand 11 = .ok (.getfield 19, 3) := by decide +kernel
theorem dX7_operand_14 : decode cX7_operand 14 = .ok (.getfield 97, 3) := by decide +kernel
theorem dX7_operand_17 : decode cX7_operand 17 = .ok (.getfield 155, 3) := by decide +kernel
theorem dX7_operand_20 : decode cX7_operand 20 = .ok (.iload_n 1, 1) := by decide +kernel
theorem dX7_operand_21 : decode cX7_operand 21 = .ok (.iaload, 1) := by decide +kernel
theorem dX7_operand_22 : decode cX7_operand 22 = .ok (.if_icmp .lt 13, 3) := by decide +kernel
theorem dX7_operand_25 : decode cX7_operand 25 = .ok (.new 167, 3) := by decide +kernel
theorem dX7_operand_28 : decode cX7_operand 28 = .ok (.dup, 1) := by decide +kernel
theorem dX7_operand_29 : decode cX7_operand 29 = .ok (.ldc 169, 2) := by decide +kernel
theorem dX7_operand_31 : decode cX7_operand 31 = .ok (.invokespecial 171, 3) := by decide +kernel
theorem dX7_operand_34 : decode cX7_operand 34 = .ok (.athrow, 1) := by decide +kernel
theorem dX7_operand_35 : decode cX7_operand 35 = .ok (.aload_n 0, 1) := by decide +kernel
theorem dX7_operand_36 : decode cX7_operand 36 = .ok (.getfield 19, 3) := by decide +kernel
theorem dX7_operand_39 : decode cX7_operand 39 = .ok (.getfield 97, 3) := by decide +kernel
theorem dX7_operand_42 : decode cX7_operand 42 = .ok (.getfield 172, 3) := by decide +kernel
theorem dX7_operand_45 : decode cX7_operand 45 = .ok (.iload_n 1, 1) := by decide +kernel
theorem dX7_operand_46 : decode cX7_operand 46 = .ok (.iconst 4, 1) := by decide +kernel
theorem dX7_operand_47 : decode cX7_operand 47 = .ok (.imul, 1) := by decide +kernel
theorem dX7_operand_48 : decode cX7_operand 48 = .ok (.iload_n 2, 1) := by decide +kernel
theorem dX7_operand_49 : decode cX7_operand 49 = .ok (.iadd, 1) := by decide +kernel
theorem dX7_operand_50 : decode cX7_operand 50 = .ok (.iaload, 1) := by decide +kernel
theorem dX7_operand_51 : decode cX7_operand 51 = .ok (.ireturn, 1) := by decide +kernel
set_option maxRecDepth 20000 in
theorem ggX7_value_X7_checkTest : GoodIn wsX7_value wsX7_checkTest := goodIn_ca (goodIn_r _ [7, 8, 9, 10, 11, 12, 99, 100, 101, 102, 103, 104, 105, 106, 107, 108, 109, 110, 116, 117, 118, 119, 120, 121, 122] (by decide +kernel) (by decide +kernel)) (goodIn_sub (fun _ h => List.mem_cons_of_mem _ (List.mem_append_right _ h)) (by decide +kernel))
set_option maxRecDepth 20000 in
theorem gX7_value_X7_checkTest : GoodIn wsX7_value (wsV RX7 174 RX7 yX7_checkTest wsX7_checkTest) := goodIn_app (goodIn_of _ (by decide +kernel)) ggX7_value_X7_checkTest
set_option maxRecDepth 20000 in
theorem ggX7_value_X7_checkWire : GoodIn wsX7_value wsX7_checkWire := goodIn_ca (goodIn_r _ [16, 8, 9, 10, 17, 18, 99, 100, 101, 102, 103, 104, 105, 106, 107, 108, 109, 110, 116, 117, 123, 124, 125, 126, 127, 128, 129, 130, 131, 132, 133, 134, 135, 136] (by decide +kernel) (by decide +kernel)) (goodIn_sub (fun _ h => List.mem_cons_of_mem _ (List.mem_append_right _ h)) (by decide +kernel))
set_option maxRecDepth 20000 in
theorem gX7_value_X7_checkWire : GoodIn wsX7_value (wsV RX7 149 RX7 yX7_checkWire wsX7_checkWire) := goodIn_app (goodIn_of _ (by decide +kernel)) ggX7_value_X7_checkWire
set_option maxRecDepth 20000 in
theorem ggX7_value_X7_refreshTestRows : GoodIn wsX7_value wsX7_refreshTestRows := goodIn_r _ [22, 23, 1, 2, 10, 17, 24, 11, 25, 26, 27, 28, 29, 30, 31, 32, 33, 34, 35, 36, 37, 38, 39, 40, 41, 42, 43, 44, 45, 46, 47, 48, 49, 50, 51, 52, 53, 54, 55, 56, 57, 58, 59, 60, 61, 62, 63, 64, 65, 66, 67, 68, 69, 70, 71, 72, 73, 74, 75, 76, 77, 78, 79, 80, 81, 82, 83, 84, 85, 86, 87, 88, 89, 90, 91, 92, 99, 100, 101, 102, 103, 104, 105, 106, 107, 108, 109, 110, 111, 112, 113, 114, 115, 116, 117, 123, 124, 125, 126, 127, 128, 129, 130, 131, 132, 133, 134, 135, 136, 137, 138, 118, 119, 120, 121, 122] (by decide +kernel) (by decide +kernel)
set_option maxRecDepth 20000 in
theorem gX7_value_X7_refreshTestRows : GoodIn wsX7_value (wsV RX7 177 RX7 yX7_refreshTestRows wsX7_refreshTestRows) := goodIn_app (goodIn_of _ (by decide +kernel)) ggX7_value_X7_refreshTestRows
set_option maxRecDepth 20000 in
theorem ggX7_value_X2_lane : GoodIn wsX7_value wsX2_lane := goodIn_r _ [96, 30, 31, 97, 6, 98, 137, 138] (by decide +kernel) (by decide +kernel)
set_option maxRecDepth 20000 in
theorem gX7_value_X2_lane : GoodIn wsX7_value (wsV RX7 184 RX2 yX2_lane wsX2_lane) := goodIn_app (goodIn_of _ (by decide +kernel)) ggX7_value_X2_lane
theorem dX7_value_0 : decode cX7_value 0 = .ok (.aload_n 0, 1) := by decide +kernel
theorem dX7_value_1 : decode cX7_value 1 = .ok (.iload_n 1, 1) := by decide +kernel
theorem dX7_value_2 : decode cX7_value 2 = .ok (.invokevirtual 174, 3) := by decide +kernel
theorem dX7_value_5 : decode cX7_value 5 = .ok (.aload_n 0, 1) := by decide +kernel
theorem dX7_value_6 : decode cX7_value 6 = .ok (.iload_n 2, 1) := by decide +kernel
theorem dX7_value_7 : decode cX7_value 7 = .ok (.invokevirtual 149, 3) := by decide +kernel
theorem dX7_value_10 : decode cX7_value 10 = .ok (.aload_n 0, 1) := by decide +kernel
theorem dX7_value_11 : decode cX7_value 11 = .ok (.invokevirtual 177, 3) := by decide +kernel
theorem dX7_value_14 : decode cX7_value 14 = .ok (.aload_n 0, 1) := by decide +kernel
theorem dX7_value_15 : decode cX7_value 15 = .ok (.getfield 39, 3) := by decide +kernel
theorem dX7_value_18 : decode cX7_value 18 = .ok (.getfield 180, 3) := by decide +kernel
theorem dX7_value_21 : decode cX7_value 21 = .ok (.iload_n 2, 1) := by decide +kernel
theorem dX7_value_22 : decode cX7_value 22 = .ok (.iload_n 1, 1) := by decide +kernel
theorem dX7_value_23 : decode cX7_value 23 = .ok (.invokevirtual 184, 3) := by decide +kernel
theorem dX7_value_26 : decode cX7_value 26 = .ok (.ireturn, 1) := by decide +kernel
set_option maxRecDepth 20000 in
theorem ggX7_faulty_X7_checkTest : GoodIn wsX7_faulty wsX7_checkTest := goodIn_ca (goodIn_r _ [10, 11, 12, 3, 13, 14, 106, 107, 108, 109, 110, 111, 112, 113, 114, 115, 116, 117, 123, 124, 125, 126, 127, 128, 129] (by decide +kernel) (by decide +kernel)) (goodIn_sub (fun _ h => List.mem_cons_of_mem _ (List.mem_append_right _ h)) (by decide +kernel))
set_option maxRecDepth 20000 in
theorem gX7_faulty_X7_checkTest : GoodIn wsX7_faulty (wsV RX7 174 RX7 yX7_checkTest wsX7_checkTest) := goodIn_app (goodIn_of _ (by decide +kernel)) ggX7_faulty_X7_checkTest
set_option maxRecDepth 20000 in
theorem ggX7_faulty_X7_checkFault : GoodIn wsX7_faulty wsX7_checkFault := goodIn_ca (goodIn_r _ [18, 11, 12, 3, 4, 19, 20, 21, 22, 23, 24, 25, 106, 107, 108, 109, 110, 111, 112, 113, 114, 115, 116, 117, 123, 124, 130, 131, 132, 133, 134, 135, 136, 137, 138, 139, 140, 141, 142, 143] (by decide +kernel) (by decide +kernel)) (goodIn_sub (fun _ h => List.mem_cons_of_mem _ (List.mem_append_right _ h)) (by decide +kernel))
set_option maxRecDepth 20000 in
theorem gX7_faulty_X7_checkFault : GoodIn wsX7_faulty (wsV RX7 190 RX7 yX7_checkFault wsX7_checkFault) := goodIn_app (goodIn_of _ (by decide +kernel)) ggX7_faulty_X7_checkFault
set_option maxRecDepth 20000 in
theorem ggX7_faulty_X7_checkWire : GoodIn wsX7_faulty wsX7_checkWire := goodIn_ca (goodIn_r _ [29, 11, 12, 3, 4, 30, 106, 107, 108, 109, 110, 111, 112, 113, 114, 115, 116, 117, 123, 124, 130, 131, 132, 133, 134, 135, 136, 137, 138, 139, 140, 141, 142, 143] (by decide +kernel) (by decide +kernel)) (goodIn_sub (fun _ h => List.mem_cons_of_mem _ (List.mem_append_right _ h)) (by decide +kernel))
set_option maxRecDepth 20000 in
theorem gX7_faulty_X7_checkWire : GoodIn wsX7_faulty (wsV RX7 149 RX7 yX7_checkWire wsX7_checkWire) := goodIn_app (goodIn_of _ (by decide +kernel)) ggX7_faulty_X7_checkWire
set_option maxRecDepth 20000 in
theorem ggX7_faulty_X7_refreshTestRows : GoodIn wsX7_faulty wsX7_refreshTestRows := goodIn_r _ [34, 35, 1, 5, 3, 4, 36, 13, 37, 38, 39, 40, 41, 42, 43, 44, 45, 46, 47, 48, 22, 49, 50, 51, 52, 53, 54, 55, 56, 57, 20, 21, 23, 24, 25, 58, 59, 60, 61, 62, 63, 64, 65, 66, 67, 68, 69, 70, 71, 72, 73, 74, 75, 76, 77, 78, 79, 80, 81, 82, 83, 84, 85, 86, 87, 88, 89, 90, 91, 92, 93, 94, 95, 96, 97, 98, 106, 107, 108, 109, 110, 111, 112, 113, 114, 115, 116, 117, 118, 119, 120, 121, 122, 123, 124, 130, 131, 132, 133, 134, 135, 136, 137, 138, 139, 140, 141, 142, 143, 144, 145, 125, 126, 127, 128, 129] (by decide +kernel) (by decide +kernel)
set_option maxRecDepth 20000 in
theorem gX7_faulty_X7_refreshTestRows : GoodIn wsX7_faulty (wsV RX7 177 RX7 yX7_refreshTestRows wsX7_refreshTestRows) := goodIn_app (goodIn_of _ (by decide +kernel)) ggX7_faulty_X7_refreshTestRows
set_option maxRecDepth 20000 in
theorem ggX7_faulty_X2_runFault : GoodIn wsX7_faulty wsX2_runFault := goodIn_r _ [89, 63, 90, 42, 43, 91, 92, 93, 40, 94, 95, 96, 97, 98, 47, 48, 22, 49, 64, 65, 66, 67, 68, 69, 70, 130, 131, 132, 133, 134, 135, 136, 137, 138, 139, 140, 141, 142, 143, 144, 145] (by decide +kernel) (by decide +kernel)
set_option maxRecDepth 20000 in
theorem gX7_faulty_X2_runFault : GoodIn wsX7_faulty (wsV RX7 196 RX2 yX2_runFault wsX2_runFault) := goodIn_app (goodIn_of _ (by decide +kernel)) ggX7_faulty_X2_runFault
set_option maxRecDepth 20000 in
theorem ggX7_faulty_X2_lane : GoodIn wsX7_faulty wsX2_lane := goodIn_r _ [103, 42, 43, 104, 9, 105, 144, 145] (by decide +kernel) (by decide +kernel)
set_option maxRecDepth 20000 in
theorem gX7_faulty_X2_lane : GoodIn wsX7_faulty (wsV RX7 184 RX2 yX2_lane wsX2_lane) := goodIn_app (goodIn_of _ (by decide +kernel)) ggX7_faulty_X2_lane
theorem dX7_faulty_0 : decode cX7_faulty 0 = .ok (.aload_n 0, 1) := by decide +kernel
theorem dX7_faulty_1 : decode cX7_faulty 1 = .ok (.iload_n 1, 1) := by decide +kernel
theorem dX7_faulty_2 : decode cX7_faulty 2 = .ok (.invokevirtual 174, 3) := by decide +kernel
theorem dX7_faulty_5 : decode cX7_faulty 5 = .ok (.aload_n 0, 1) := by decide +kernel
theorem dX7_faulty_6 : decode cX7_faulty 6 = .ok (.iload_n 2, 1) := by decide +kernel
theorem dX7_faulty_7 : decode cX7_faulty 7 = .ok (.invokevirtual 190, 3) := by decide +kernel
theorem dX7_faulty_10 : decode cX7_faulty 10 = .ok (.aload_n 0, 1) := by decide +kernel
theorem dX7_faulty_11 : decode cX7_faulty 11 = .ok (.iload_n 3, 1) := by decide +kernel
theorem dX7_faulty_12 : decode cX7_faulty 12 = .ok (.invokevirtual 149, 3) := by decide +kernel
theorem dX7_faulty_15 : decode cX7_faulty 15 = .ok (.aload_n 0, 1) := by decide +kernel
theorem dX7_faulty_16 : decode cX7_faulty 16 = .ok (.invokevirtual 177, 3) := by decide +kernel
theorem dX7_faulty_19 : decode cX7_faulty 19 = .ok (.aload_n 0, 1) := by decide +kernel
theorem dX7_faulty_20 : decode cX7_faulty 20 = .ok (.getfield 39, 3) := by decide +kernel
theorem dX7_faulty_23 : decode cX7_faulty 23 = .ok (.getfield 193, 3) := by decide +kernel
theorem dX7_faulty_26 : decode cX7_faulty 26 = .ok (.aload_n 0, 1) := by decide +kernel
theorem dX7_faulty_27 : decode cX7_faulty 27 = .ok (.getfield 19, 3) := by decide +kernel
theorem dX7_faulty_30 : decode cX7_faulty 30 = .ok (.getfield 97, 3) := by decide +kernel
theorem dX7_faulty_33 : decode cX7_faulty 33 = .ok (.aload_n 0, 1) := by decide +kernel
theorem dX7_faulty_34 : decode cX7_faulty 34 = .ok (.getfield 39, 3) := by decide +kernel
theorem dX7_faulty_37 : decode cX7_faulty 37 = .ok (.getfield 180, 3) := by decide +kernel
theorem dX7_faulty_40 : decode cX7_faulty 40 = .ok (.iload_n 2, 1) := by decide +kernel
theorem dX7_faulty_41 : decode cX7_faulty 41 = .ok (.invokevirtual 196, 3) := by decide +kernel
theorem dX7_faulty_44 : decode cX7_faulty 44 = .ok (.aload_n 0, 1) := by decide +kernel
theorem dX7_faulty_45 : decode cX7_faulty 45 = .ok (.getfield 39, 3) := by decide +kernel
theorem dX7_faulty_48 : decode cX7_faulty 48 = .ok (.getfield 193, 3) := by decide +kernel
theorem dX7_faulty_51 : decode cX7_faulty 51 = .ok (.iload_n 3, 1) := by decide +kernel
theorem dX7_faulty_52 : decode cX7_faulty 52 = .ok (.iload_n 1, 1) := by decide +kernel
theorem dX7_faulty_53 : decode cX7_faulty 53 = .ok (.invokevirtual 184, 3) := by decide +kernel
theorem dX7_faulty_56 : decode cX7_faulty 56 = .ok (.ireturn, 1) := by decide +kernel
set_option maxRecDepth 20000 in
theorem ggX7_finds_X7_checkTest : GoodIn wsX7_finds wsX7_checkTest := goodIn_ca (goodIn_r _ [8, 9, 10, 2, 11, 12, 105, 106, 107, 108, 109, 110, 111, 112, 113, 114, 115, 116, 117, 118, 119, 120, 121, 122, 123] (by decide +kernel) (by decide +kernel)) (goodIn_sub (fun _ h => List.mem_cons_of_mem _ (List.mem_append_right _ h)) (by decide +kernel))
set_option maxRecDepth 20000 in
theorem gX7_finds_X7_checkTest : GoodIn wsX7_finds (wsV RX7 174 RX7 yX7_checkTest wsX7_checkTest) := goodIn_app (goodIn_of _ (by decide +kernel)) ggX7_finds_X7_checkTest
set_option maxRecDepth 20000 in
theorem ggX7_finds_X7_checkFault : GoodIn wsX7_finds wsX7_checkFault := goodIn_ca (goodIn_r _ [16, 9, 10, 2, 3, 17, 18, 19, 20, 21, 22, 23, 105, 106, 107, 108, 109, 110, 111, 112, 113, 114, 115, 116, 117, 118, 124, 125, 126, 127, 128, 129, 130, 131, 132, 133, 134, 135, 136, 137] (by decide +kernel) (by decide +kernel)) (goodIn_sub (fun _ h => List.mem_cons_of_mem _ (List.mem_append_right _ h)) (by decide +kernel))
set_option maxRecDepth 20000 in
theorem gX7_finds_X7_checkFault : GoodIn wsX7_finds (wsV RX7 190 RX7 yX7_checkFault wsX7_checkFault) := goodIn_app (goodIn_of _ (by decide +kernel)) ggX7_finds_X7_checkFault
set_option maxRecDepth 20000 in
theorem ggX7_finds_X7_refreshTestRows : GoodIn wsX7_finds wsX7_refreshTestRows := goodIn_r _ [27, 28, 1, 29, 2, 3, 30, 11, 31, 32, 33, 34, 35, 36, 37, 38, 39, 40, 41, 42, 20, 43, 44, 45, 46, 47, 48, 49, 50, 51, 18, 19, 21, 22, 23, 52, 53, 54, 55, 56, 57, 58, 59, 60, 61, 62, 63, 64, 65, 66, 67, 68, 69, 70, 71, 72, 73, 74, 75, 76, 77, 78, 79, 80, 81, 82, 83, 84, 85, 86, 87, 88, 89, 90, 91, 92, 105, 106, 107, 108, 109, 110, 111, 112, 113, 114, 115, 116, 138, 139, 140, 141, 142, 117, 118, 124, 125, 126, 127, 128, 129, 130, 131, 132, 133, 134, 135, 136, 137, 143, 144, 119, 120, 121, 122, 123] (by decide +kernel) (by decide +kernel)
set_option maxRecDepth 20000 in
theorem gX7_finds_X7_refreshTestRows : GoodIn wsX7_finds (wsV RX7 177 RX7 yX7_refreshTestRows wsX7_refreshTestRows) := goodIn_app (goodIn_of _ (by decide +kernel)) ggX7_finds_X7_refreshTestRows
set_option maxRecDepth 20000 in
theorem ggX7_finds_X3_apart : GoodIn wsX7_finds wsX3_apart := goodIn_r _ [96, 69, 70, 73, 75, 76, 77, 47, 78, 79, 124, 125, 126, 127, 128, 129, 130, 131, 132, 133, 134, 135, 136, 137, 138, 139, 140, 141, 142] (by decide +kernel) (by decide +kernel)
set_option maxRecDepth 20000 in
theorem gX7_finds_X3_apart : GoodIn wsX7_finds (wsV RX7 200 RX3 yX3_apart wsX3_apart) := goodIn_app (goodIn_of _ (by decide +kernel)) ggX7_finds_X3_apart
set_option maxRecDepth 20000 in
theorem ggX7_finds_X7_hasLane : GoodIn wsX7_finds wsX7_hasLane := goodIn_r _ [99] (by decide +kernel) (by decide +kernel)
set_option maxRecDepth 20000 in
theorem gX7_finds_X7_hasLane : GoodIn wsX7_finds (va_wsS RX7 204 yX7_hasLane wsX7_hasLane) := goodIn_app (goodIn_of _ (by decide +kernel)) ggX7_finds_X7_hasLane
set_option maxRecDepth 20000 in
theorem ggX7_finds_X3_blurred : GoodIn wsX7_finds wsX3_blurred := goodIn_r _ [103, 69, 70, 73, 104, 75, 76, 77, 47, 78, 79, 124, 125, 126, 127, 128, 129, 130, 131, 132, 133, 134, 135, 136, 137, 138, 139, 140, 141, 142] (by decide +kernel) (by decide +kernel)
set_option maxRecDepth 20000 in
theorem gX7_finds_X3_blurred : GoodIn wsX7_finds (wsV RX7 208 RX3 yX3_blurred wsX3_blurred) := goodIn_app (goodIn_of _ (by decide +kernel)) ggX7_finds_X3_blurred
theorem dX7_finds_0 : decode cX7_finds 0 = .ok (.aload_n 0, 1) := by decide +kernel
theorem dX7_finds_1 : decode cX7_finds 1 = .ok (.iload_n 1, 1) := by decide +kernel
theorem dX7_finds_2 : decode cX7_finds 2 = .ok (.invokevirtual 174, 3) := by decide +kernel
theorem dX7_finds_5 : decode cX7_finds 5 = .ok (.aload_n 0, 1) := by decide +kernel
theorem dX7_finds_6 : decode cX7_finds 6 = .ok (.iload_n 2, 1) := by decide +kernel
theorem dX7_finds_7 : decode cX7_finds 7 = .ok (.invokevirtual 190, 3) := by decide +kernel
theorem dX7_finds_10 : decode cX7_finds 10 = .ok (.aload_n 0, 1) := by decide +kernel
theorem dX7_finds_11 : decode cX7_finds 11 = .ok (.invokevirtual 177, 3) := by decide +kernel
theorem dX7_finds_14 : decode cX7_finds 14 = .ok (.aload_n 0, 1) := by decide +kernel
theorem dX7_finds_15 : decode cX7_finds 15 = .ok (.getfield 39, 3) := by decide +kernel
theorem dX7_finds_18 : decode cX7_finds 18 = .ok (.aload_n 0, 1) := by decide +kernel
theorem dX7_finds_19 : decode cX7_finds 19 = .ok (.getfield 19, 3) := by decide +kernel
theorem dX7_finds_22 : decode cX7_finds 22 = .ok (.getfield 97, 3) := by decide +kernel
theorem dX7_finds_25 : decode cX7_finds 25 = .ok (.iconst (-1), 1) := by decide +kernel
theorem dX7_finds_26 : decode cX7_finds 26 = .ok (.iload_n 2, 1) := by decide +kernel
theorem dX7_finds_27 : decode cX7_finds 27 = .ok (.iconst 0, 1) := by decide +kernel
theorem dX7_finds_28 : decode cX7_finds 28 = .ok (.invokevirtual 200, 3) := by decide +kernel
theorem dX7_finds_31 : decode cX7_finds 31 = .ok (.iload_n 1, 1) := by decide +kernel
theorem dX7_finds_32 : decode cX7_finds 32 = .ok (.invokestatic 204, 3) := by decide +kernel
theorem dX7_finds_35 : decode cX7_finds 35 = .ok (.ifCond .eq 5, 3) := by decide +kernel
theorem dX7_finds_38 : decode cX7_finds 38 = .ok (.iconst 2, 1) := by decide +kernel
theorem dX7_finds_39 : decode cX7_finds 39 = .ok (.ireturn, 1) := by decide +kernel
theorem dX7_finds_40 : decode cX7_finds 40 = .ok (.aload_n 0, 1) := by decide +kernel
theorem dX7_finds_41 : decode cX7_finds 41 = .ok (.getfield 39, 3) := by decide +kernel
theorem dX7_finds_44 : decode cX7_finds 44 = .ok (.aload_n 0, 1) := by decide +kernel
theorem dX7_finds_45 : decode cX7_finds 45 = .ok (.getfield 19, 3) := by decide +kernel
theorem dX7_finds_48 : decode cX7_finds 48 = .ok (.getfield 97, 3) := by decide +kernel
theorem dX7_finds_51 : decode cX7_finds 51 = .ok (.iload_n 2, 1) := by decide +kernel
theorem dX7_finds_52 : decode cX7_finds 52 = .ok (.iconst 0, 1) := by decide +kernel
theorem dX7_finds_53 : decode cX7_finds 53 = .ok (.invokevirtual 208, 3) := by decide +kernel
theorem dX7_finds_56 : decode cX7_finds 56 = .ok (.iload_n 1, 1) := by decide +kernel
theorem dX7_finds_57 : decode cX7_finds 57 = .ok (.invokestatic 204, 3) := by decide +kernel
theorem dX7_finds_60 : decode cX7_finds 60 = .ok (.ifCond .eq 7, 3) := by decide +kernel
theorem dX7_finds_63 : decode cX7_finds 63 = .ok (.iconst 1, 1) := by decide +kernel
theorem dX7_finds_64 : decode cX7_finds 64 = .ok (.goto 4, 3) := by decide +kernel
theorem dX7_finds_67 : decode cX7_finds 67 = .ok (.iconst 0, 1) := by decide +kernel
theorem dX7_finds_68 : decode cX7_finds 68 = .ok (.ireturn, 1) := by decide +kernel
set_option maxRecDepth 20000 in
theorem ggX7_tellsApart_X7_checkTest : GoodIn wsX7_tellsApart wsX7_checkTest := goodIn_ca (goodIn_r _ [8, 9, 10, 2, 11, 12, 100, 101, 102, 103, 104, 105, 106, 107, 108, 109, 110, 111, 112, 113, 114, 115, 116, 117, 118] (by decide +kernel) (by decide +kernel)) (goodIn_sub (fun _ h => List.mem_cons_of_mem _ (List.mem_append_right _ h)) (by decide +kernel))
set_option maxRecDepth 20000 in
theorem gX7_tellsApart_X7_checkTest : GoodIn wsX7_tellsApart (wsV RX7 174 RX7 yX7_checkTest wsX7_checkTest) := goodIn_app (goodIn_of _ (by decide +kernel)) ggX7_tellsApart_X7_checkTest
set_option maxRecDepth 20000 in
theorem ggX7_tellsApart_X7_checkFault : GoodIn wsX7_tellsApart wsX7_checkFault := goodIn_ca (goodIn_r _ [16, 9, 10, 2, 3, 17, 18, 19, 20, 21, 22, 23, 100, 101, 102, 103, 104, 105, 106, 107, 108, 109, 110, 111, 112, 113, 119, 120, 121, 122, 123, 124, 125, 126, 127, 128, 129, 130, 131, 132] (by decide +kernel) (by decide +kernel)) (goodIn_sub (fun _ h => List.mem_cons_of_mem _ (List.mem_append_right _ h)) (by decide +kernel))
set_option maxRecDepth 20000 in
theorem gX7_tellsApart_X7_checkFault : GoodIn wsX7_tellsApart (wsV RX7 190 RX7 yX7_checkFault wsX7_checkFault) := goodIn_app (goodIn_of _ (by decide +kernel)) ggX7_tellsApart_X7_checkFault
set_option maxRecDepth 20000 in
theorem ggX7_tellsApart_X7_refreshTestRows : GoodIn wsX7_tellsApart wsX7_refreshTestRows := goodIn_r _ [27, 28, 1, 29, 2, 3, 30, 11, 31, 32, 33, 34, 35, 36, 37, 38, 39, 40, 41, 42, 20, 43, 44, 45, 46, 47, 48, 49, 50, 51, 18, 19, 21, 22, 23, 52, 53, 54, 55, 56, 57, 58, 59, 60, 61, 62, 63, 64, 65, 66, 67, 68, 69, 70, 71, 72, 73, 74, 75, 76, 77, 78, 79, 80, 81, 82, 83, 84, 85, 86, 87, 88, 89, 90, 91, 92, 100, 101, 102, 103, 104, 105, 106, 107, 108, 109, 110, 111, 133, 134, 135, 136, 137, 112, 113, 119, 120, 121, 122, 123, 124, 125, 126, 127, 128, 129, 130, 131, 132, 138, 139, 114, 115, 116, 117, 118] (by decide +kernel) (by decide +kernel)
set_option maxRecDepth 20000 in
theorem gX7_tellsApart_X7_refreshTestRows : GoodIn wsX7_tellsApart (wsV RX7 177 RX7 yX7_refreshTestRows wsX7_refreshTestRows) := goodIn_app (goodIn_of _ (by decide +kernel)) ggX7_tellsApart_X7_refreshTestRows
set_option maxRecDepth 20000 in
theorem ggX7_tellsApart_X3_apart : GoodIn wsX7_tellsApart wsX3_apart := goodIn_r _ [96, 69, 70, 73, 75, 76, 77, 47, 78, 79, 119, 120, 121, 122, 123, 124, 125, 126, 127, 128, 129, 130, 131, 132, 133, 134, 135, 136, 137] (by decide +kernel) (by decide +kernel)
set_option maxRecDepth 20000 in
theorem gX7_tellsApart_X3_apart : GoodIn wsX7_tellsApart (wsV RX7 200 RX3 yX3_apart wsX3_apart) := goodIn_app (goodIn_of _ (by decide +kernel)) ggX7_tellsApart_X3_apart
set_option maxRecDepth 20000 in
theorem ggX7_tellsApart_X7_hasLane : GoodIn wsX7_tellsApart wsX7_hasLane := goodIn_r _ [99] (by decide +kernel) (by decide +kernel)
set_option maxRecDepth 20000 in
theorem gX7_tellsApart_X7_hasLane : GoodIn wsX7_tellsApart (va_wsS RX7 204 yX7_hasLane wsX7_hasLane) := goodIn_app (goodIn_of _ (by decide +kernel)) ggX7_tellsApart_X7_hasLane
theorem dX7_tellsApart_0 : decode cX7_tellsApart 0 = .ok (.aload_n 0, 1) := by decide +kernel
theorem dX7_tellsApart_1 : decode cX7_tellsApart 1 = .ok (.iload_n 1, 1) := by decide +kernel
theorem dX7_tellsApart_2 : decode cX7_tellsApart 2 = .ok (.invokevirtual 174, 3) := by decide +kernel
theorem dX7_tellsApart_5 : decode cX7_tellsApart 5 = .ok (.aload_n 0, 1) := by decide +kernel
theorem dX7_tellsApart_6 : decode cX7_tellsApart 6 = .ok (.iload_n 2, 1) := by decide +kernel
theorem dX7_tellsApart_7 : decode cX7_tellsApart 7 = .ok (.invokevirtual 190, 3) := by decide +kernel
theorem dX7_tellsApart_10 : decode cX7_tellsApart 10 = .ok (.aload_n 0, 1) := by decide +kernel
theorem dX7_tellsApart_11 : decode cX7_tellsApart 11 = .ok (.iload_n 3, 1) := by decide +kernel
theorem dX7_tellsApart_12 : decode cX7_tellsApart 12 = .ok (.invokevirtual 190, 3) := by decide +kernel
theorem dX7_tellsApart_15 : decode cX7_tellsApart 15 = .ok (.aload_n 0, 1) := by decide +kernel
theorem dX7_tellsApart_16 : decode cX7_tellsApart 16 = .ok (.invokevirtual 177, 3) := by decide +kernel
theorem dX7_tellsApart_19 : decode cX7_tellsApart 19 = .ok (.aload_n 0, 1) := by decide +kernel
theorem dX7_tellsApart_20 : decode cX7_tellsApart 20 = .ok (.getfield 39, 3) := by decide +kernel
theorem dX7_tellsApart_23 : decode cX7_tellsApart 23 = .ok (.aload_n 0, 1) := by decide +kernel
theorem dX7_tellsApart_24 : decode cX7_tellsApart 24 = .ok (.getfield 19, 3) := by decide +kernel
theorem dX7_tellsApart_27 : decode cX7_tellsApart 27 = .ok (.getfield 97, 3) := by decide +kernel
theorem dX7_tellsApart_30 : decode cX7_tellsApart 30 = .ok (.iload_n 2, 1) := by decide +kernel
theorem dX7_tellsApart_31 : decode cX7_tellsApart 31 = .ok (.iload_n 3, 1) := by decide +kernel
theorem dX7_tellsApart_32 : decode cX7_tellsApart 32 = .ok (.iconst 0, 1) := by decide +kernel
theorem dX7_tellsApart_33 : decode cX7_tellsApart 33 = .ok (.invokevirtual 200, 3) := by decide +kernel
theorem dX7_tellsApart_36 : decode cX7_tellsApart 36 = .ok (.iload_n 1, 1) := by decide +kernel
theorem dX7_tellsApart_37 : decode cX7_tellsApart 37 = .ok (.invokestatic 204, 3) := by decide +kernel
theorem dX7_tellsApart_40 : decode cX7_tellsApart 40 = .ok (.ireturn, 1) := by decide +kernel
set_option maxRecDepth 20000 in
theorem ggX7_worth_X7_checkTest : GoodIn wsX7_worth wsX7_checkTest := goodIn_ca (goodIn_r _ [6, 7, 8, 9, 10, 11, 113, 114, 115, 116, 117, 118, 119, 120, 121, 122, 123, 124, 125, 126, 127, 128, 129, 130, 131] (by decide +kernel) (by decide +kernel)) (goodIn_sub (fun _ h => List.mem_cons_of_mem _ (List.mem_append_right _ h)) (by decide +kernel))
set_option maxRecDepth 20000 in
theorem gX7_worth_X7_checkTest : GoodIn wsX7_worth (wsV RX7 174 RX7 yX7_checkTest wsX7_checkTest) := goodIn_app (goodIn_of _ (by decide +kernel)) ggX7_worth_X7_checkTest
set_option maxRecDepth 20000 in
theorem ggX7_worth_X7_listFoundByTests : GoodIn wsX7_worth wsX7_listFoundByTests := goodIn_r _ [15, 16, 9, 10, 11, 1, 17, 18, 19, 5, 20, 21, 22, 23, 24, 25, 26, 27, 28, 29, 30, 31, 32, 33, 34, 35, 36, 37, 38, 39, 40, 41, 42, 43, 44, 45, 46, 47, 48, 49, 50, 51, 52, 53, 54, 55, 56, 57, 58, 59, 60, 61, 62, 63, 64, 65, 66, 67, 68, 69, 70, 71, 72, 73, 74, 75, 76, 77, 78, 79, 80, 81, 82, 83, 84, 85, 86, 87, 88, 89, 90, 91, 92, 93, 94, 95, 96, 97, 98, 99, 100, 101, 102, 103, 104, 105, 113, 114, 115, 116, 117, 118, 119, 120, 121, 122, 123, 124, 125, 126, 127, 128, 129, 130, 131, 132, 133, 134, 135, 136, 137, 138, 139, 140, 141, 142, 143, 144, 145, 146, 147, 148, 149, 150, 151, 152] (by decide +kernel) (by decide +kernel)
set_option maxRecDepth 20000 in
theorem gX7_worth_X7_listFoundByTests : GoodIn wsX7_worth (wsV RX7 134 RX7 yX7_listFoundByTests wsX7_listFoundByTests) := goodIn_app (goodIn_of _ (by decide +kernel)) ggX7_worth_X7_listFoundByTests
set_option maxRecDepth 20000 in
theorem ggX7_worth_J13_bitCount_95d88 : GoodIn wsX7_worth wsJ13_bitCount_95d88 := goodIn_r _ [109, 110, 111, 112] (by decide +kernel) (by decide +kernel)
set_option maxRecDepth 20000 in
theorem gX7_worth_J13_bitCount_95d88 : GoodIn wsX7_worth (va_wsS RX7 138 yJ13_bitCount_95d88 wsJ13_bitCount_95d88) := goodIn_app (goodIn_of _ (by decide +kernel)) ggX7_worth_J13_bitCount_95d88
theorem dX7_worth_0 : decode cX7_worth 0 = .ok (.aload_n 0, 1) := by decide +kernel
theorem dX7_worth_1 : decode cX7_worth 1 = .ok (.iload_n 1, 1) := by decide +kernel
theorem dX7_worth_2 : decode cX7_worth 2 = .ok (.invokevirtual 174, 3) := by decide +kernel
theorem dX7_worth_5 : decode cX7_worth 5 = .ok (.aload_n 0, 1) := by decide +kernel
theorem dX7_worth_6 : decode cX7_worth 6 = .ok (.invokevirtual 134, 3) := by decide +kernel
theorem dX7_worth_9 : decode cX7_worth 9 = .ok (.pop2, 1) := by decide +kernel
theorem dX7_worth_10 : decode cX7_worth 10 = .ok (.aload_n 0, 1) := by decide +kernel
theorem dX7_worth_11 : decode cX7_worth 11 = .ok (.getfield 56, 3) := by decide +kernel
theorem dX7_worth_14 : decode cX7_worth 14 = .ok (.iload_n 1, 1) := by decide +kernel
theorem dX7_worth_15 : decode cX7_worth 15 = .ok (.laload, 1) := by decide +kernel
theorem dX7_worth_16 : decode cX7_worth 16 = .ok (.invokestatic 138, 3) := by decide +kernel
theorem dX7_worth_19 : decode cX7_worth 19 = .ok (.ireturn, 1) := by decide +kernel
set_option maxRecDepth 20000 in
theorem ggX7_testFor_X7_checkFault : GoodIn wsX7_testFor wsX7_checkFault := goodIn_ca (goodIn_r _ [8, 9, 10, 2, 3, 11, 12, 13, 14, 15, 16, 17, 109, 110, 111, 112, 113, 114, 115, 116, 117, 118, 119, 120, 121, 122, 123, 124, 125, 126, 127, 128, 129, 130, 131, 132, 133, 134, 135, 136] (by decide +kernel) (by decide +kernel)) (goodIn_sub (fun _ h => List.mem_cons_of_mem _ (List.mem_append_right _ h)) (by decide +kernel))
set_option maxRecDepth 20000 in
theorem gX7_testFor_X7_checkFault : GoodIn wsX7_testFor (wsV RX7 190 RX7 yX7_checkFault wsX7_checkFault) := goodIn_app (goodIn_of _ (by decide +kernel)) ggX7_testFor_X7_checkFault
set_option maxRecDepth 20000 in
theorem ggX7_testFor_X7_refreshFullRows : GoodIn wsX7_testFor wsX7_refreshFullRows := goodIn_r _ [21, 22, 2, 3, 1, 23, 24, 25, 26, 27, 14, 28, 29, 30, 31, 32, 33, 34, 35, 36, 37, 38, 39, 40, 41, 42, 43, 44, 45, 46, 47, 48, 12, 13, 15, 16, 17, 49, 50, 51, 52, 53, 54, 55, 56, 57, 58, 59, 60, 61, 62, 63, 64, 65, 66, 67, 68, 69, 70, 71, 72, 73, 74, 75, 76, 77, 78, 79, 80, 81, 82, 83, 84, 85, 86, 87, 88, 109, 110, 111, 112, 113, 114, 115, 116, 117, 118, 119, 120, 121, 122, 137, 138, 139, 140, 141, 123, 124, 125, 126, 127, 128, 129, 130, 131, 132, 133, 134, 135, 136, 142, 143] (by decide +kernel) (by decide +kernel)
set_option maxRecDepth 20000 in
theorem gX7_testFor_X7_refreshFullRows : GoodIn wsX7_testFor (wsV RX7 212 RX7 yX7_refreshFullRows wsX7_refreshFullRows) := goodIn_app (goodIn_of _ (by decide +kernel)) ggX7_testFor_X7_refreshFullRows
set_option maxRecDepth 20000 in
theorem ggX7_testFor_X3_firstApart : GoodIn wsX7_testFor wsX3_firstApart := goodIn_r _ [92, 76, 93, 94, 95, 96, 97, 26, 27, 14, 28, 29, 98, 99, 100, 44, 101, 66, 67, 70, 72, 73, 74, 75, 102, 103, 104, 105, 106, 107, 108, 137, 138, 139, 140, 141, 123, 124, 125, 126, 127, 128, 129, 130, 131, 132, 133, 134, 135, 136] (by decide +kernel) (by decide +kernel)
set_option maxRecDepth 20000 in
theorem gX7_testFor_X3_firstApart : GoodIn wsX7_testFor (wsV RX7 215 RX3 yX3_firstApart wsX3_firstApart) := goodIn_app (goodIn_of _ (by decide +kernel)) ggX7_testFor_X3_firstApart
theorem dX7_testFor_0 : decode cX7_testFor 0 = .ok (.aload_n 0, 1) := by decide +kernel
theorem dX7_testFor_1 : decode cX7_testFor 1 = .ok (.iload_n 1, 1) := by decide +kernel
theorem dX7_testFor_2 : decode cX7_testFor 2 = .ok (.invokevirtual 190, 3) := by decide +kernel
theorem dX7_testFor_5 : decode cX7_testFor 5 = .ok (.aload_n 0, 1) := by decide +kernel
theorem dX7_testFor_6 : decode cX7_testFor 6 = .ok (.invokevirtual 212, 3) := by decide +kernel
theorem dX7_testFor_9 : decode cX7_testFor 9 = .ok (.aload_n 0, 1) := by decide +kernel
theorem dX7_testFor_10 : decode cX7_testFor 10 = .ok (.getfield 35, 3) := by decide +kernel
theorem dX7_testFor_13 : decode cX7_testFor 13 = .ok (.aload_n 0, 1) := by decide +kernel
theorem dX7_testFor_14 : decode cX7_testFor 14 = .ok (.getfield 19, 3) := by decide +kernel
theorem dX7_testFor_17 : decode cX7_testFor 17 = .ok (.getfield 97, 3) := by decide +kernel
theorem dX7_testFor_20 : decode cX7_testFor 20 = .ok (.iconst (-1), 1) := by decide +kernel
theorem dX7_testFor_21 : decode cX7_testFor 21 = .ok (.iload_n 1, 1) := by decide +kernel
theorem dX7_testFor_22 : decode cX7_testFor 22 = .ok (.invokevirtual 215, 3) := by decide +kernel
theorem dX7_testFor_25 : decode cX7_testFor 25 = .ok (.ireturn, 1) := by decide +kernel
set_option maxRecDepth 20000 in
theorem ggX7_testBetween_X7_checkFault : GoodIn wsX7_testBetween wsX7_checkFault := goodIn_ca (goodIn_r _ [8, 9, 10, 2, 3, 11, 12, 13, 14, 15, 16, 17, 109, 110, 111, 112, 113, 114, 115, 116, 117, 118, 119, 120, 121, 122, 123, 124, 125, 126, 127, 128, 129, 130, 131, 132, 133, 134, 135, 136] (by decide +kernel) (by decide +kernel)) (goodIn_sub (fun _ h => List.mem_cons_of_mem _ (List.mem_append_right _ h)) (by decide +kernel))
set_option maxRecDepth 20000 in
theorem gX7_testBetween_X7_checkFault : GoodIn wsX7_testBetween (wsV RX7 190 RX7 yX7_checkFault wsX7_checkFault) := goodIn_app (goodIn_of _ (by decide +kernel)) ggX7_testBetween_X7_checkFault
set_option maxRecDepth 20000 in
theorem ggX7_testBetween_X7_refreshFullRows : GoodIn wsX7_testBetween wsX7_refreshFullRows := goodIn_r _ [21, 22, 2, 3, 1, 23, 24, 25, 26, 27, 14, 28, 29, 30, 31, 32, 33, 34, 35, 36, 37, 38, 39, 40, 41, 42, 43, 44, 45, 46, 47, 48, 12, 13, 15, 16, 17, 49, 50, 51, 52, 53, 54, 55, 56, 57, 58, 59, 60, 61, 62, 63, 64, 65, 66, 67, 68, 69, 70, 71, 72, 73, 74, 75, 76, 77, 78, 79, 80, 81, 82, 83, 84, 85, 86, 87, 88, 109, 110, 111, 112, 113, 114, 115, 116, 117, 118, 119, 120, 121, 122, 137, 138, 139, 140, 141, 123, 124, 125, 126, 127, 128, 129, 130, 131, 132, 133, 134, 135, 136, 142, 143] (by decide +kernel) (by decide +kernel)
set_option maxRecDepth 20000 in
theorem gX7_testBetween_X7_refreshFullRows : GoodIn wsX7_testBetween (wsV RX7 212 RX7 yX7_refreshFullRows wsX7_refreshFullRows) := goodIn_app (goodIn_of _ (by decide +kernel)) ggX7_testBetween_X7_refreshFullRows
set_option maxRecDepth 20000 in
theorem ggX7_testBetween_X3_firstApart : GoodIn wsX7_testBetween wsX3_firstApart := goodIn_r _ [92, 76, 93, 94, 95, 96, 97, 26, 27, 14, 28, 29, 98, 99, 100, 44, 101, 66, 67, 70, 72, 73, 74, 75, 102, 103, 104, 105, 106, 107, 108, 137, 138, 139, 140, 141, 123, 124, 125, 126, 127, 128, 129, 130, 131, 132, 133, 134, 135, 136] (by decide +kernel) (by decide +kernel)
set_option maxRecDepth 20000 in
theorem gX7_testBetween_X3_firstApart : GoodIn wsX7_testBetween (wsV RX7 215 RX3 yX3_firstApart wsX3_firstApart) := goodIn_app (goodIn_of _ (by decide +kernel)) ggX7_testBetween_X3_firstApart
theorem dX7_testBetween_0 : decode cX7_testBetween 0 = .ok (.aload_n 0, 1) := by decide +kernel
theorem dX7_testBetween_1 : decode cX7_testBetween 1 = .ok (.iload_n 1, 1) := by decide +kernel
theorem dX7_testBetween_2 : decode cX7_testBetween 2 = .ok (.invokevirtual 190, 3) := by decide +kernel
theorem dX7_testBetween_5 : decode cX7_testBetween 5 = .ok (.aload_n 0, 1) := by decide +kernel
theorem dX7_testBetween_6 : decode cX7_testBetween 6 = .ok (.iload_n 2, 1) := by decide +kernel
theorem dX7_testBetween_7 : decode cX7_testBetween 7 = .ok (.invokevirtual 190, 3) := by decide +kernel
theorem dX7_testBetween_10 : decode cX7_testBetween 10 = .ok (.aload_n 0, 1) := by decide +kernel
theorem dX7_testBetween_11 : decode cX7_testBetween 11 = .ok (.invokevirtual 212, 3) := by decide +kernel
theorem dX7_testBetween_14 : decode cX7_testBetween 14 = .ok (.aload_n 0, 1) := by decide +kernel
theorem dX7_testBetween_15 : decode cX7_testBetween 15 = .ok (.getfield 35, 3) := by decide +kernel
theorem dX7_testBetween_18 : decode cX7_testBetween 18 = .ok (.aload_n 0, 1) := by decide +kernel
theorem dX7_testBetween_19 : decode cX7_testBetween 19 = .ok (.getfield 19, 3) := by decide +kernel
theorem dX7_testBetween_22 : decode cX7_testBetween 22 = .ok (.getfield 97, 3) := by decide +kernel
theorem dX7_testBetween_25 : decode cX7_testBetween 25 = .ok (.iload_n 1, 1) := by decide +kernel
theorem dX7_testBetween_26 : decode cX7_testBetween 26 = .ok (.iload_n 2, 1) := by decide +kernel
theorem dX7_testBetween_27 : decode cX7_testBetween 27 = .ok (.invokevirtual 215, 3) := by decide +kernel
theorem dX7_testBetween_30 : decode cX7_testBetween 30 = .ok (.ireturn, 1) := by decide +kernel
set_option maxRecDepth 20000 in
theorem ggX7_hidden_X7_refreshFullRows : GoodIn wsX7_hidden wsX7_refreshFullRows := goodIn_r _ [8, 9, 1, 2, 3, 10, 11, 12, 13, 14, 15, 16, 17, 18, 19, 20, 21, 22, 23, 24, 25, 26, 27, 28, 29, 30, 31, 32, 33, 34, 35, 36, 37, 38, 39, 40, 41, 42, 43, 44, 45, 46, 47, 48, 49, 50, 51, 52, 53, 54, 55, 56, 57, 58, 59, 60, 61, 62, 63, 64, 65, 66, 67, 68, 69, 70, 71, 72, 73, 74, 75, 76, 77, 78, 79, 80, 81, 103, 104, 105, 106, 107, 108, 109, 110, 111, 112, 113, 114, 115, 116, 117, 118, 119, 120, 121, 122, 123, 124, 125, 126, 127, 128, 129, 130, 131, 132, 133, 134, 135, 136, 137] (by decide +kernel) (by decide +kernel)
set_option maxRecDepth 20000 in
theorem gX7_hidden_X7_refreshFullRows : GoodIn wsX7_hidden (wsV RX7 212 RX7 yX7_refreshFullRows wsX7_refreshFullRows) := goodIn_app (goodIn_of _ (by decide +kernel)) ggX7_hidden_X7_refreshFullRows
set_option maxRecDepth 20000 in
theorem ggX7_hidden_X0_faultCount : GoodIn wsX7_hidden wsX0_faultCount := goodIn_r _ [39, 40, 41, 122, 123, 124, 125, 126, 127, 128, 129, 130, 131, 132, 133, 134, 135] (by decide +kernel) (by decide +kernel)
set_option maxRecDepth 20000 in
theorem gX7_hidden_X0_faultCount : GoodIn wsX7_hidden (wsV RX7 115 RX0 yX0_faultCount wsX0_faultCount) := goodIn_app (goodIn_of _ (by decide +kernel)) ggX7_hidden_X0_faultCount
set_option maxRecDepth 20000 in
theorem ggX7_hidden_X3_firstApart : GoodIn wsX7_hidden wsX3_firstApart := goodIn_r _ [86, 69, 87, 88, 89, 90, 91, 13, 14, 15, 16, 17, 92, 93, 94, 32, 95, 59, 60, 63, 65, 66, 67, 68, 96, 97, 98, 99, 100, 101, 102, 117, 118, 119, 120, 121, 122, 123, 124, 125, 126, 127, 128, 129, 130, 131, 132, 133, 134, 135] (by decide +kernel) (by decide +kernel)
set_option maxRecDepth 20000 in
theorem gX7_hidden_X3_firstApart : GoodIn wsX7_hidden (wsV RX7 215 RX3 yX3_firstApart wsX3_firstApart) := goodIn_app (goodIn_of _ (by decide +kernel)) ggX7_hidden_X3_firstApart
theorem dX7_hidden_0 : decode cX7_hidden 0 = .ok (.aload_n 0, 1) := by decide +kernel
theorem dX7_hidden_1 : decode cX7_hidden 1 = .ok (.invokevirtual 212, 3) := by decide +kernel
theorem dX7_hidden_4 : decode cX7_hidden 4 = .ok (.aload_n 0, 1) := by decide +kernel
theorem dX7_hidden_5 : decode cX7_hidden 5 = .ok (.getfield 19, 3) := by decide +kernel
theorem dX7_hidden_8 : decode cX7_hidden 8 = .ok (.getfield 97, 3) := by decide +kernel
theorem dX7_hidden_11 : decode cX7_hidden 11 = .ok (.invokevirtual 115, 3) := by decide +kernel
theorem dX7_hidden_14 : decode cX7_hidden 14 = .ok (.istore_n 1, 1) := by decide +kernel
theorem dX7_hidden_15 : decode cX7_hidden 15 = .ok (.iconst 0, 1) := by decide +kernel
theorem dX7_hidden_16 : decode cX7_hidden 16 = .ok (.istore_n 2, 1) := by decide +kernel
theorem dX7_hidden_17 : decode cX7_hidden 17 = .ok (.iconst 0, 1) := by decide +kernel
theorem dX7_hidden_18 : decode cX7_hidden 18 = .ok (.istore_n 3, 1) := by decide +kernel
theorem dX7_hidden_19 : decode cX7_hidden 19 = .ok (.iload_n 3, 1) := by decide +kernel
theorem dX7_hidden_20 : decode cX7_hidden 20 = .ok (.iload_n 1, 1) := by decide +kernel
theorem dX7_hidden_21 : decode cX7_hidden 21 = .ok (.if_icmp .ge 31, 3) := by decide +kernel
theorem dX7_hidden_24 : decode cX7_hidden 24 = .ok (.aload_n 0, 1) := by decide +kernel
theorem dX7_hidden_25 : decode cX7_hidden 25 = .ok (.getfield 35, 3) := by decide +kernel
theorem dX7_hidden_28 : decode cX7_hidden 28 = .ok (.aload_n 0, 1) := by decide +kernel
theorem dX7_hidden_29 : decode cX7_hidden 29 = .ok (.getfield 19, 3) := by decide +kernel
theorem dX7_hidden_32 : decode cX7_hidden 32 = .ok (.getfield 97, 3) := by decide +kernel
theorem dX7_hidden_35 : decode cX7_hidden 35 = .ok (.iconst (-1), 1) := by decide +kernel
theorem dX7_hidden_36 : decode cX7_hidden 36 = .ok (.iload_n 3, 1) := by decide +kernel
theorem dX7_hidden_37 : decode cX7_hidden 37 = .ok (.invokevirtual 215, 3) := by decide +kernel
theorem dX7_hidden_40 : decode cX7_hidden 40 = .ok (.ifCond .ge 6, 3) := by decide +kernel
theorem dX7_hidden_43 : decode cX7_hidden 43 = .ok (.iinc 2 1, 3) := by decide +kernel
theorem dX7_hidden_46 : decode cX7_hidden 46 = .ok (.iinc 3 1, 3) := by decide +kernel
theorem dX7_hidden_49 : decode cX7_hidden 49 = .ok (.goto (-30), 3) := by decide +kernel
theorem dX7_hidden_52 : decode cX7_hidden 52 = .ok (.iload_n 2, 1) := by decide +kernel
theorem dX7_hidden_53 : decode cX7_hidden 53 = .ok (.ireturn, 1) := by decide +kernel
set_option maxRecDepth 20000 in
theorem ggX7_alike_X7_checkFault : GoodIn wsX7_alike wsX7_checkFault := goodIn_ca (goodIn_r _ [5, 6, 7, 8, 9, 10, 11, 12, 13, 14, 15, 16, 113, 114, 115, 116, 117, 118, 119, 120, 121, 122, 123, 124, 125, 126, 127, 128, 129, 130, 131, 132, 133, 134, 135, 136, 137, 138, 139, 140] (by decide +kernel) (by decide +kernel)) (goodIn_sub (fun _ h => List.mem_cons_of_mem _ (List.mem_append_right _ h)) (by decide +kernel))
set_option maxRecDepth 20000 in
theorem gX7_alike_X7_checkFault : GoodIn wsX7_alike (wsV RX7 190 RX7 yX7_checkFault wsX7_checkFault) := goodIn_app (goodIn_of _ (by decide +kernel)) ggX7_alike_X7_checkFault
set_option maxRecDepth 20000 in
theorem ggX7_alike_X7_refreshFullRows : GoodIn wsX7_alike wsX7_refreshFullRows := goodIn_r _ [20, 21, 8, 9, 22, 23, 24, 25, 26, 27, 13, 28, 29, 30, 31, 32, 33, 34, 35, 36, 37, 38, 39, 40, 41, 42, 43, 44, 45, 46, 47, 48, 11, 12, 14, 15, 16, 49, 50, 51, 52, 53, 54, 55, 56, 57, 58, 59, 60, 61, 62, 63, 64, 65, 66, 67, 68, 69, 70, 71, 72, 73, 74, 75, 76, 77, 78, 79, 80, 81, 82, 83, 84, 85, 86, 87, 88, 113, 114, 115, 116, 117, 118, 119, 120, 121, 122, 123, 124, 125, 126, 141, 142, 143, 144, 145, 127, 128, 129, 130, 131, 132, 133, 134, 135, 136, 137, 138, 139, 140, 146, 147] (by decide +kernel) (by decide +kernel)
set_option maxRecDepth 20000 in
theorem gX7_alike_X7_refreshFullRows : GoodIn wsX7_alike (wsV RX7 212 RX7 yX7_refreshFullRows wsX7_refreshFullRows) := goodIn_app (goodIn_of _ (by decide +kernel)) ggX7_alike_X7_refreshFullRows
set_option maxRecDepth 20000 in
theorem ggX7_alike_X7_firstAlike : GoodIn wsX7_alike wsX7_firstAlike := goodIn_r _ [92, 22, 8, 9, 93, 94, 95, 44, 96, 76, 97, 98, 99, 100, 101, 26, 27, 13, 28, 29, 102, 103, 104, 105, 66, 67, 70, 72, 73, 74, 75, 106, 107, 108, 109, 110, 111, 112, 113, 114, 115, 116, 117, 118, 119, 120, 121, 122, 123, 124, 125, 126, 141, 142, 143, 144, 145, 127, 128, 129, 130, 131, 132, 133, 134, 135, 136, 137, 138, 139, 140] (by decide +kernel) (by decide +kernel)
set_option maxRecDepth 20000 in
theorem gX7_alike_X7_firstAlike : GoodIn wsX7_alike (wsV RX7 219 RX7 yX7_firstAlike wsX7_firstAlike) := goodIn_app (goodIn_of _ (by decide +kernel)) ggX7_alike_X7_firstAlike
theorem dX7_alike_0 : decode cX7_alike 0 = .ok (.aload_n 0, 1) := by decide +kernel
theorem dX7_alike_1 : decode cX7_alike 1 = .ok (.iload_n 1, 1) := by decide +kernel
theorem dX7_alike_2 : decode cX7_alike 2 = .ok (.invokevirtual 190, 3) := by decide +kernel
theorem dX7_alike_5 : decode cX7_alike 5 = .ok (.aload_n 0, 1) := by decide +kernel
theorem dX7_alike_6 : decode cX7_alike 6 = .ok (.invokevirtual 212, 3) := by decide +kernel
theorem dX7_alike_9 : decode cX7_alike 9 = .ok (.aload_n 0, 1) := by decide +kernel
theorem dX7_alike_10 : decode cX7_alike 10 = .ok (.iload_n 1, 1) := by decide +kernel
theorem dX7_alike_11 : decode cX7_alike 11 = .ok (.invokevirtual 219, 3) := by decide +kernel
theorem dX7_alike_14 : decode cX7_alike 14 = .ok (.ireturn, 1) := by decide +kernel
set_option maxRecDepth 20000 in
theorem ggX7_classes_X7_refreshFullRows : GoodIn wsX7_classes wsX7_refreshFullRows := goodIn_r _ [7, 8, 1, 2, 9, 10, 11, 12, 13, 14, 15, 16, 17, 18, 19, 20, 21, 22, 23, 24, 25, 26, 27, 28, 29, 30, 31, 32, 33, 34, 35, 36, 37, 38, 39, 40, 41, 42, 43, 44, 45, 46, 47, 48, 49, 50, 51, 52, 53, 54, 55, 56, 57, 58, 59, 60, 61, 62, 63, 64, 65, 66, 67, 68, 69, 70, 71, 72, 73, 74, 75, 76, 77, 78, 79, 80, 81, 107, 108, 109, 110, 111, 112, 113, 114, 115, 116, 117, 118, 119, 120, 121, 122, 123, 124, 125, 126, 127, 128, 129, 130, 131, 132, 133, 134, 135, 136, 137, 138, 139, 140, 141] (by decide +kernel) (by decide +kernel)
set_option maxRecDepth 20000 in
theorem gX7_classes_X7_refreshFullRows : GoodIn wsX7_classes (wsV RX7 212 RX7 yX7_refreshFullRows wsX7_refreshFullRows) := goodIn_app (goodIn_of _ (by decide +kernel)) ggX7_classes_X7_refreshFullRows
set_option maxRecDepth 20000 in
theorem ggX7_classes_X0_faultCount : GoodIn wsX7_classes wsX0_faultCount := goodIn_r _ [39, 40, 41, 126, 127, 128, 129, 130, 131, 132, 133, 134, 135, 136, 137, 138, 139] (by decide +kernel) (by decide +kernel)
set_option maxRecDepth 20000 in
theorem gX7_classes_X0_faultCount : GoodIn wsX7_classes (wsV RX7 115 RX0 yX0_faultCount wsX0_faultCount) := goodIn_app (goodIn_of _ (by decide +kernel)) ggX7_classes_X0_faultCount
set_option maxRecDepth 20000 in
theorem ggX7_classes_X7_firstAlike : GoodIn wsX7_classes wsX7_firstAlike := goodIn_r _ [86, 9, 1, 2, 87, 88, 89, 32, 90, 69, 91, 92, 93, 94, 95, 13, 14, 15, 16, 17, 96, 97, 98, 99, 59, 60, 63, 65, 66, 67, 68, 100, 101, 102, 103, 104, 105, 106, 107, 108, 109, 110, 111, 112, 113, 114, 115, 116, 117, 118, 119, 120, 121, 122, 123, 124, 125, 126, 127, 128, 129, 130, 131, 132, 133, 134, 135, 136, 137, 138, 139] (by decide +kernel) (by decide +kernel)
set_option maxRecDepth 20000 in
theorem gX7_classes_X7_firstAlike : GoodIn wsX7_classes (wsV RX7 219 RX7 yX7_firstAlike wsX7_firstAlike) := goodIn_app (goodIn_of _ (by decide +kernel)) ggX7_classes_X7_firstAlike
theorem dX7_classes_0 : decode cX7_classes 0 = .ok (.aload_n 0, 1) := by decide +kernel
theorem dX7_classes_1 : decode cX7_classes 1 = .ok (.invokevirtual 212, 3) := by decide +kernel
theorem dX7_classes_4 : decode cX7_classes 4 = .ok (.aload_n 0, 1) := by decide +kernel
theorem dX7_classes_5 : decode cX7_classes 5 = .ok (.getfield 19, 3) := by decide +kernel
theorem dX7_classes_8 : decode cX7_classes 8 = .ok (.getfield 97, 3) := by decide +kernel
theorem dX7_classes_11 : decode cX7_classes 11 = .ok (.invokevirtual 115, 3) := by decide +kernel
theorem dX7_classes_14 : decode cX7_classes 14 = .ok (.istore_n 1, 1) := by decide +kernel
theorem dX7_classes_15 : decode cX7_classes 15 = .ok (.iconst 0, 1) := by decide +kernel
theorem dX7_classes_16 : decode cX7_classes 16 = .ok (.istore_n 2, 1) := by decide +kernel
theorem dX7_classes_17 : decode cX7_classes 17 = .ok (.iconst 0, 1) := by decide +kernel
theorem dX7_classes_18 : decode cX7_classes 18 = .ok (.istore_n 3, 1) := by decide +kernel
theorem dX7_classes_19 : decode cX7_classes 19 = .ok (.iload_n 3, 1) := by decide +kernel
theorem dX7_classes_20 : decode cX7_classes 20 = .ok (.iload_n 1, 1) := by decide +kernel
theorem dX7_classes_21 : decode cX7_classes 21 = .ok (.if_icmp .ge 21, 3) := by decide +kernel
theorem dX7_classes_24 : decode cX7_classes 24 = .ok (.aload_n 0, 1) := by decide +kernel
theorem dX7_classes_25 : decode cX7_classes 25 = .ok (.iload_n 3, 1) := by decide +kernel
theorem dX7_classes_26 : decode cX7_classes 26 = .ok (.invokevirtual 219, 3) := by decide +kernel
theorem dX7_classes_29 : decode cX7_classes 29 = .ok (.iload_n 3, 1) := by decide +kernel
theorem dX7_classes_30 : decode cX7_classes 30 = .ok (.if_icmp .ne 6, 3) := by decide +kernel
theorem dX7_classes_33 : decode cX7_classes 33 = .ok (.iinc 2 1, 3) := by decide +kernel
theorem dX7_classes_36 : decode cX7_classes 36 = .ok (.iinc 3 1, 3) := by decide +kernel
theorem dX7_classes_39 : decode cX7_classes 39 = .ok (.goto (-20), 3) := by decide +kernel
theorem dX7_classes_42 : decode cX7_classes 42 = .ok (.iload_n 2, 1) := by decide +kernel
theorem dX7_classes_43 : decode cX7_classes 43 = .ok (.ireturn, 1) := by decide +kernel
set_option maxRecDepth 20000 in
theorem ggX7_coverage_X0_faultCount : GoodIn wsX7_coverage wsX0_faultCount := goodIn_r _ [7, 8, 9, 148, 149, 150, 151, 152, 153, 154, 155, 156, 157, 158, 159, 160, 161] (by decide +kernel) (by decide +kernel)
set_option maxRecDepth 20000 in
theorem gX7_coverage_X0_faultCount : GoodIn wsX7_coverage (wsV RX7 115 RX0 yX0_faultCount wsX0_faultCount) := goodIn_app (goodIn_of _ (by decide +kernel)) ggX7_coverage_X0_faultCount
set_option maxRecDepth 20000 in
theorem ggX7_coverage_X7_hidden : GoodIn wsX7_coverage wsX7_hidden := goodIn_r _ [14, 1, 2, 15, 16, 17, 18, 13, 19, 20, 21, 22, 23, 24, 25, 6, 26, 27, 28, 29, 30, 31, 32, 33, 34, 35, 36, 37, 38, 39, 40, 41, 42, 43, 44, 45, 46, 4, 5, 7, 8, 9, 47, 48, 49, 50, 51, 52, 53, 54, 55, 56, 57, 58, 59, 60, 61, 62, 63, 64, 65, 66, 67, 68, 69, 70, 71, 72, 73, 74, 75, 76, 77, 78, 79, 80, 81, 82, 83, 84, 85, 86, 3, 87, 88, 89, 90, 91, 92, 93, 94, 95, 96, 97, 98, 99, 100, 101, 102, 103, 104, 105, 106, 134, 135, 136, 137, 138, 139, 140, 141, 142, 143, 144, 145, 146, 147, 162, 163, 164, 165, 166, 148, 149, 150, 151, 152, 153, 154, 155, 156, 157, 158, 159, 160, 161, 167, 168] (by decide +kernel) (by decide +kernel)
set_option maxRecDepth 20000 in
theorem gX7_coverage_X7_hidden : GoodIn wsX7_coverage (wsV RX7 222 RX7 yX7_hidden wsX7_hidden) := goodIn_app (goodIn_of _ (by decide +kernel)) ggX7_coverage_X7_hidden
set_option maxRecDepth 20000 in
theorem ggX7_coverage_X7_listFoundByTests : GoodIn wsX7_coverage wsX7_listFoundByTests := goodIn_r _ [110, 111, 1, 112, 113, 114, 115, 116, 117, 13, 118, 119, 21, 2, 22, 120, 121, 122, 31, 123, 35, 33, 124, 125, 126, 36, 37, 6, 38, 39, 40, 41, 42, 43, 44, 45, 46, 4, 5, 7, 8, 9, 47, 48, 49, 50, 51, 52, 53, 54, 55, 56, 57, 58, 59, 60, 61, 62, 63, 64, 65, 66, 67, 68, 69, 70, 71, 72, 73, 74, 75, 76, 77, 78, 79, 80, 81, 82, 83, 34, 84, 85, 86, 127, 128, 129, 130, 131, 92, 93, 94, 3, 132, 97, 98, 99, 134, 135, 136, 137, 138, 139, 140, 141, 142, 143, 144, 145, 146, 147, 169, 170, 171, 172, 173, 162, 163, 164, 165, 166, 148, 149, 150, 151, 152, 153, 154, 155, 156, 157, 158, 159, 160, 161, 167, 168] (by decide +kernel) (by decide +kernel)
set_option maxRecDepth 20000 in
theorem gX7_coverage_X7_listFoundByTests : GoodIn wsX7_coverage (wsV RX7 134 RX7 yX7_listFoundByTests wsX7_listFoundByTests) := goodIn_app (goodIn_of _ (by decide +kernel)) ggX7_coverage_X7_listFoundByTests
set_option maxRecDepth 20000 in
theorem ggX7_coverage_J13_bitCount_95d88 : GoodIn wsX7_coverage wsJ13_bitCount_95d88 := goodIn_r _ [103, 104, 105, 106] (by decide +kernel) (by decide +kernel)
set_option maxRecDepth 20000 in
theorem gX7_coverage_J13_bitCount_95d88 : GoodIn wsX7_coverage (va_wsS RX7 138 yJ13_bitCount_95d88 wsJ13_bitCount_95d88) := goodIn_app (goodIn_of _ (by decide +kernel)) ggX7_coverage_J13_bitCount_95d88
theorem dX7_coverage_0 : decode cX7_coverage 0 = .ok (.aload_n 0, 1) := by decide +kernel
theorem dX7_coverage_1 : decode cX7_coverage 1 = .ok (.getfield 19, 3) := by decide +kernel
theorem dX7_coverage_4 : decode cX7_coverage 4 = .ok (.getfield 97, 3) := by decide +kernel
theorem dX7_coverage_7 : decode cX7_coverage 7 = .ok (.invokevirtual 115, 3) := by decide +kernel
theorem dX7_coverage_10 : decode cX7_coverage 10 = .ok (.aload_n 0, 1) := by decide +kernel
theorem dX7_coverage_11 : decode cX7_coverage 11 = .ok (.invokevirtual 222, 3) := by decide +kernel
theorem dX7_coverage_14 : decode cX7_coverage 14 = .ok (.isub, 1) := by decide +kernel
theorem dX7_coverage_15 : decode cX7_coverage 15 = .ok (.istore_n 1, 1) := by decide +kernel
theorem dX7_coverage_16 : decode cX7_coverage 16 = .ok (.iload_n 1, 1) := by decide +kernel
theorem dX7_coverage_17 : decode cX7_coverage 17 = .ok (.ifCond .gt 5, 3) := by decide +kernel
theorem dX7_coverage_20 : decode cX7_coverage 20 = .ok (.dconst 1, 1) := by decide +kernel
theorem dX7_coverage_21 : decode cX7_coverage 21 = .ok (.dreturn, 1) := by decide +kernel
theorem dX7_coverage_22 : decode cX7_coverage 22 = .ok (.aload_n 0, 1) := by decide +kernel
theorem dX7_coverage_23 : decode cX7_coverage 23 = .ok (.invokevirtual 134, 3) := by decide +kernel
theorem dX7_coverage_26 : decode cX7_coverage 26 = .ok (.invokestatic 138, 3) := by decide +kernel
theorem dX7_coverage_29 : decode cX7_coverage 29 = .ok (.istore_n 2, 1) := by decide +kernel
theorem dX7_coverage_30 : decode cX7_coverage 30 = .ok (.iload_n 2, 1) := by decide +kernel
theorem dX7_coverage_31 : decode cX7_coverage 31 = .ok (.i2d, 1) := by decide +kernel
theorem dX7_coverage_32 : decode cX7_coverage 32 = .ok (.iload_n 1, 1) := by decide +kernel
theorem dX7_coverage_33 : decode cX7_coverage 33 = .ok (.i2d, 1) := by decide +kernel
theorem dX7_coverage_34 : decode cX7_coverage 34 = .ok (.ddiv, 1) := by decide +kernel
theorem dX7_coverage_35 : decode cX7_coverage 35 = .ok (.dreturn, 1) := by decide +kernel
set_option maxRecDepth 20000 in
theorem ggX7_leastSet_X7_listFoundByTests : GoodIn wsX7_leastSet wsX7_listFoundByTests := goodIn_r _ [10, 11, 1, 2, 3, 4, 12, 13, 14, 9, 15, 16, 17, 18, 19, 20, 21, 22, 23, 24, 25, 26, 27, 28, 29, 30, 31, 32, 33, 34, 35, 36, 37, 38, 39, 40, 41, 42, 43, 44, 45, 46, 47, 48, 49, 50, 51, 52, 53, 54, 55, 56, 57, 58, 59, 60, 61, 62, 63, 64, 65, 66, 67, 68, 69, 70, 71, 72, 73, 74, 75, 76, 77, 78, 79, 80, 81, 82, 83, 84, 85, 86, 87, 88, 89, 90, 91, 92, 93, 94, 95, 96, 97, 98, 99, 100, 105, 106, 107, 108, 109, 110, 111, 112, 113, 114, 115, 116, 117, 118, 119, 120, 121, 122, 123, 124, 125, 126, 127, 128, 129, 130, 131, 132, 133, 134, 135, 136, 137, 138, 139, 140, 141, 142, 143, 144] (by decide +kernel) (by decide +kernel)
set_option maxRecDepth 20000 in
theorem gX7_leastSet_X7_listFoundByTests : GoodIn wsX7_leastSet (wsV RX7 134 RX7 yX7_listFoundByTests wsX7_listFoundByTests) := goodIn_app (goodIn_of _ (by decide +kernel)) ggX7_leastSet_X7_listFoundByTests
set_option maxRecDepth 20000 in
theorem ggX7_leastSet_X7_smallestCover : GoodIn wsX7_leastSet wsX7_smallestCover := goodIn_r _ [103, 104, 101, 102, 9] (by decide +kernel) (by decide +kernel)
set_option maxRecDepth 20000 in
theorem gX7_leastSet_X7_smallestCover : GoodIn wsX7_leastSet (va_wsS RX7 225 yX7_smallestCover wsX7_smallestCover) := goodIn_app (goodIn_of _ (by decide +kernel)) ggX7_leastSet_X7_smallestCover
theorem dX7_leastSet_0 : decode cX7_leastSet 0 = .ok (.aload_n 0, 1) := by decide +kernel
theorem dX7_leastSet_1 : decode cX7_leastSet 1 = .ok (.invokevirtual 134, 3) := by decide +kernel
theorem dX7_leastSet_4 : decode cX7_leastSet 4 = .ok (.lstore_n 1, 1) := by decide +kernel
theorem dX7_leastSet_5 : decode cX7_leastSet 5 = .ok (.aload_n 0, 1) := by decide +kernel
theorem dX7_leastSet_6 : decode cX7_leastSet 6 = .ok (.getfield 19, 3) := by decide +kernel
theorem dX7_leastSet_9 : decode cX7_leastSet 9 = .ok (.getfield 122, 3) := by decide +kernel
theorem dX7_leastSet_12 : decode cX7_leastSet 12 = .ok (.getfield 126, 3) := by decide +kernel
theorem dX7_leastSet_15 : decode cX7_leastSet 15 = .ok (.istore_n 3, 1) := by decide +kernel
theorem dX7_leastSet_16 : decode cX7_leastSet 16 = .ok (.lconst 0, 1) := by decide +kernel
theorem dX7_leastSet_17 : decode cX7_leastSet 17 = .ok (.lstore 4, 2) := by decide +kernel
theorem dX7_leastSet_19 : decode cX7_leastSet 19 = .ok (.iconst 0, 1) := by decide +kernel
theorem dX7_leastSet_20 : decode cX7_leastSet 20 = .ok (.istore 6, 2) := by decide +kernel
theorem dX7_leastSet_22 : decode cX7_leastSet 22 = .ok (.iload 6, 2) := by decide +kernel
theorem dX7_leastSet_24 : decode cX7_leastSet 24 = .ok (.iload_n 3, 1) := by decide +kernel
theorem dX7_leastSet_25 : decode cX7_leastSet 25 = .ok (.if_icmp .ge 30, 3) := by decide +kernel
theorem dX7_leastSet_28 : decode cX7_leastSet 28 = .ok (.lload 4, 2) := by decide +kernel
theorem dX7_leastSet_30 : decode cX7_leastSet 30 = .ok (.aload_n 0, 1) := by decide +kernel
theorem dX7_leastSet_31 : decode cX7_leastSet 31 = .ok (.getfield 56, 3) := by decide +kernel
theorem dX7_leastSet_34 : decode cX7_leastSet 34 = .ok (.iload 6, 2) := by decide +kernel
theorem dX7_leastSet_36 : decode cX7_leastSet 36 = .ok (.laload, 1) := by decide +kernel
theorem dX7_leastSet_37 : decode cX7_leastSet 37 = .ok (.lor, 1) := by decide +kernel
theorem dX7_leastSet_38 : decode cX7_leastSet 38 = .ok (.lstore 4, 2) := by decide +kernel
theorem dX7_leastSet_40 : decode cX7_leastSet 40 = .ok (.aload_n 0, 1) := by decide +kernel
theorem dX7_leastSet_41 : decode cX7_leastSet 41 = .ok (.getfield 60, 3) := by decide +kernel
theorem dX7_leastSet_44 : decode cX7_leastSet 44 = .ok (.iload 6, 2) := by decide +kernel
theorem dX7_leastSet_46 : decode cX7_leastSet 46 = .ok (.lload 4, 2) := by decide +kernel
theorem dX7_leastSet_48 : decode cX7_leastSet 48 = .ok (.lastore, 1) := by decide +kernel
theorem dX7_leastSet_49 : decode cX7_leastSet 49 = .ok (.iinc 6 1, 3) := by decide +kernel
theorem dX7_leastSet_52 : decode cX7_leastSet 52 = .ok (.goto (-30), 3) := by decide +kernel
theorem dX7_leastSet_55 : decode cX7_leastSet 55 = .ok (.iconst 0, 1) := by decide +kernel
theorem dX7_leastSet_56 : decode cX7_leastSet 56 = .ok (.istore 6, 2) := by decide +kernel
theorem dX7_leastSet_58 : decode cX7_leastSet 58 = .ok (.iload 6, 2) := by decide +kernel
theorem dX7_leastSet_60 : decode cX7_leastSet 60 = .ok (.iload_n 3, 1) := by decide +kernel
theorem dX7_leastSet_61 : decode cX7_leastSet 61 = .ok (.if_icmp .gt 36, 3) := by decide +kernel
theorem dX7_leastSet_64 : decode cX7_leastSet 64 = .ok (.aload_n 0, 1) := by decide +kernel
theorem dX7_leastSet_65 : decode cX7_leastSet 65 = .ok (.getfield 56, 3) := by decide +kernel
theorem dX7_leastSet_68 : decode cX7_leastSet 68 = .ok (.aload_n 0, 1) := by decide +kernel
theorem dX7_leastSet_69 : decode cX7_leastSet 69 = .ok (.getfield 60, 3) := by decide +kernel
theorem dX7_leastSet_72 : decode cX7_leastSet 72 = .ok (.iload_n 3, 1) := by decide +kernel
theorem dX7_leastSet_73 : decode cX7_leastSet 73 = .ok (.iconst 1, 1) := by decide +kernel
theorem dX7_leastSet_74 : decode cX7_leastSet 74 = .ok (.isub, 1) := by decide +kernel
theorem dX7_leastSet_75 : decode cX7_leastSet 75 = .ok (.lload_n 1, 1) := by decide +kernel
theorem dX7_leastSet_76 : decode cX7_leastSet 76 = .ok (.iload 6, 2) := by decide +kernel
theorem dX7_leastSet_78 : decode cX7_leastSet 78 = .ok (.invokestatic 225, 3) := by decide +kernel
theorem dX7_leastSet_81 : decode cX7_leastSet 81 = .ok (.istore 7, 2) := by decide +kernel
theorem dX7_leastSet_83 : decode cX7_leastSet 83 = .ok (.iload 7, 2) := by decide +kernel
theorem dX7_leastSet_85 : decode cX7_leastSet 85 = .ok (.ifCond .lt 6, 3) := by decide +kernel
theorem dX7_leastSet_88 : decode cX7_leastSet 88 = .ok (.iload 7, 2) := by decide +kernel
theorem dX7_leastSet_90 : decode cX7_leastSet 90 = .ok (.ireturn, 1) := by decide +kernel
theorem dX7_leastSet_91 : decode cX7_leastSet 91 = .ok (.iinc 6 1, 3) := by decide +kernel
theorem dX7_leastSet_94 : decode cX7_leastSet 94 = .ok (.goto (-36), 3) := by decide +kernel
theorem dX7_leastSet_97 : decode cX7_leastSet 97 = .ok (.iconst 0, 1) := by decide +kernel
theorem dX7_leastSet_98 : decode cX7_leastSet 98 = .ok (.ireturn, 1) := by decide +kernel
set_option maxRecDepth 20000 in
theorem ggX7_suspects_X7_listFitting : GoodIn wsX7_suspects wsX7_listFitting := goodIn_r _ [5, 6, 7, 8, 9, 10, 11, 4, 12, 13, 14, 15, 16, 17, 18, 19, 20, 21, 22, 23, 24, 25, 26, 27, 28, 29, 30, 31, 32, 33, 34, 35, 36, 37, 38, 39, 40, 41, 42, 43, 44, 45, 46, 47, 48, 49, 50, 51, 52, 53, 54, 55, 56, 57, 58, 59, 60, 61, 62, 63, 64, 65, 66, 67, 68, 69, 70, 71, 72, 73, 74, 75, 76, 77, 78, 79, 80, 81, 82, 83, 84, 85, 86, 87, 88, 89, 90, 91, 92, 93, 94, 95, 96, 97, 98, 99, 100, 101, 102, 103, 104, 105, 106, 107, 108, 109, 110, 111, 112, 113, 114, 115, 116, 117, 118, 119, 120, 121, 122, 123, 124, 125, 126, 127, 128, 129, 130, 131, 132, 133, 134, 135, 136] (by decide +kernel) (by decide +kernel)
set_option maxRecDepth 20000 in
theorem gX7_suspects_X7_listFitting : GoodIn wsX7_suspects (wsV RX7 229 RX7 yX7_listFitting wsX7_listFitting) := goodIn_app (goodIn_of _ (by decide +kernel)) ggX7_suspects_X7_listFitting
theorem dX7_suspects_0 : decode cX7_suspects 0 = .ok (.aload_n 0, 1) := by decide +kernel
theorem dX7_suspects_1 : decode cX7_suspects 1 = .ok (.invokevirtual 229, 3) := by decide +kernel
theorem dX7_suspects_4 : decode cX7_suspects 4 = .ok (.ireturn, 1) := by decide +kernel
set_option maxRecDepth 20000 in
theorem ggX7_suspect_X7_listFitting : GoodIn wsX7_suspect wsX7_listFitting := goodIn_r _ [8, 9, 10, 3, 11, 12, 13, 7, 14, 15, 16, 17, 18, 19, 20, 21, 22, 23, 24, 25, 26, 27, 28, 29, 30, 31, 32, 33, 34, 35, 36, 37, 38, 39, 40, 41, 42, 43, 44, 45, 46, 47, 48, 49, 50, 51, 52, 53, 54, 55, 56, 57, 58, 59, 60, 61, 62, 63, 64, 65, 66, 67, 68, 69, 70, 71, 72, 73, 74, 75, 76, 77, 78, 79, 80, 81, 82, 83, 84, 85, 86, 87, 88, 89, 90, 91, 92, 93, 94, 95, 96, 97, 98, 99, 100, 101, 102, 103, 104, 105, 106, 107, 108, 109, 110, 111, 112, 113, 114, 115, 116, 117, 118, 119, 120, 121, 122, 123, 124, 125, 126, 127, 128, 129, 130, 131, 132, 133, 134, 135, 136, 137, 138] (by decide +kernel) (by decide +kernel)
set_option maxRecDepth 20000 in
theorem gX7_suspect_X7_listFitting : GoodIn wsX7_suspect (wsV RX7 229 RX7 yX7_listFitting wsX7_listFitting) := goodIn_app (goodIn_of _ (by decide +kernel)) ggX7_suspect_X7_listFitting
theorem dX7_suspect_0 : decode cX7_suspect 0 = .ok (.aload_n 0, 1) := by decide +kernel
theorem dX7_suspect_1 : decode cX7_suspect 1 = .ok (.invokevirtual 229, 3) := by decide +kernel
theorem dX7_suspect_4 : decode cX7_suspect 4 = .ok (.istore_n 2, 1) := by decide +kernel
theorem dX7_suspect_5 : decode cX7_suspect 5 = .ok (.iload_n 1, 1) := by decide +kernel
theorem dX7_suspect_6 : decode cX7_suspect 6 = .ok (.ifCond .lt 8, 3) := by decide +kernel
theorem dX7_suspect_9 : decode cX7_suspect 9 = .ok (.iload_n 1, 1) := by decide +kernel
theorem dX7_suspect_10 : decode cX7_suspect 10 = .ok (.iload_n 2, 1) := by decide +kernel
theorem dX7_suspect_11 : decode cX7_suspect 11 = .ok (.if_icmp .lt 13, 3) := by decide +kernel
theorem dX7_suspect_14 : decode cX7_suspect 14 = .ok (.new 167, 3) := by decide +kernel
theorem dX7_suspect_17 : decode cX7_suspect 17 = .ok (.dup, 1) := by decide +kernel
theorem dX7_suspect_18 : decode cX7_suspect 18 = .ok (.ldc 232, 2) := by decide +kernel
theorem dX7_suspect_20 : decode cX7_suspect 20 = .ok (.invokespecial 171, 3) := by decide +kernel
theorem dX7_suspect_23 : decode cX7_suspect 23 = .ok (.athrow, 1) := by decide +kernel
theorem dX7_suspect_24 : decode cX7_suspect 24 = .ok (.aload_n 0, 1) := by decide +kernel
theorem dX7_suspect_25 : decode cX7_suspect 25 = .ok (.getfield 49, 3) := by decide +kernel
theorem dX7_suspect_28 : decode cX7_suspect 28 = .ok (.iload_n 1, 1) := by decide +kernel
theorem dX7_suspect_29 : decode cX7_suspect 29 = .ok (.iaload, 1) := by decide +kernel
theorem dX7_suspect_30 : decode cX7_suspect 30 = .ok (.ireturn, 1) := by decide +kernel
set_option maxRecDepth 20000 in
theorem ggX7_nextTest_X7_listFitting : GoodIn wsX7_nextTest wsX7_listFitting := goodIn_r _ [8, 1, 9, 10, 11, 12, 13, 7, 14, 15, 16, 17, 18, 2, 19, 20, 21, 22, 23, 24, 25, 26, 27, 28, 29, 30, 31, 32, 33, 34, 35, 36, 37, 38, 39, 40, 41, 42, 43, 44, 45, 46, 47, 48, 49, 50, 51, 52, 53, 54, 55, 56, 57, 58, 59, 60, 61, 62, 63, 64, 65, 66, 67, 68, 69, 70, 71, 72, 73, 74, 75, 76, 77, 78, 79, 80, 81, 82, 83, 84, 85, 86, 87, 88, 89, 90, 91, 92, 93, 94, 95, 96, 97, 113, 114, 115, 116, 117, 118, 119, 120, 121, 122, 123, 124, 125, 126, 132, 133, 134, 135, 136, 137, 138, 139, 140, 141, 142, 143, 144, 145, 146, 147, 148, 149, 150, 151, 152, 127, 128, 129, 130, 131] (by decide +kernel) (by decide +kernel)
set_option maxRecDepth 20000 in
theorem gX7_nextTest_X7_listFitting : GoodIn wsX7_nextTest (wsV RX7 229 RX7 yX7_listFitting wsX7_listFitting) := goodIn_app (goodIn_of _ (by decide +kernel)) ggX7_nextTest_X7_listFitting
set_option maxRecDepth 20000 in
theorem ggX7_nextTest_X7_greatestPart : GoodIn wsX7_nextTest wsX7_greatestPart := goodIn_r _ [101, 16, 1, 9, 10, 102, 103, 104, 105, 106, 107, 108, 109, 36, 110, 63, 64, 67, 69, 70, 71, 72, 73, 111, 7, 112, 113, 114, 115, 116, 117, 118, 119, 120, 121, 122, 123, 124, 125, 126, 137, 138, 139, 140, 141, 142, 143, 144, 145, 146, 147, 148, 149, 150, 132, 133, 134, 135, 136] (by decide +kernel) (by decide +kernel)
set_option maxRecDepth 20000 in
theorem gX7_nextTest_X7_greatestPart : GoodIn wsX7_nextTest (wsV RX7 234 RX7 yX7_greatestPart wsX7_greatestPart) := goodIn_app (goodIn_of _ (by decide +kernel)) ggX7_nextTest_X7_greatestPart
theorem dX7_nextTest_0 : decode cX7_nextTest 0 = .ok (.aload_n 0, 1) := by decide +kernel
theorem dX7_nextTest_1 : decode cX7_nextTest 1 = .ok (.invokevirtual 229, 3) := by decide +kernel
theorem dX7_nextTest_4 : decode cX7_nextTest 4 = .ok (.istore_n 1, 1) := by decide +kernel
theorem dX7_nextTest_5 : decode cX7_nextTest 5 = .ok (.iload_n 1, 1) := by decide +kernel
theorem dX7_nextTest_6 : decode cX7_nextTest 6 = .ok (.iconst 2, 1) := by decide +kernel
theorem dX7_nextTest_7 : decode cX7_nextTest 7 = .ok (.if_icmp .ge 5, 3) := by decide +kernel
theorem dX7_nextTest_10 : decode cX7_nextTest 10 = .ok (.iconst (-1), 1) := by decide +kernel
theorem dX7_nextTest_11 : decode cX7_nextTest 11 = .ok (.ireturn, 1) := by decide +kernel
theorem dX7_nextTest_12 : decode cX7_nextTest 12 = .ok (.iconst (-1), 1) := by decide +kernel
theorem dX7_nextTest_13 : decode cX7_nextTest 13 = .ok (.istore_n 2, 1) := by decide +kernel
theorem dX7_nextTest_14 : decode cX7_nextTest 14 = .ok (.iconst 0, 1) := by decide +kernel
theorem dX7_nextTest_15 : decode cX7_nextTest 15 = .ok (.istore_n 3, 1) := by decide +kernel
theorem dX7_nextTest_16 : decode cX7_nextTest 16 = .ok (.iconst 0, 1) := by decide +kernel
theorem dX7_nextTest_17 : decode cX7_nextTest 17 = .ok (.istore 4, 2) := by decide +kernel
theorem dX7_nextTest_19 : decode cX7_nextTest 19 = .ok (.iload 4, 2) := by decide +kernel
theorem dX7_nextTest_21 : decode cX7_nextTest 21 = .ok (.aload_n 0, 1) := by decide +kernel
theorem dX7_nextTest_22 : decode cX7_nextTest 22 = .ok (.getfield 19, 3) := by decide +kernel
theorem dX7_nextTest_25 : decode cX7_nextTest 25 = .ok (.getfield 122, 3) := by decide +kernel
theorem dX7_nextTest_28 : decode cX7_nextTest 28 = .ok (.getfield 126, 3) := by decide +kernel
theorem dX7_nextTest_31 : decode cX7_nextTest 31 = .ok (.if_icmp .ge 34, 3) := by decide +kernel
theorem dX7_nextTest_34 : decode cX7_nextTest 34 = .ok (.aload_n 0, 1) := by decide +kernel
theorem dX7_nextTest_35 : decode cX7_nextTest 35 = .ok (.iload 4, 2) := by decide +kernel
theorem dX7_nextTest_37 : decode cX7_nextTest 37 = .ok (.iload_n 1, 1) := by decide +kernel
theorem dX7_nextTest_38 : decode cX7_nextTest 38 = .ok (.invokevirtual 234, 3) := by decide +kernel
theorem dX7_nextTest_41 : decode cX7_nextTest 41 = .ok (.istore 5, 2) := by decide +kernel
theorem dX7_nextTest_43 : decode cX7_nextTest 43 = .ok (.iload_n 2, 1) := by decide +kernel
theorem dX7_nextTest_44 : decode cX7_nextTest 44 = .ok (.ifCond .lt 9, 3) := by decide +kernel
theorem dX7_nextTest_47 : decode cX7_nextTest 47 = .ok (.iload 5, 2) := by decide +kernel
theorem dX7_nextTest_49 : decode cX7_nextTest 49 = .ok (.iload_n 3, 1) := by decide +kernel
theorem dX7_nextTest_50 : decode cX7_nextTest 50 = .ok (.if_icmp .ge 9, 3) := by decide +kernel
theorem dX7_nextTest_53 : decode cX7_nextTest 53 = .ok (.iload 4, 2) := by decide +kernel
theorem dX7_nextTest_55 : decode cX7_nextTest 55 = .ok (.istore_n 2, 1) := by decide +kernel
theorem dX7_nextTest_56 : decode cX7_nextTest 56 = .ok (.iload 5, 2) := by decide +kernel
theorem dX7_nextTest_58 : decode cX7_nextTest 58 = .ok (.istore_n 3, 1) := by decide +kernel
theorem dX7_nextTest_59 : decode cX7_nextTest 59 = .ok (.iinc 4 1, 3) := by decide +kernel
theorem dX7_nextTest_62 : decode cX7_nextTest 62 = .ok (.goto (-43), 3) := by decide +kernel
theorem dX7_nextTest_65 : decode cX7_nextTest 65 = .ok (.iload_n 2, 1) := by decide +kernel
theorem dX7_nextTest_66 : decode cX7_nextTest 66 = .ok (.ireturn, 1) := by decide +kernel
set_option maxRecDepth 20000 in
theorem ggX7_addTest_X7_areInputs : GoodIn wsX7_addTest wsX7_areInputs := goodIn_r _ [14, 5, 15, 16, 74, 75, 76, 77, 78, 79, 80, 81, 82, 83, 84, 85, 86, 87, 93, 94, 95, 96, 97, 98, 99, 100, 101, 102, 103, 104, 105, 106] (by decide +kernel) (by decide +kernel)
set_option maxRecDepth 20000 in
theorem gX7_addTest_X7_areInputs : GoodIn wsX7_addTest (wsV RX7 237 RX7 yX7_areInputs wsX7_areInputs) := goodIn_app (goodIn_of _ (by decide +kernel)) ggX7_addTest_X7_areInputs
set_option maxRecDepth 20000 in
theorem ggX7_addTest_X1_push : GoodIn wsX7_addTest wsX1_push := goodIn_r _ [21, 22, 23, 24, 25, 26, 27, 28, 29, 30, 31, 32, 33, 34, 35, 36, 37, 38, 39, 40, 41, 42, 43, 44, 45, 46, 47, 48, 49, 50, 51, 52, 53, 54, 55, 56, 57, 58, 59, 60, 61, 62, 63, 64, 65, 66, 67, 68, 69, 107, 108, 109, 86, 87, 93, 94, 95, 96, 97, 98, 99, 100, 101, 102, 103, 104, 105, 106, 88, 89, 90, 91, 92] (by decide +kernel) (by decide +kernel)
set_option maxRecDepth 20000 in
theorem gX7_addTest_X1_push : GoodIn wsX7_addTest (wsV RX7 84 RX1 yX1_push wsX1_push) := goodIn_app (goodIn_of _ (by decide +kernel)) ggX7_addTest_X1_push
set_option maxRecDepth 20000 in
theorem ggX7_addTest_X6_put : GoodIn wsX7_addTest wsX6_put := goodIn_r _ [73, 65, 64, 67, 88, 89, 90, 91, 92] (by decide +kernel) (by decide +kernel)
set_option maxRecDepth 20000 in
theorem gX7_addTest_X6_put : GoodIn wsX7_addTest (wsV RX7 248 RX6 yX6_put wsX6_put) := goodIn_app (goodIn_of _ (by decide +kernel)) ggX7_addTest_X6_put
theorem dX7_addTest_0 : decode cX7_addTest 0 = .ok (.aload_n 0, 1) := by decide +kernel
theorem dX7_addTest_1 : decode cX7_addTest 1 = .ok (.iload_n 1, 1) := by decide +kernel
theorem dX7_addTest_2 : decode cX7_addTest 2 = .ok (.invokevirtual 237, 3) := by decide +kernel
theorem dX7_addTest_5 : decode cX7_addTest 5 = .ok (.ifCond .eq 17, 3) := by decide +kernel
theorem dX7_addTest_8 : decode cX7_addTest 8 = .ok (.aload_n 0, 1) := by decide +kernel
theorem dX7_addTest_9 : decode cX7_addTest 9 = .ok (.iload_n 2, 1) := by decide +kernel
theorem dX7_addTest_10 : decode cX7_addTest 10 = .ok (.invokevirtual 237, 3) := by decide +kernel
theorem dX7_addTest_13 : decode cX7_addTest 13 = .ok (.ifCond .eq 9, 3) := by decide +kernel
theorem dX7_addTest_16 : decode cX7_addTest 16 = .ok (.iload_n 1, 1) := by decide +kernel
theorem dX7_addTest_17 : decode cX7_addTest 17 = .ok (.iload_n 2, 1) := by decide +kernel
theorem dX7_addTest_18 : decode cX7_addTest 18 = .ok (.iand, 1) := by decide +kernel
theorem dX7_addTest_19 : decode cX7_addTest 19 = .ok (.ifCond .eq 13, 3) := by decide +kernel
theorem dX7_addTest_22 : decode cX7_addTest 22 = .ok (.new 73, 3) := by decide +kernel
theorem dX7_addTest_25 : decode cX7_addTest 25 = .ok (.dup, 1) := by decide +kernel
theorem dX7_addTest_26 : decode cX7_addTest 26 = .ok (.ldc 241, 2) := by decide +kernel
theorem dX7_addTest_28 : decode cX7_addTest 28 = .ok (.invokespecial 77, 3) := by decide +kernel
theorem dX7_addTest_31 : decode cX7_addTest 31 = .ok (.athrow, 1) := by decide +kernel
theorem dX7_addTest_32 : decode cX7_addTest 32 = .ok (.aload_n 0, 1) := by decide +kernel
theorem dX7_addTest_33 : decode cX7_addTest 33 = .ok (.getfield 19, 3) := by decide +kernel
theorem dX7_addTest_36 : decode cX7_addTest 36 = .ok (.getfield 122, 3) := by decide +kernel
theorem dX7_addTest_39 : decode cX7_addTest 39 = .ok (.getfield 126, 3) := by decide +kernel
theorem dX7_addTest_42 : decode cX7_addTest 42 = .ok (.bipush 16, 2) := by decide +kernel
theorem dX7_addTest_44 : decode cX7_addTest 44 = .ok (.if_icmp .lt 13, 3) := by decide +kernel
theorem dX7_addTest_47 : decode cX7_addTest 47 = .ok (.new 243, 3) := by decide +kernel
theorem dX7_addTest_50 : decode cX7_addTest 50 = .ok (.dup, 1) := by decide +kernel
theorem dX7_addTest_51 : decode cX7_addTest 51 = .ok (.ldc 245, 2) := by decide +kernel
theorem dX7_addTest_53 : decode cX7_addTest 53 = .ok (.invokespecial 247, 3) := by decide +kernel
theorem dX7_addTest_56 : decode cX7_addTest 56 = .ok (.athrow, 1) := by decide +kernel
theorem dX7_addTest_57 : decode cX7_addTest 57 = .ok (.aload_n 0, 1) := by decide +kernel
theorem dX7_addTest_58 : decode cX7_addTest 58 = .ok (.getfield 26, 3) := by decide +kernel
theorem dX7_addTest_61 : decode cX7_addTest 61 = .ok (.aload_n 0, 1) := by decide +kernel
theorem dX7_addTest_62 : decode cX7_addTest 62 = .ok (.getfield 19, 3) := by decide +kernel
theorem dX7_addTest_65 : decode cX7_addTest 65 = .ok (.invokevirtual 84, 3) := by decide +kernel
theorem dX7_addTest_68 : decode cX7_addTest 68 = .ok (.aload_n 0, 1) := by decide +kernel
theorem dX7_addTest_69 : decode cX7_addTest 69 = .ok (.getfield 19, 3) := by decide +kernel
theorem dX7_addTest_72 : decode cX7_addTest 72 = .ok (.getfield 122, 3) := by decide +kernel
theorem dX7_addTest_75 : decode cX7_addTest 75 = .ok (.iload_n 1, 1) := by decide +kernel
theorem dX7_addTest_76 : decode cX7_addTest 76 = .ok (.iload_n 2, 1) := by decide +kernel
theorem dX7_addTest_77 : decode cX7_addTest 77 = .ok (.invokevirtual 248, 3) := by decide +kernel
theorem dX7_addTest_80 : decode cX7_addTest 80 = .ok (.aload_n 0, 1) := by decide +kernel
theorem dX7_addTest_81 : decode cX7_addTest 81 = .ok (.iconst 0, 1) := by decide +kernel
theorem dX7_addTest_82 : decode cX7_addTest 82 = .ok (.putfield 46, 3) := by decide +kernel
theorem dX7_addTest_85 : decode cX7_addTest 85 = .ok (.aload_n 0, 1) := by decide +kernel
theorem dX7_addTest_86 : decode cX7_addTest 86 = .ok (.getfield 19, 3) := by decide +kernel
theorem dX7_addTest_89 : decode cX7_addTest 89 = .ok (.getfield 122, 3) := by decide +kernel
theorem dX7_addTest_92 : decode cX7_addTest 92 = .ok (.getfield 126, 3) := by decide +kernel
theorem dX7_addTest_95 : decode cX7_addTest 95 = .ok (.iconst 1, 1) := by decide +kernel
theorem dX7_addTest_96 : decode cX7_addTest 96 = .ok (.isub, 1) := by decide +kernel
theorem dX7_addTest_97 : decode cX7_addTest 97 = .ok (.ireturn, 1) := by decide +kernel
set_option maxRecDepth 20000 in
theorem ggX7_removeTest_X7_checkTest : GoodIn wsX7_removeTest wsX7_checkTest := goodIn_ca (goodIn_r _ [10, 11, 12, 2, 3, 5, 73, 74, 75, 76, 77, 78, 79, 80, 81, 82, 83, 84, 85, 86, 87, 88, 89, 90, 91] (by decide +kernel) (by decide +kernel)) (goodIn_sub (fun _ h => List.mem_cons_of_mem _ (List.mem_append_right _ h)) (by decide +kernel))
set_option maxRecDepth 20000 in
theorem gX7_removeTest_X7_checkTest : GoodIn wsX7_removeTest (wsV RX7 174 RX7 yX7_checkTest wsX7_checkTest) := goodIn_app (goodIn_of _ (by decide +kernel)) ggX7_removeTest_X7_checkTest
set_option maxRecDepth 20000 in
theorem ggX7_removeTest_X1_push : GoodIn wsX7_removeTest wsX1_push := goodIn_r _ [17, 18, 19, 20, 21, 22, 23, 24, 25, 26, 27, 28, 29, 30, 31, 32, 33, 34, 35, 36, 37, 38, 39, 40, 41, 42, 43, 44, 45, 46, 47, 48, 49, 50, 51, 52, 53, 54, 55, 56, 57, 58, 59, 60, 61, 62, 63, 64, 65, 92, 93, 94, 85, 86, 95, 96, 97, 98, 99, 100, 101, 102, 103, 104, 105, 106, 107, 108, 87, 88, 89, 90, 91] (by decide +kernel) (by decide +kernel)
set_option maxRecDepth 20000 in
theorem gX7_removeTest_X1_push : GoodIn wsX7_removeTest (wsV RX7 84 RX1 yX1_push wsX1_push) := goodIn_app (goodIn_of _ (by decide +kernel)) ggX7_removeTest_X1_push
set_option maxRecDepth 20000 in
theorem ggX7_removeTest_X6_drop : GoodIn wsX7_removeTest wsX6_drop := goodIn_r _ [69, 60, 61, 63, 64, 65, 70, 71, 58, 72, 87, 88, 89, 90, 91] (by decide +kernel) (by decide +kernel)
set_option maxRecDepth 20000 in
theorem gX7_removeTest_X6_drop : GoodIn wsX7_removeTest (wsV RX7 252 RX6 yX6_drop wsX6_drop) := goodIn_app (goodIn_of _ (by decide +kernel)) ggX7_removeTest_X6_drop
theorem dX7_removeTest_0 : decode cX7_removeTest 0 = .ok (.aload_n 0, 1) := by decide +kernel
theorem dX7_removeTest_1 : decode cX7_removeTest 1 = .ok (.iload_n 1, 1) := by decide +kernel
theorem dX7_removeTest_2 : decode cX7_removeTest 2 = .ok (.invokevirtual 174, 3) := by decide +kernel
theorem dX7_removeTest_5 : decode cX7_removeTest 5 = .ok (.aload_n 0, 1) := by decide +kernel
theorem dX7_removeTest_6 : decode cX7_removeTest 6 = .ok (.getfield 26, 3) := by decide +kernel
theorem dX7_removeTest_9 : decode cX7_removeTest 9 = .ok (.aload_n 0, 1) := by decide +kernel
theorem dX7_removeTest_10 : decode cX7_removeTest 10 = .ok (.getfield 19, 3) := by decide +kernel
theorem dX7_removeTest_13 : decode cX7_removeTest 13 = .ok (.invokevirtual 84, 3) := by decide +kernel
theorem dX7_removeTest_16 : decode cX7_removeTest 16 = .ok (.aload_n 0, 1) := by decide +kernel
theorem dX7_removeTest_17 : decode cX7_removeTest 17 = .ok (.getfield 19, 3) := by decide +kernel
theorem dX7_removeTest_20 : decode cX7_removeTest 20 = .ok (.getfield 122, 3) := by decide +kernel
theorem dX7_removeTest_23 : decode cX7_removeTest 23 = .ok (.iload_n 1, 1) := by decide +kernel
theorem dX7_removeTest_24 : decode cX7_removeTest 24 = .ok (.invokevirtual 252, 3) := by decide +kernel
theorem dX7_removeTest_27 : decode cX7_removeTest 27 = .ok (.aload_n 0, 1) := by decide +kernel
theorem dX7_removeTest_28 : decode cX7_removeTest 28 = .ok (.iconst 0, 1) := by decide +kernel
theorem dX7_removeTest_29 : decode cX7_removeTest 29 = .ok (.putfield 46, 3) := by decide +kernel
theorem dX7_removeTest_32 : decode cX7_removeTest 32 = .ok (.aload_n 0, 1) := by decide +kernel
theorem dX7_removeTest_33 : decode cX7_removeTest 33 = .ok (.getfield 19, 3) := by decide +kernel
theorem dX7_removeTest_36 : decode cX7_removeTest 36 = .ok (.getfield 122, 3) := by decide +kernel
theorem dX7_removeTest_39 : decode cX7_removeTest 39 = .ok (.getfield 126, 3) := by decide +kernel
theorem dX7_removeTest_42 : decode cX7_removeTest 42 = .ok (.ireturn, 1) := by decide +kernel
set_option maxRecDepth 20000 in
theorem ggX7_setKind_X7_checkWire : GoodIn wsX7_setKind wsX7_checkWire := goodIn_ca (goodIn_r _ [14, 15, 16, 3, 4, 17, 77, 78, 79, 80, 81, 82, 83, 84, 85, 86, 87, 88, 89, 90, 91, 92, 93, 94, 95, 96, 97, 98, 99, 100, 101, 102, 103, 104] (by decide +kernel) (by decide +kernel)) (goodIn_sub (fun _ h => List.mem_cons_of_mem _ (List.mem_append_right _ h)) (by decide +kernel))
set_option maxRecDepth 20000 in
theorem gX7_setKind_X7_checkWire : GoodIn wsX7_setKind (wsV RX7 149 RX7 yX7_checkWire wsX7_checkWire) := goodIn_app (goodIn_of _ (by decide +kernel)) ggX7_setKind_X7_checkWire
set_option maxRecDepth 20000 in
theorem ggX7_setKind_X1_push : GoodIn wsX7_setKind wsX1_push := goodIn_r _ [22, 23, 24, 25, 26, 27, 28, 29, 30, 31, 32, 33, 34, 35, 36, 37, 38, 39, 40, 41, 42, 43, 44, 45, 46, 47, 48, 49, 50, 51, 52, 53, 54, 55, 56, 57, 58, 59, 60, 61, 62, 63, 64, 65, 66, 67, 68, 69, 70, 105, 106, 107, 89, 90, 91, 92, 93, 94, 95, 96, 97, 98, 99, 100, 101, 102, 103, 104, 108, 109, 110, 111, 112] (by decide +kernel) (by decide +kernel)
set_option maxRecDepth 20000 in
theorem gX7_setKind_X1_push : GoodIn wsX7_setKind (wsV RX7 84 RX1 yX1_push wsX1_push) := goodIn_app (goodIn_of _ (by decide +kernel)) ggX7_setKind_X1_push
set_option maxRecDepth 20000 in
theorem ggX7_setKind_X7_forgetRows : GoodIn wsX7_setKind wsX7_forgetRows := goodIn_r _ [74, 75, 76, 77, 78, 79, 80, 81, 82, 83, 84, 85, 86, 87, 88] (by decide +kernel) (by decide +kernel)
set_option maxRecDepth 20000 in
theorem gX7_setKind_X7_forgetRows : GoodIn wsX7_setKind (wsV RX7 94 RX7 yX7_forgetRows wsX7_forgetRows) := goodIn_app (goodIn_of _ (by decide +kernel)) ggX7_setKind_X7_forgetRows
theorem dX7_setKind_0 : decode cX7_setKind 0 = .ok (.aload_n 0, 1) := by decide +kernel
theorem dX7_setKind_1 : decode cX7_setKind 1 = .ok (.iload_n 1, 1) := by decide +kernel
theorem dX7_setKind_2 : decode cX7_setKind 2 = .ok (.invokevirtual 149, 3) := by decide +kernel
theorem dX7_setKind_5 : decode cX7_setKind 5 = .ok (.aload_n 0, 1) := by decide +kernel
theorem dX7_setKind_6 : decode cX7_setKind 6 = .ok (.getfield 19, 3) := by decide +kernel
theorem dX7_setKind_9 : decode cX7_setKind 9 = .ok (.getfield 97, 3) := by decide +kernel
theorem dX7_setKind_12 : decode cX7_setKind 12 = .ok (.getfield 152, 3) := by decide +kernel
theorem dX7_setKind_15 : decode cX7_setKind 15 = .ok (.iload_n 1, 1) := by decide +kernel
theorem dX7_setKind_16 : decode cX7_setKind 16 = .ok (.iaload, 1) := by decide +kernel
theorem dX7_setKind_17 : decode cX7_setKind 17 = .ok (.istore_n 3, 1) := by decide +kernel
theorem dX7_setKind_18 : decode cX7_setKind 18 = .ok (.iload_n 3, 1) := by decide +kernel
theorem dX7_setKind_19 : decode cX7_setKind 19 = .ok (.iconst (-1), 1) := by decide +kernel
theorem dX7_setKind_20 : decode cX7_setKind 20 = .ok (.if_icmp .eq 13, 3) := by decide +kernel
theorem dX7_setKind_23 : decode cX7_setKind 23 = .ok (.iload_n 2, 1) := by decide +kernel
theorem dX7_setKind_24 : decode cX7_setKind 24 = .ok (.ifCond .lt 9, 3) := by decide +kernel
theorem dX7_setKind_27 : decode cX7_setKind 27 = .ok (.iload_n 2, 1) := by decide +kernel
theorem dX7_setKind_28 : decode cX7_setKind 28 = .ok (.bipush 9, 2) := by decide +kernel
theorem dX7_setKind_30 : decode cX7_setKind 30 = .ok (.if_icmp .lt 13, 3) := by decide +kernel
theorem dX7_setKind_33 : decode cX7_setKind 33 = .ok (.new 73, 3) := by decide +kernel
theorem dX7_setKind_36 : decode cX7_setKind 36 = .ok (.dup, 1) := by decide +kernel
theorem dX7_setKind_37 : decode cX7_setKind 37 = .ok (.ldc 255, 2) := by decide +kernel
theorem dX7_setKind_39 : decode cX7_setKind 39 = .ok (.invokespecial 77, 3) := by decide +kernel
theorem dX7_setKind_42 : decode cX7_setKind 42 = .ok (.athrow, 1) := by decide +kernel
theorem dX7_setKind_43 : decode cX7_setKind 43 = .ok (.aload_n 0, 1) := by decide +kernel
theorem dX7_setKind_44 : decode cX7_setKind 44 = .ok (.getfield 19, 3) := by decide +kernel
theorem dX7_setKind_47 : decode cX7_setKind 47 = .ok (.getfield 97, 3) := by decide +kernel
theorem dX7_setKind_50 : decode cX7_setKind 50 = .ok (.getfield 155, 3) := by decide +kernel
theorem dX7_setKind_53 : decode cX7_setKind 53 = .ok (.iload_n 1, 1) := by decide +kernel
theorem dX7_setKind_54 : decode cX7_setKind 54 = .ok (.iaload, 1) := by decide +kernel
theorem dX7_setKind_55 : decode cX7_setKind 55 = .ok (.istore 4, 2) := by decide +kernel
theorem dX7_setKind_57 : decode cX7_setKind 57 = .ok (.iload 4, 2) := by decide +kernel
theorem dX7_setKind_59 : decode cX7_setKind 59 = .ok (.getstatic 257, 3) := by decide +kernel
theorem dX7_setKind_62 : decode cX7_setKind 62 = .ok (.iload_n 2, 1) := by decide +kernel
theorem dX7_setKind_63 : decode cX7_setKind 63 = .ok (.iaload, 1) := by decide +kernel
theorem dX7_setKind_64 : decode cX7_setKind 64 = .ok (.if_icmp .lt 13, 3) := by decide +kernel
theorem dX7_setKind_67 : decode cX7_setKind 67 = .ok (.iload 4, 2) := by decide +kernel
theorem dX7_setKind_69 : decode cX7_setKind 69 = .ok (.getstatic 260, 3) := by decide +kernel
theorem dX7_setKind_72 : decode cX7_setKind 72 = .ok (.iload_n 2, 1) := by decide +kernel
theorem dX7_setKind_73 : decode cX7_setKind 73 = .ok (.iaload, 1) := by decide +kernel
theorem dX7_setKind_74 : decode cX7_setKind 74 = .ok (.if_icmp .le 14, 3) := by decide +kernel
theorem dX7_setKind_77 : decode cX7_setKind 77 = .ok (.new 73, 3) := by decide +kernel
theorem dX7_setKind_80 : decode cX7_setKind 80 = .ok (.dup, 1) := by decide +kernel
theorem dX7_setKind_81 : decode cX7_setKind 81 = .ok (.ldc_w 263, 3) := by decide +kernel
theorem dX7_setKind_84 : decode cX7_setKind 84 = .ok (.invokespecial 77, 3) := by decide +kernel
theorem dX7_setKind_87 : decode cX7_setKind 87 = .ok (.athrow, 1) := by decide +kernel
theorem dX7_setKind_88 : decode cX7_setKind 88 = .ok (.aload_n 0, 1) := by decide +kernel
theorem dX7_setKind_89 : decode cX7_setKind 89 = .ok (.getfield 26, 3) := by decide +kernel
theorem dX7_setKind_92 : decode cX7_setKind 92 = .ok (.aload_n 0, 1) := by decide +kernel
theorem dX7_setKind_93 : decode cX7_setKind 93 = .ok (.getfield 19, 3) := by decide +kernel
theorem dX7_setKind_96 : decode cX7_setKind 96 = .ok (.invokevirtual 84, 3) := by decide +kernel
theorem dX7_setKind_99 : decode cX7_setKind 99 = .ok (.aload_n 0, 1) := by decide +kernel
theorem dX7_setKind_100 : decode cX7_setKind 100 = .ok (.getfield 19, 3) := by decide +kernel
theorem dX7_setKind_103 : decode cX7_setKind 103 = .ok (.getfield 97, 3) := by decide +kernel
theorem dX7_setKind_106 : decode cX7_setKind 106 = .ok (.getfield 152, 3) := by decide +kernel
theorem dX7_setKind_109 : decode cX7_setKind 109 = .ok (.iload_n 1, 1) := by decide +kernel
theorem dX7_setKind_110 : decode cX7_setKind 110 = .ok (.iload_n 2, 1) := by decide +kernel
theorem dX7_setKind_111 : decode cX7_setKind 111 = .ok (.iastore, 1) := by decide +kernel
theorem dX7_setKind_112 : decode cX7_setKind 112 = .ok (.aload_n 0, 1) := by decide +kernel
theorem dX7_setKind_113 : decode cX7_setKind 113 = .ok (.invokevirtual 94, 3) := by decide +kernel
theorem dX7_setKind_116 : decode cX7_setKind 116 = .ok (.iload_n 3, 1) := by decide +kernel
theorem dX7_setKind_117 : decode cX7_setKind 117 = .ok (.ireturn, 1) := by decide +kernel
set_option maxRecDepth 20000 in
theorem ggX7_see_X7_checkTest : GoodIn wsX7_see wsX7_checkTest := goodIn_ca (goodIn_r _ [14, 1, 2, 5, 9, 15, 161, 162, 163, 164, 165, 166, 167, 168, 169, 170, 171, 172, 173, 174, 189, 190, 191, 192, 193] (by decide +kernel) (by decide +kernel)) (goodIn_sub (fun _ h => List.mem_cons_of_mem _ (List.mem_append_left _ (List.mem_append_right _ h))) (by decide +kernel))
set_option maxRecDepth 20000 in
theorem gX7_see_X7_checkTest : GoodIn wsX7_see (wsV RX7 174 RX7 yX7_checkTest wsX7_checkTest) := goodIn_app (goodIn_of _ (by decide +kernel)) ggX7_see_X7_checkTest
set_option maxRecDepth 20000 in
theorem ggX7_see_X1_push : GoodIn wsX7_see wsX1_push := goodIn_r _ [20, 21, 22, 23, 24, 25, 26, 27, 28, 29, 30, 31, 32, 33, 34, 35, 36, 37, 38, 39, 40, 41, 42, 43, 44, 45, 46, 47, 48, 49, 50, 51, 52, 53, 54, 55, 56, 57, 58, 59, 60, 61, 62, 63, 64, 65, 66, 67, 68, 194, 195, 196, 173, 174, 175, 176, 177, 178, 179, 180, 181, 182, 183, 184, 185, 186, 187, 188, 189, 190, 191, 192, 193] (by decide +kernel) (by decide +kernel)
set_option maxRecDepth 20000 in
theorem gX7_see_X1_push : GoodIn wsX7_see (wsV RX7 84 RX1 yX1_push wsX1_push) := goodIn_app (goodIn_of _ (by decide +kernel)) ggX7_see_X1_push
set_option maxRecDepth 20000 in
theorem ggX7_see_X6_note : GoodIn wsX7_see wsX6_note := goodIn_r _ [72, 67, 68, 189, 190, 191, 192, 193] (by decide +kernel) (by decide +kernel)
set_option maxRecDepth 20000 in
theorem gX7_see_X6_note : GoodIn wsX7_see (wsV RX7 272 RX6 yX6_note wsX6_note) := goodIn_app (goodIn_of _ (by decide +kernel)) ggX7_see_X6_note
set_option maxRecDepth 20000 in
theorem ggX7_see_X7_listFitting : GoodIn wsX7_see wsX7_listFitting := goodIn_r _ [76, 5, 6, 77, 78, 79, 80, 13, 81, 82, 83, 84, 85, 9, 86, 87, 88, 89, 90, 91, 92, 93, 94, 95, 96, 97, 38, 98, 99, 100, 101, 102, 103, 104, 105, 106, 107, 108, 109, 41, 43, 110, 111, 112, 113, 114, 115, 116, 117, 118, 119, 120, 121, 122, 123, 124, 125, 126, 127, 128, 129, 130, 131, 132, 133, 134, 135, 136, 137, 138, 139, 140, 141, 142, 143, 144, 145, 146, 147, 148, 149, 150, 151, 152, 153, 154, 155, 7, 156, 157, 158, 159, 160, 161, 162, 163, 164, 165, 166, 167, 168, 169, 170, 171, 172, 173, 174, 197, 198, 199, 200, 201, 175, 176, 177, 178, 179, 180, 181, 182, 183, 184, 185, 186, 187, 188, 202, 203, 189, 190, 191, 192, 193] (by decide +kernel) (by decide +kernel)
set_option maxRecDepth 20000 in
theorem gX7_see_X7_listFitting : GoodIn wsX7_see (wsV RX7 229 RX7 yX7_listFitting wsX7_listFitting) := goodIn_app (goodIn_of _ (by decide +kernel)) ggX7_see_X7_listFitting
theorem dX7_see_0 : decode cX7_see 0 = .ok (.aload_n 0, 1) := by decide +kernel
theorem dX7_see_1 : decode cX7_see 1 = .ok (.iload_n 1, 1) := by decide +kernel
theorem dX7_see_2 : decode cX7_see 2 = .ok (.invokevirtual 174, 3) := by decide +kernel
theorem dX7_see_5 : decode cX7_see 5 = .ok (.iload_n 2, 1) := by decide +kernel
theorem dX7_see_6 : decode cX7_see 6 = .ok (.ifCond .lt 17, 3) := by decide +kernel
theorem dX7_see_9 : decode cX7_see 9 = .ok (.iload_n 2, 1) := by decide +kernel
theorem dX7_see_10 : decode cX7_see 10 = .ok (.aload_n 0, 1) := by decide +kernel
theorem dX7_see_11 : decode cX7_see 11 = .ok (.getfield 19, 3) := by decide +kernel
theorem dX7_see_14 : decode cX7_see 14 = .ok (.getfield 97, 3) := by decide +kernel
theorem dX7_see_17 : decode cX7_see 17 = .ok (.getfield 112, 3) := by decide +kernel
theorem dX7_see_20 : decode cX7_see 20 = .ok (.if_icmp .lt 14, 3) := by decide +kernel
theorem dX7_see_23 : decode cX7_see 23 = .ok (.new 265, 3) := by decide +kernel
theorem dX7_see_26 : decode cX7_see 26 = .ok (.dup, 1) := by decide +kernel
theorem dX7_see_27 : decode cX7_see 27 = .ok (.ldc_w 267, 3) := by decide +kernel
theorem dX7_see_30 : decode cX7_see 30 = .ok (.invokespecial 269, 3) := by decide +kernel
theorem dX7_see_33 : decode cX7_see 33 = .ok (.athrow, 1) := by decide +kernel
theorem dX7_see_34 : decode cX7_see 34 = .ok (.iload_n 3, 1) := by decide +kernel
theorem dX7_see_35 : decode cX7_see 35 = .ok (.ifCond .lt 8, 3) := by decide +kernel
theorem dX7_see_38 : decode cX7_see 38 = .ok (.iload_n 3, 1) := by decide +kernel
theorem dX7_see_39 : decode cX7_see 39 = .ok (.iconst 2, 1) := by decide +kernel
theorem dX7_see_40 : decode cX7_see 40 = .ok (.if_icmp .le 14, 3) := by decide +kernel
theorem dX7_see_43 : decode cX7_see 43 = .ok (.new 73, 3) := by decide +kernel
theorem dX7_see_46 : decode cX7_see 46 = .ok (.dup, 1) := by decide +kernel
theorem dX7_see_47 : decode cX7_see 47 = .ok (.ldc_w 270, 3) := by decide +kernel
theorem dX7_see_50 : decode cX7_see 50 = .ok (.invokespecial 77, 3) := by decide +kernel
theorem dX7_see_53 : decode cX7_see 53 = .ok (.athrow, 1) := by decide +kernel
theorem dX7_see_54 : decode cX7_see 54 = .ok (.aload_n 0, 1) := by decide +kernel
theorem dX7_see_55 : decode cX7_see 55 = .ok (.getfield 26, 3) := by decide +kernel
theorem dX7_see_58 : decode cX7_see 58 = .ok (.aload_n 0, 1) := by decide +kernel
theorem dX7_see_59 : decode cX7_see 59 = .ok (.getfield 19, 3) := by decide +kernel
theorem dX7_see_62 : decode cX7_see 62 = .ok (.invokevirtual 84, 3) := by decide +kernel
theorem dX7_see_65 : decode cX7_see 65 = .ok (.aload_n 0, 1) := by decide +kernel
theorem dX7_see_66 : decode cX7_see 66 = .ok (.getfield 19, 3) := by decide +kernel
theorem dX7_see_69 : decode cX7_see 69 = .ok (.getfield 122, 3) := by decide +kernel
theorem dX7_see_72 : decode cX7_see 72 = .ok (.iload_n 1, 1) := by decide +kernel
theorem dX7_see_73 : decode cX7_see 73 = .ok (.iload_n 2, 1) := by decide +kernel
theorem dX7_see_74 : decode cX7_see 74 = .ok (.iload_n 3, 1) := by decide +kernel
theorem dX7_see_75 : decode cX7_see 75 = .ok (.invokevirtual 272, 3) := by decide +kernel
theorem dX7_see_78 : decode cX7_see 78 = .ok (.aload_n 0, 1) := by decide +kernel
theorem dX7_see_79 : decode cX7_see 79 = .ok (.invokevirtual 229, 3) := by decide +kernel
theorem dX7_see_82 : decode cX7_see 82 = .ok (.ireturn, 1) := by decide +kernel
set_option maxRecDepth 20000 in
theorem ggX7_forget_X1_push : GoodIn wsX7_forget wsX1_push := goodIn_r _ [8, 9, 10, 11, 12, 13, 14, 15, 16, 17, 18, 19, 20, 21, 22, 23, 24, 25, 26, 27, 28, 29, 30, 31, 32, 33, 34, 35, 36, 37, 38, 39, 40, 41, 42, 43, 44, 45, 46, 47, 48, 49, 50, 51, 52, 53, 54, 55, 56, 86, 87, 88, 84, 85, 89, 90, 91, 92, 93, 94, 95, 96, 97, 98, 99, 100, 101, 102, 103, 104, 105, 106, 107] (by decide +kernel) (by decide +kernel)
set_option maxRecDepth 20000 in
theorem gX7_forget_X1_push : GoodIn wsX7_forget (wsV RX7 84 RX1 yX1_push wsX1_push) := goodIn_app (goodIn_of _ (by decide +kernel)) ggX7_forget_X1_push
set_option maxRecDepth 20000 in
theorem ggX7_forget_X6_countSeen : GoodIn wsX7_forget wsX6_countSeen := goodIn_r _ [60, 55, 56, 61, 62, 63, 64, 65, 66, 67, 103, 104, 105, 106, 107] (by decide +kernel) (by decide +kernel)
set_option maxRecDepth 20000 in
theorem gX7_forget_X6_countSeen : GoodIn wsX7_forget (wsV RX7 131 RX6 yX6_countSeen wsX6_countSeen) := goodIn_app (goodIn_of _ (by decide +kernel)) ggX7_forget_X6_countSeen
set_option maxRecDepth 20000 in
theorem ggX7_forget_X6_clearSeen : GoodIn wsX7_forget wsX6_clearSeen := goodIn_r _ [71, 55, 56, 103, 104, 105, 106, 107] (by decide +kernel) (by decide +kernel)
set_option maxRecDepth 20000 in
theorem gX7_forget_X6_clearSeen : GoodIn wsX7_forget (wsV RX7 276 RX6 yX6_clearSeen wsX6_clearSeen) := goodIn_app (goodIn_of _ (by decide +kernel)) ggX7_forget_X6_clearSeen
theorem dX7_forget_0 : decode cX7_forget 0 = .ok (.aload_n 0, 1) := by decide +kernel
theorem dX7_forget_1 : decode cX7_forget 1 = .ok (.getfield 26, 3) := by decide +kernel
theorem dX7_forget_4 : decode cX7_forget 4 = .ok (.aload_n 0, 1) := by decide +kernel
theorem dX7_forget_5 : decode cX7_forget 5 = .ok (.getfield 19, 3) := by decide +kernel
theorem dX7_forget_8 : decode cX7_forget 8 = .ok (.invokevirtual 84, 3) := by decide +kernel
theorem dX7_forget_11 : decode cX7_forget 11 = .ok (.aload_n 0, 1) := by decide +kernel
theorem dX7_forget_12 : decode cX7_forget 12 = .ok (.getfield 19, 3) := by decide +kernel
theorem dX7_forget_15 : decode cX7_forget 15 = .ok (.getfield 122, 3) := by decide +kernel
theorem dX7_forget_18 : decode cX7_forget 18 = .ok (.invokevirtual 131, 3) := by decide +kernel
theorem dX7_forget_21 : decode cX7_forget 21 = .ok (.istore_n 1, 1) := by decide +kernel
theorem dX7_forget_22 : decode cX7_forget 22 = .ok (.aload_n 0, 1) := by decide +kernel
theorem dX7_forget_23 : decode cX7_forget 23 = .ok (.getfield 19, 3) := by decide +kernel
theorem dX7_forget_26 : decode cX7_forget 26 = .ok (.getfield 122, 3) := by decide +kernel
theorem dX7_forget_29 : decode cX7_forget 29 = .ok (.invokevirtual 276, 3) := by decide +kernel
theorem dX7_forget_32 : decode cX7_forget 32 = .ok (.iload_n 1, 1) := by decide +kernel
theorem dX7_forget_33 : decode cX7_forget 33 = .ok (.ireturn, 1) := by decide +kernel
set_option maxRecDepth 20000 in
theorem ggX7_complete_X1_push : GoodIn wsX7_complete wsX1_push := goodIn_r _ [12, 13, 14, 15, 16, 17, 18, 19, 20, 21, 22, 23, 24, 25, 26, 27, 28, 29, 30, 31, 32, 33, 34, 35, 36, 37, 38, 39, 40, 41, 42, 43, 44, 45, 46, 47, 48, 49, 50, 51, 52, 53, 54, 55, 56, 57, 58, 59, 60, 202, 203, 204, 195, 196, 205, 206, 207, 208, 209, 210, 211, 212, 213, 214, 215, 216, 217, 218, 197, 198, 199, 200, 201] (by decide +kernel) (by decide +kernel)
set_option maxRecDepth 20000 in
theorem gX7_complete_X1_push : GoodIn wsX7_complete (wsV RX7 84 RX1 yX1_push wsX1_push) := goodIn_app (goodIn_of _ (by decide +kernel)) ggX7_complete_X1_push
set_option maxRecDepth 20000 in
theorem ggX7_complete_X7_listFoundByTests : GoodIn wsX7_complete wsX7_listFoundByTests := goodIn_r _ [65, 66, 2, 4, 5, 67, 68, 69, 70, 64, 71, 7, 72, 73, 74, 75, 76, 77, 78, 79, 80, 81, 82, 83, 84, 85, 86, 30, 87, 88, 89, 90, 91, 92, 93, 94, 95, 96, 97, 98, 33, 35, 99, 100, 101, 102, 103, 104, 105, 106, 107, 108, 109, 110, 111, 112, 113, 114, 115, 116, 117, 118, 119, 120, 121, 122, 123, 124, 125, 126, 127, 128, 129, 130, 131, 132, 133, 134, 135, 136, 137, 138, 139, 140, 141, 142, 143, 144, 17, 18, 19, 145, 146, 147, 148, 149, 183, 184, 185, 186, 187, 188, 189, 190, 191, 192, 193, 194, 195, 196, 197, 198, 199, 200, 201, 219, 220, 221, 222, 223, 205, 206, 207, 208, 209, 210, 211, 212, 213, 214, 215, 216, 217, 218, 224, 225] (by decide +kernel) (by decide +kernel)
set_option maxRecDepth 20000 in
theorem gX7_complete_X7_listFoundByTests : GoodIn wsX7_complete (wsV RX7 134 RX7 yX7_listFoundByTests wsX7_listFoundByTests) := goodIn_app (goodIn_of _ (by decide +kernel)) ggX7_complete_X7_listFoundByTests
set_option maxRecDepth 20000 in
theorem ggX7_complete_X7_listFoundByFull : GoodIn wsX7_complete wsX7_listFoundByFull := goodIn_r _ [153, 154, 2, 73, 74, 6, 155, 156, 157, 64, 158, 159, 72, 160, 161, 162, 30, 163, 32, 164, 165, 166, 78, 167, 81, 136, 80, 85, 86, 87, 88, 89, 90, 91, 92, 93, 94, 95, 96, 97, 98, 33, 35, 99, 100, 101, 102, 103, 104, 105, 106, 107, 108, 109, 110, 111, 112, 113, 114, 115, 116, 117, 118, 119, 120, 121, 122, 123, 124, 125, 126, 127, 128, 129, 130, 131, 132, 133, 134, 135, 137, 138, 139, 140, 141, 142, 143, 144, 17, 18, 19, 145, 146, 147, 148, 149, 183, 184, 185, 186, 187, 188, 189, 190, 191, 192, 193, 194, 195, 196, 205, 206, 207, 208, 209, 210, 211, 212, 213, 214, 215, 216, 217, 218, 219, 220, 221, 222, 223, 224, 225] (by decide +kernel) (by decide +kernel)
set_option maxRecDepth 20000 in
theorem gX7_complete_X7_listFoundByFull : GoodIn wsX7_complete (wsV RX7 281 RX7 yX7_listFoundByFull wsX7_listFoundByFull) := goodIn_app (goodIn_of _ (by decide +kernel)) ggX7_complete_X7_listFoundByFull
set_option maxRecDepth 20000 in
theorem ggX7_complete_X7_bestFullTest : GoodIn wsX7_complete wsX7_bestFullTest := goodIn_r _ [171, 2, 73, 74, 6, 172, 173, 174, 175, 176, 177, 178, 183, 184, 185, 186, 187, 188, 189, 190, 191, 192, 193, 194, 195, 196, 205, 206, 207, 208, 209, 210, 211, 212, 213, 214, 215, 216, 217, 218] (by decide +kernel) (by decide +kernel)
set_option maxRecDepth 20000 in
theorem gX7_complete_X7_bestFullTest : GoodIn wsX7_complete (wsV RX7 284 RX7 yX7_bestFullTest wsX7_bestFullTest) := goodIn_app (goodIn_of _ (by decide +kernel)) ggX7_complete_X7_bestFullTest
set_option maxRecDepth 20000 in
theorem ggX7_complete_X6_put : GoodIn wsX7_complete wsX6_put := goodIn_r _ [182, 56, 55, 58, 197, 198, 199, 200, 201] (by decide +kernel) (by decide +kernel)
set_option maxRecDepth 20000 in
theorem gX7_complete_X6_put : GoodIn wsX7_complete (wsV RX7 248 RX6 yX6_put wsX6_put) := goodIn_app (goodIn_of _ (by decide +kernel)) ggX7_complete_X6_put
theorem dX7_complete_0 : decode cX7_complete 0 = .ok (.aload_n 0, 1) := by decide +kernel
theorem dX7_complete_1 : decode cX7_complete 1 = .ok (.getfield 26, 3) := by decide +kernel
theorem dX7_complete_4 : decode cX7_complete 4 = .ok (.aload_n 0, 1) := by decide +kernel
theorem dX7_complete_5 : decode cX7_complete 5 = .ok (.getfield 19, 3) := by decide +kernel
theorem dX7_complete_8 : decode cX7_complete 8 = .ok (.invokevirtual 84, 3) := by decide +kernel
theorem dX7_complete_11 : decode cX7_complete 11 = .ok (.aload_n 0, 1) := by decide +kernel
theorem dX7_complete_12 : decode cX7_complete 12 = .ok (.invokevirtual 134, 3) := by decide +kernel
theorem dX7_complete_15 : decode cX7_complete 15 = .ok (.ldc2_w 279, 3) := by decide +kernel
theorem dX7_complete_18 : decode cX7_complete 18 = .ok (.lxor, 1) := by decide +kernel
theorem dX7_complete_19 : decode cX7_complete 19 = .ok (.lstore_n 1, 1) := by decide +kernel
theorem dX7_complete_20 : decode cX7_complete 20 = .ok (.aload_n 0, 1) := by decide +kernel
theorem dX7_complete_21 : decode cX7_complete 21 = .ok (.invokevirtual 281, 3) := by decide +kernel
theorem dX7_complete_24 : decode cX7_complete 24 = .ok (.iconst 0, 1) := by decide +kernel
theorem dX7_complete_25 : decode cX7_complete 25 = .ok (.istore_n 3, 1) := by decide +kernel
theorem dX7_complete_26 : decode cX7_complete 26 = .ok (.iconst 0, 1) := by decide +kernel
theorem dX7_complete_27 : decode cX7_complete 27 = .ok (.istore 4, 2) := by decide +kernel
theorem dX7_complete_29 : decode cX7_complete 29 = .ok (.iload 4, 2) := by decide +kernel
theorem dX7_complete_31 : decode cX7_complete 31 = .ok (.bipush 16, 2) := by decide +kernel
theorem dX7_complete_33 : decode cX7_complete 33 = .ok (.if_icmp .ge 69, 3) := by decide +kernel
theorem dX7_complete_36 : decode cX7_complete 36 = .ok (.aload_n 0, 1) := by decide +kernel
theorem dX7_complete_37 : decode cX7_complete 37 = .ok (.getfield 19, 3) := by decide +kernel
theorem dX7_complete_40 : decode cX7_complete 40 = .ok (.getfield 122, 3) := by decide +kernel
theorem dX7_complete_43 : decode cX7_complete 43 = .ok (.getfield 126, 3) := by decide +kernel
theorem dX7_complete_46 : decode cX7_complete 46 = .ok (.bipush 16, 2) := by decide +kernel
theorem dX7_complete_48 : decode cX7_complete 48 = .ok (.if_icmp .ge 54, 3) := by decide +kernel
theorem dX7_complete_51 : decode cX7_complete 51 = .ok (.aload_n 0, 1) := by decide +kernel
theorem dX7_complete_52 : decode cX7_complete 52 = .ok (.lload_n 1, 1) := by decide +kernel
theorem dX7_complete_53 : decode cX7_complete 53 = .ok (.invokevirtual 284, 3) := by decide +kernel
theorem dX7_complete_56 : decode cX7_complete 56 = .ok (.istore 5, 2) := by decide +kernel
theorem dX7_complete_58 : decode cX7_complete 58 = .ok (.iload 5, 2) := by decide +kernel
theorem dX7_complete_60 : decode cX7_complete 60 = .ok (.ifCond .ge 6, 3) := by decide +kernel
theorem dX7_complete_63 : decode cX7_complete 63 = .ok (.goto 39, 3) := by decide +kernel
theorem dX7_complete_66 : decode cX7_complete 66 = .ok (.aload_n 0, 1) := by decide +kernel
theorem dX7_complete_67 : decode cX7_complete 67 = .ok (.getfield 19, 3) := by decide +kernel
theorem dX7_complete_70 : decode cX7_complete 70 = .ok (.getfield 122, 3) := by decide +kernel
theorem dX7_complete_73 : decode cX7_complete 73 = .ok (.iload 5, 2) := by decide +kernel
theorem dX7_complete_75 : decode cX7_complete 75 = .ok (.iconst 0, 1) := by decide +kernel
theorem dX7_complete_76 : decode cX7_complete 76 = .ok (.invokevirtual 248, 3) := by decide +kernel
theorem dX7_complete_79 : decode cX7_complete 79 = .ok (.lload_n 1, 1) := by decide +kernel
theorem dX7_complete_80 : decode cX7_complete 80 = .ok (.aload_n 0, 1) := by decide +kernel
theorem dX7_complete_81 : decode cX7_complete 81 = .ok (.getfield 63, 3) := by decide +kernel
theorem dX7_complete_84 : decode cX7_complete 84 = .ok (.iload 5, 2) := by decide +kernel
theorem dX7_complete_86 : decode cX7_complete 86 = .ok (.laload, 1) := by decide +kernel
theorem dX7_complete_87 : decode cX7_complete 87 = .ok (.ldc2_w 279, 3) := by decide +kernel
theorem dX7_complete_90 : decode cX7_complete 90 = .ok (.lxor, 1) := by decide +kernel
theorem dX7_complete_91 : decode cX7_complete 91 = .ok (.land, 1) := by decide +kernel
theorem dX7_complete_92 : decode cX7_complete 92 = .ok (.lstore_n 1, 1) := by decide +kernel
theorem dX7_complete_93 : decode cX7_complete 93 = .ok (.iinc 3 1, 3) := by decide +kernel
theorem dX7_complete_96 : decode cX7_complete 96 = .ok (.iinc 4 1, 3) := by decide +kernel
theorem dX7_complete_99 : decode cX7_complete 99 = .ok (.goto (-70), 3) := by decide +kernel
theorem dX7_complete_102 : decode cX7_complete 102 = .ok (.aload_n 0, 1) := by decide +kernel
theorem dX7_complete_103 : decode cX7_complete 103 = .ok (.iconst 0, 1) := by decide +kernel
theorem dX7_complete_104 : decode cX7_complete 104 = .ok (.putfield 46, 3) := by decide +kernel
theorem dX7_complete_107 : decode cX7_complete 107 = .ok (.iload_n 3, 1) := by decide +kernel
theorem dX7_complete_108 : decode cX7_complete 108 = .ok (.ireturn, 1) := by decide +kernel
set_option maxRecDepth 20000 in
theorem ggX7_undo_X1_pop : GoodIn wsX7_undo wsX1_pop := goodIn_r _ [8, 9, 10, 11, 12, 13, 14, 15, 16, 17, 18, 19, 20, 21, 22, 23, 24, 25, 26, 27, 28, 29, 30, 31, 32, 33, 34, 35, 36, 37, 38, 39, 40, 41, 42, 43, 44, 45, 46, 47, 48, 49, 50, 51, 52, 72, 73, 74, 75, 76, 77, 78, 79, 80, 81, 82, 83, 84, 85, 86, 87, 88, 89, 90, 91, 92, 93, 94, 95] (by decide +kernel) (by decide +kernel)
set_option maxRecDepth 20000 in
theorem gX7_undo_X1_pop : GoodIn wsX7_undo (wsV RX7 288 RX1 yX1_pop wsX1_pop) := goodIn_app (goodIn_of _ (by decide +kernel)) ggX7_undo_X1_pop
set_option maxRecDepth 20000 in
theorem ggX7_undo_X7_forgetRows : GoodIn wsX7_undo wsX7_forgetRows := goodIn_r _ [57, 58, 59, 60, 61, 62, 63, 64, 65, 66, 67, 68, 69, 70, 71] (by decide +kernel) (by decide +kernel)
set_option maxRecDepth 20000 in
theorem gX7_undo_X7_forgetRows : GoodIn wsX7_undo (wsV RX7 94 RX7 yX7_forgetRows wsX7_forgetRows) := goodIn_app (goodIn_of _ (by decide +kernel)) ggX7_undo_X7_forgetRows
theorem dX7_undo_0 : decode cX7_undo 0 = .ok (.aload_n 0, 1) := by decide +kernel
theorem dX7_undo_1 : decode cX7_undo 1 = .ok (.getfield 26, 3) := by decide +kernel
theorem dX7_undo_4 : decode cX7_undo 4 = .ok (.getfield 287, 3) := by decide +kernel
theorem dX7_undo_7 : decode cX7_undo 7 = .ok (.ifCond .ne 5, 3) := by decide +kernel
theorem dX7_undo_10 : decode cX7_undo 10 = .ok (.iconst (-1), 1) := by decide +kernel
theorem dX7_undo_11 : decode cX7_undo 11 = .ok (.ireturn, 1) := by decide +kernel
theorem dX7_undo_12 : decode cX7_undo 12 = .ok (.aload_n 0, 1) := by decide +kernel
theorem dX7_undo_13 : decode cX7_undo 13 = .ok (.getfield 26, 3) := by decide +kernel
theorem dX7_undo_16 : decode cX7_undo 16 = .ok (.aload_n 0, 1) := by decide +kernel
theorem dX7_undo_17 : decode cX7_undo 17 = .ok (.getfield 19, 3) := by decide +kernel
theorem dX7_undo_20 : decode cX7_undo 20 = .ok (.invokevirtual 288, 3) := by decide +kernel
theorem dX7_undo_23 : decode cX7_undo 23 = .ok (.aload_n 0, 1) := by decide +kernel
theorem dX7_undo_24 : decode cX7_undo 24 = .ok (.invokevirtual 94, 3) := by decide +kernel
theorem dX7_undo_27 : decode cX7_undo 27 = .ok (.aload_n 0, 1) := by decide +kernel
theorem dX7_undo_28 : decode cX7_undo 28 = .ok (.getfield 26, 3) := by decide +kernel
theorem dX7_undo_31 : decode cX7_undo 31 = .ok (.getfield 287, 3) := by decide +kernel
theorem dX7_undo_34 : decode cX7_undo 34 = .ok (.ireturn, 1) := by decide +kernel
set_option maxRecDepth 20000 in
theorem ggX7_checksum_X7_state : GoodIn wsX7_checksum wsX7_state := goodIn_ca (goodIn_r _ [6, 7, 8, 9, 10, 11, 12, 13, 14, 15, 16, 17, 18, 19, 20, 21, 22, 23, 24, 25, 26, 27, 28, 29, 30, 31, 32, 33, 34, 35, 36, 37, 38, 39, 40, 5, 41, 42, 43, 44, 45, 46, 47, 48, 49, 50, 51, 52, 53, 54, 55, 56, 57, 58, 59, 60, 61, 62, 63, 64, 65, 66, 67, 68, 69, 70, 71, 72, 73, 74, 75, 76, 77, 78, 79, 80, 81, 82, 83, 84, 85, 86, 87, 88, 89, 90, 91, 92, 93, 94, 95, 96, 97, 98, 99, 100, 101, 102, 103, 104, 105, 106, 107, 108, 109, 110, 111, 112, 113, 114, 115, 116, 117, 118, 119, 120, 121, 122, 123, 124, 125, 126, 127, 128, 129, 130, 131, 132, 133, 134, 135, 136, 137, 138, 193, 194, 195, 196, 197, 198, 199, 200, 201, 202, 203, 204, 205, 206, 207, 208, 209, 210, 211, 212, 213, 214, 215, 216, 217, 218, 219, 220, 221, 222, 223, 224, 225, 226, 227, 228, 229, 230, 231, 232] (by decide +kernel) (by decide +kernel)) (goodIn_sub (fun _ h => List.mem_cons_of_mem _ (List.mem_append_left _ (List.mem_append_right _ h))) (by decide +kernel))
set_option maxRecDepth 20000 in
theorem gX7_checksum_X7_state : GoodIn wsX7_checksum (wsV RX7 293 RX7 yX7_state wsX7_state) := goodIn_app (goodIn_of _ (by decide +kernel)) ggX7_checksum_X7_state
set_option maxRecDepth 20000 in
theorem ggX7_checksum_X7_checksumOfWires : GoodIn wsX7_checksum wsX7_checksumOfWires := goodIn_ca (goodIn_ca (goodIn_r _ [142, 9, 10, 12, 1, 143, 144, 145, 146, 147, 5, 148, 7, 8, 149, 150, 151, 152, 153, 154, 155, 156, 157, 158, 159, 160, 20, 161, 162, 163, 193, 194, 195, 196, 197, 198, 199, 200, 201, 202, 203, 204, 205, 206, 207, 208, 209, 210, 211, 212, 213, 214, 215, 216, 217, 218, 219, 220] (by decide +kernel) (by decide +kernel)) (goodIn_sub (fun _ h => List.mem_cons_of_mem _ (List.mem_append_left _ (List.mem_append_right _ h))) (by decide +kernel))) (goodIn_sub (fun _ h => List.mem_cons_of_mem _ (List.mem_append_right _ h)) (by decide +kernel))
set_option maxRecDepth 20000 in
theorem gX7_checksum_X7_checksumOfWires : GoodIn wsX7_checksum (wsV RX7 296 RX7 yX7_checksumOfWires wsX7_checksumOfWires) := goodIn_app (goodIn_of _ (by decide +kernel)) ggX7_checksum_X7_checksumOfWires
set_option maxRecDepth 20000 in
theorem ggX7_checksum_X7_checksumOfTests : GoodIn wsX7_checksum wsX7_checksumOfTests := goodIn_r _ [167, 9, 15, 16, 10, 12, 1, 42, 49, 13, 43, 38, 39, 40, 5, 41, 44, 45, 46, 47, 48, 11, 50, 51, 52, 53, 54, 55, 56, 57, 58, 59, 60, 61, 20, 62, 63, 64, 65, 66, 67, 68, 69, 70, 18, 19, 21, 22, 23, 71, 72, 73, 74, 75, 76, 77, 78, 79, 80, 81, 82, 83, 84, 85, 86, 87, 88, 89, 90, 91, 92, 93, 94, 95, 96, 97, 98, 99, 100, 101, 102, 103, 104, 105, 106, 107, 108, 109, 110, 111, 112, 113, 114, 115, 116, 117, 118, 119, 17, 120, 121, 122, 123, 168, 169, 170, 171, 172, 173, 174, 175, 176, 27, 177, 29, 30, 178, 124, 125, 126, 127, 128, 129, 130, 193, 194, 195, 196, 197, 198, 199, 200, 201, 202, 203, 204, 205, 206, 221, 222, 223, 224, 225, 207, 208, 209, 210, 211, 212, 213, 214, 215, 216, 217, 218, 219, 220, 226, 227, 228, 229, 230, 231, 232] (by decide +kernel) (by decide +kernel)
set_option maxRecDepth 20000 in
theorem gX7_checksum_X7_checksumOfTests : GoodIn wsX7_checksum (wsV RX7 300 RX7 yX7_checksumOfTests wsX7_checksumOfTests) := goodIn_app (goodIn_of _ (by decide +kernel)) ggX7_checksum_X7_checksumOfTests
set_option maxRecDepth 20000 in
theorem ggX7_checksum_X7_listFitting : GoodIn wsX7_checksum wsX7_listFitting := goodIn_r _ [182, 9, 10, 183, 44, 45, 46, 5, 47, 48, 42, 49, 11, 15, 50, 51, 52, 53, 54, 55, 56, 57, 58, 59, 60, 61, 20, 62, 63, 64, 65, 66, 67, 68, 69, 70, 18, 19, 21, 22, 23, 71, 72, 73, 74, 75, 76, 77, 78, 79, 80, 81, 82, 83, 84, 85, 86, 87, 88, 89, 90, 91, 92, 93, 94, 95, 96, 97, 98, 99, 100, 101, 102, 103, 104, 105, 106, 107, 108, 109, 110, 111, 17, 184, 185, 186, 187, 13, 188, 189, 190, 191, 192, 193, 194, 195, 196, 197, 198, 199, 200, 201, 202, 203, 204, 205, 206, 226, 227, 228, 229, 230, 207, 208, 209, 210, 211, 212, 213, 214, 215, 216, 217, 218, 219, 220, 231, 232, 221, 222, 223, 224, 225] (by decide +kernel) (by decide +kernel)
set_option maxRecDepth 20000 in
theorem gX7_checksum_X7_listFitting : GoodIn wsX7_checksum (wsV RX7 229 RX7 yX7_listFitting wsX7_listFitting) := goodIn_app (goodIn_of _ (by decide +kernel)) ggX7_checksum_X7_listFitting
theorem dX7_checksum_0 : decode cX7_checksum 0 = .ok (.lconst 0, 1) := by decide +kernel
theorem dX7_checksum_1 : decode cX7_checksum 1 = .ok (.lstore_n 1, 1) := by decide +kernel
theorem dX7_checksum_2 : decode cX7_checksum 2 = .ok (.iconst 0, 1) := by decide +kernel
theorem dX7_checksum_3 : decode cX7_checksum 3 = .ok (.istore_n 3, 1) := by decide +kernel
theorem dX7_checksum_4 : decode cX7_checksum 4 = .ok (.iload_n 3, 1) := by decide +kernel
theorem dX7_checksum_5 : decode cX7_checksum 5 = .ok (.bipush 8, 2) := by decide +kernel
theorem dX7_checksum_7 : decode cX7_checksum 7 = .ok (.if_icmp .gt 22, 3) := by decide +kernel
theorem dX7_checksum_10 : decode cX7_checksum 10 = .ok (.ldc2_w 291, 3) := by decide +kernel
theorem dX7_checksum_13 : decode cX7_checksum 13 = .ok (.lload_n 1, 1) := by decide +kernel
theorem dX7_checksum_14 : decode cX7_checksum 14 = .ok (.lmul, 1) := by decide +kernel
theorem dX7_checksum_15 : decode cX7_checksum 15 = .ok (.aload_n 0, 1) := by decide +kernel
theorem dX7_checksum_16 : decode cX7_checksum 16 = .ok (.iload_n 3, 1) := by decide +kernel
theorem dX7_checksum_17 : decode cX7_checksum 17 = .ok (.invokevirtual 293, 3) := by decide +kernel
theorem dX7_checksum_20 : decode cX7_checksum 20 = .ok (.i2l, 1) := by decide +kernel
theorem dX7_checksum_21 : decode cX7_checksum 21 = .ok (.ladd, 1) := by decide +kernel
theorem dX7_checksum_22 : decode cX7_checksum 22 = .ok (.lstore_n 1, 1) := by decide +kernel
theorem dX7_checksum_23 : decode cX7_checksum 23 = .ok (.iinc 3 1, 3) := by decide +kernel
theorem dX7_checksum_26 : decode cX7_checksum 26 = .ok (.goto (-22), 3) := by decide +kernel
theorem dX7_checksum_29 : decode cX7_checksum 29 = .ok (.aload_n 0, 1) := by decide +kernel
theorem dX7_checksum_30 : decode cX7_checksum 30 = .ok (.lload_n 1, 1) := by decide +kernel
theorem dX7_checksum_31 : decode cX7_checksum 31 = .ok (.invokevirtual 296, 3) := by decide +kernel
theorem dX7_checksum_34 : decode cX7_checksum 34 = .ok (.lstore_n 1, 1) := by decide +kernel
theorem dX7_checksum_35 : decode cX7_checksum 35 = .ok (.aload_n 0, 1) := by decide +kernel
theorem dX7_checksum_36 : decode cX7_checksum 36 = .ok (.lload_n 1, 1) := by decide +kernel
theorem dX7_checksum_37 : decode cX7_checksum 37 = .ok (.invokevirtual 300, 3) := by decide +kernel
theorem dX7_checksum_40 : decode cX7_checksum 40 = .ok (.lstore_n 1, 1) := by decide +kernel
theorem dX7_checksum_41 : decode cX7_checksum 41 = .ok (.ldc2_w 291, 3) := by decide +kernel
theorem dX7_checksum_44 : decode cX7_checksum 44 = .ok (.lload_n 1, 1) := by decide +kernel
theorem dX7_checksum_45 : decode cX7_checksum 45 = .ok (.lmul, 1) := by decide +kernel
theorem dX7_checksum_46 : decode cX7_checksum 46 = .ok (.aload_n 0, 1) := by decide +kernel
theorem dX7_checksum_47 : decode cX7_checksum 47 = .ok (.invokevirtual 229, 3) := by decide +kernel
theorem dX7_checksum_50 : decode cX7_checksum 50 = .ok (.i2l, 1) := by decide +kernel
theorem dX7_checksum_51 : decode cX7_checksum 51 = .ok (.ladd, 1) := by decide +kernel
theorem dX7_checksum_52 : decode cX7_checksum 52 = .ok (.lreturn, 1) := by decide +kernel
set_option maxRecDepth 20000 in
theorem ggX7_checksumOfWires_X7_wire : GoodIn wsX7_checksumOfWires wsX7_wire := goodIn_ca (goodIn_ca (goodIn_r _ [11, 12, 13, 1, 2, 14, 5, 15, 16, 17, 18, 19, 10, 20, 21, 22, 3, 23, 24, 25, 26, 27, 28, 29, 30, 31, 32, 33, 34, 35, 36, 37, 38, 39, 40, 41, 42, 43, 44, 45, 46, 47, 48, 49, 50, 51, 52, 53, 54, 55, 56, 57] (by decide +kernel) (by decide +kernel)) (goodIn_sub (fun _ h => List.mem_cons_of_mem _ (List.mem_append_left _ (List.mem_append_right _ h))) (by decide +kernel))) (goodIn_sub (fun _ h => List.mem_cons_of_mem _ (List.mem_append_right _ h)) (by decide +kernel))
set_option maxRecDepth 20000 in
theorem gX7_checksumOfWires_X7_wire : GoodIn wsX7_checksumOfWires (wsV RX7 303 RX7 yX7_wire wsX7_wire) := goodIn_app (goodIn_of _ (by decide +kernel)) ggX7_checksumOfWires_X7_wire
theorem dX7_checksumOfWires_0 : decode cX7_checksumOfWires 0 = .ok (.lload_n 1, 1) := by decide +kernel
theorem dX7_checksumOfWires_1 : decode cX7_checksumOfWires 1 = .ok (.lstore_n 3, 1) := by decide +kernel
theorem dX7_checksumOfWires_2 : decode cX7_checksumOfWires 2 = .ok (.iconst 0, 1) := by decide +kernel
theorem dX7_checksumOfWires_3 : decode cX7_checksumOfWires 3 = .ok (.istore 5, 2) := by decide +kernel
theorem dX7_checksumOfWires_5 : decode cX7_checksumOfWires 5 = .ok (.iload 5, 2) := by decide +kernel
theorem dX7_checksumOfWires_7 : decode cX7_checksumOfWires 7 = .ok (.aload_n 0, 1) := by decide +kernel
theorem dX7_checksumOfWires_8 : decode cX7_checksumOfWires 8 = .ok (.getfield 19, 3) := by decide +kernel
theorem dX7_checksumOfWires_11 : decode cX7_checksumOfWires 11 = .ok (.getfield 97, 3) := by decide +kernel
theorem dX7_checksumOfWires_14 : decode cX7_checksumOfWires 14 = .ok (.getfield 101, 3) := by decide +kernel
theorem dX7_checksumOfWires_17 : decode cX7_checksumOfWires 17 = .ok (.if_icmp .ge 93, 3) := by decide +kernel
theorem dX7_checksumOfWires_20 : decode cX7_checksumOfWires 20 = .ok (.iconst 0, 1) := by decide +kernel
theorem dX7_checksumOfWires_21 : decode cX7_checksumOfWires 21 = .ok (.istore 6, 2) := by decide +kernel
theorem dX7_checksumOfWires_23 : decode cX7_checksumOfWires 23 = .ok (.iload 6, 2) := by decide +kernel
theorem dX7_checksumOfWires_25 : decode cX7_checksumOfWires 25 = .ok (.iconst 4, 1) := by decide +kernel
theorem dX7_checksumOfWires_26 : decode cX7_checksumOfWires 26 = .ok (.if_icmp .gt 25, 3) := by decide +kernel
theorem dX7_checksumOfWires_29 : decode cX7_checksumOfWires 29 = .ok (.ldc2_w 291, 3) := by decide +kernel
theorem dX7_checksumOfWires_32 : decode cX7_checksumOfWires 32 = .ok (.lload_n 3, 1) := by decide +kernel
theorem dX7_checksumOfWires_33 : decode cX7_checksumOfWires 33 = .ok (.lmul, 1) := by decide +kernel
theorem dX7_checksumOfWires_34 : decode cX7_checksumOfWires 34 = .ok (.aload_n 0, 1) := by decide +kernel
theorem dX7_checksumOfWires_35 : decode cX7_checksumOfWires 35 = .ok (.iload 5, 2) := by decide +kernel
theorem dX7_checksumOfWires_37 : decode cX7_checksumOfWires 37 = .ok (.iload 6, 2) := by decide +kernel
theorem dX7_checksumOfWires_39 : decode cX7_checksumOfWires 39 = .ok (.invokevirtual 303, 3) := by decide +kernel
theorem dX7_checksumOfWires_42 : decode cX7_checksumOfWires 42 = .ok (.i2l, 1) := by decide +kernel
theorem dX7_checksumOfWires_43 : decode cX7_checksumOfWires 43 = .ok (.ladd, 1) := by decide +kernel
theorem dX7_checksumOfWires_44 : decode cX7_checksumOfWires 44 = .ok (.lstore_n 3, 1) := by decide +kernel
theorem dX7_checksumOfWires_45 : decode cX7_checksumOfWires 45 = .ok (.iinc 6 1, 3) := by decide +kernel
theorem dX7_checksumOfWires_48 : decode cX7_checksumOfWires 48 = .ok (.goto (-25), 3) := by decide +kernel
theorem dX7_checksumOfWires_51 : decode cX7_checksumOfWires 51 = .ok (.iconst 0, 1) := by decide +kernel
theorem dX7_checksumOfWires_52 : decode cX7_checksumOfWires 52 = .ok (.istore 6, 2) := by decide +kernel
theorem dX7_checksumOfWires_54 : decode cX7_checksumOfWires 54 = .ok (.iload 6, 2) := by decide +kernel
theorem dX7_checksumOfWires_56 : decode cX7_checksumOfWires 56 = .ok (.aload_n 0, 1) := by decide +kernel
theorem dX7_checksumOfWires_57 : decode cX7_checksumOfWires 57 = .ok (.getfield 19, 3) := by decide +kernel
theorem dX7_checksumOfWires_60 : decode cX7_checksumOfWires 60 = .ok (.getfield 97, 3) := by decide +kernel
theorem dX7_checksumOfWires_63 : decode cX7_checksumOfWires 63 = .ok (.getfield 155, 3) := by decide +kernel
theorem dX7_checksumOfWires_66 : decode cX7_checksumOfWires 66 = .ok (.iload 5, 2) := by decide +kernel
theorem dX7_checksumOfWires_68 : decode cX7_checksumOfWires 68 = .ok (.iaload, 1) := by decide +kernel
theorem dX7_checksumOfWires_69 : decode cX7_checksumOfWires 69 = .ok (.if_icmp .ge 35, 3) := by decide +kernel
theorem dX7_checksumOfWires_72 : decode cX7_checksumOfWires 72 = .ok (.ldc2_w 291, 3) := by decide +kernel
theorem dX7_checksumOfWires_75 : decode cX7_checksumOfWires 75 = .ok (.lload_n 3, 1) := by decide +kernel
theorem dX7_checksumOfWires_76 : decode cX7_checksumOfWires 76 = .ok (.lmul, 1) := by decide +kernel
theorem dX7_checksumOfWires_77 : decode cX7_checksumOfWires 77 = .ok (.aload_n 0, 1) := by decide +kernel
theorem dX7_checksumOfWires_78 : decode cX7_checksumOfWires 78 = .ok (.getfield 19, 3) := by decide +kernel
theorem dX7_checksumOfWires_81 : decode cX7_checksumOfWires 81 = .ok (.getfield 97, 3) := by decide +kernel
theorem dX7_checksumOfWires_84 : decode cX7_checksumOfWires 84 = .ok (.getfield 172, 3) := by decide +kernel
theorem dX7_checksumOfWires_87 : decode cX7_checksumOfWires 87 = .ok (.iload 5, 2) := by decide +kernel
theorem dX7_checksumOfWires_89 : decode cX7_checksumOfWires 89 = .ok (.iconst 4, 1) := by decide +kernel
theorem dX7_checksumOfWires_90 : decode cX7_checksumOfWires 90 = .ok (.imul, 1) := by decide +kernel
theorem dX7_checksumOfWires_91 : decode cX7_checksumOfWires 91 = .ok (.iload 6, 2) := by decide +kernel
theorem dX7_checksumOfWires_93 : decode cX7_checksumOfWires 93 = .ok (.iadd, 1) := by decide +kernel
theorem dX7_checksumOfWires_94 : decode cX7_checksumOfWires 94 = .ok (.iaload, 1) := by decide +kernel
theorem dX7_checksumOfWires_95 : decode cX7_checksumOfWires 95 = .ok (.i2l, 1) := by decide +kernel
theorem dX7_checksumOfWires_96 : decode cX7_checksumOfWires 96 = .ok (.ladd, 1) := by decide +kernel
theorem dX7_checksumOfWires_97 : decode cX7_checksumOfWires 97 = .ok (.lstore_n 3, 1) := by decide +kernel
theorem dX7_checksumOfWires_98 : decode cX7_checksumOfWires 98 = .ok (.iinc 6 1, 3) := by decide +kernel
theorem dX7_checksumOfWires_101 : decode cX7_checksumOfWires 101 = .ok (.goto (-47), 3) := by decide +kernel
theorem dX7_checksumOfWires_104 : decode cX7_checksumOfWires 104 = .ok (.iinc 5 1, 3) := by decide +kernel
theorem dX7_checksumOfWires_107 : decode cX7_checksumOfWires 107 = .ok (.goto (-102), 3) := by decide +kernel
theorem dX7_checksumOfWires_110 : decode cX7_checksumOfWires 110 = .ok (.lload_n 3, 1) := by decide +kernel
theorem dX7_checksumOfWires_111 : decode cX7_checksumOfWires 111 = .ok (.lreturn, 1) := by decide +kernel
set_option maxRecDepth 20000 in
theorem ggX7_checksumOfTests_X7_listFoundByTests : GoodIn wsX7_checksumOfTests wsX7_listFoundByTests := goodIn_r _ [15, 7, 1, 2, 3, 10, 16, 17, 18, 14, 19, 20, 8, 4, 21, 22, 23, 24, 25, 26, 27, 28, 29, 30, 31, 32, 33, 34, 35, 36, 37, 38, 39, 40, 41, 42, 43, 44, 45, 46, 47, 48, 49, 50, 51, 52, 53, 54, 55, 56, 57, 58, 59, 60, 61, 62, 63, 64, 65, 66, 67, 68, 69, 70, 71, 72, 73, 74, 75, 76, 77, 78, 79, 80, 81, 82, 83, 84, 85, 86, 87, 88, 89, 90, 91, 92, 93, 94, 95, 96, 97, 98, 99, 100, 101, 102, 124, 125, 126, 127, 128, 129, 130, 131, 132, 133, 134, 135, 136, 137, 138, 139, 140, 141, 142, 157, 158, 159, 160, 161, 143, 144, 145, 146, 147, 148, 149, 150, 151, 152, 153, 154, 155, 156, 162, 163] (by decide +kernel) (by decide +kernel)
set_option maxRecDepth 20000 in
theorem gX7_checksumOfTests_X7_listFoundByTests : GoodIn wsX7_checksumOfTests (wsV RX7 134 RX7 yX7_listFoundByTests wsX7_listFoundByTests) := goodIn_app (goodIn_of _ (by decide +kernel)) ggX7_checksumOfTests_X7_listFoundByTests
set_option maxRecDepth 20000 in
theorem ggX7_checksumOfTests_X2_lane : GoodIn wsX7_checksumOfTests wsX2_lane := goodIn_r _ [106, 27, 28, 107, 14, 108, 162, 163] (by decide +kernel) (by decide +kernel)
set_option maxRecDepth 20000 in
theorem gX7_checksumOfTests_X2_lane : GoodIn wsX7_checksumOfTests (wsV RX7 184 RX2 yX2_lane wsX2_lane) := goodIn_app (goodIn_of _ (by decide +kernel)) ggX7_checksumOfTests_X2_lane
set_option maxRecDepth 20000 in
theorem ggX7_checksumOfTests_X6_noted : GoodIn wsX7_checksumOfTests wsX6_noted := goodIn_r _ [113, 114, 115, 116, 33, 34, 35, 138, 139, 140, 141, 142] (by decide +kernel) (by decide +kernel)
set_option maxRecDepth 20000 in
theorem gX7_checksumOfTests_X6_noted : GoodIn wsX7_checksumOfTests (wsV RX7 306 RX6 yX6_noted wsX6_noted) := goodIn_app (goodIn_of _ (by decide +kernel)) ggX7_checksumOfTests_X6_noted
set_option maxRecDepth 20000 in
theorem ggX7_checksumOfTests_J13_bitCount_95d88 : GoodIn wsX7_checksumOfTests wsJ13_bitCount_95d88 := goodIn_r _ [120, 121, 122, 123] (by decide +kernel) (by decide +kernel)
set_option maxRecDepth 20000 in
theorem gX7_checksumOfTests_J13_bitCount_95d88 : GoodIn wsX7_checksumOfTests (va_wsS RX7 138 yJ13_bitCount_95d88 wsJ13_bitCount_95d88) := goodIn_app (goodIn_of _ (by decide +kernel)) ggX7_checksumOfTests_J13_bitCount_95d88
theorem dX7_checksumOfTests_0 : decode cX7_checksumOfTests 0 = .ok (.aload_n 0, 1) := by decide +kernel
theorem dX7_checksumOfTests_1 : decode cX7_checksumOfTests 1 = .ok (.invokevirtual 134, 3) := by decide +kernel
theorem dX7_checksumOfTests_4 : decode cX7_checksumOfTests 4 = .ok (.pop2, 1) := by decide +kernel
theorem dX7_checksumOfTests_5 : decode cX7_checksumOfTests 5 = .ok (.lload_n 1, 1) := by decide +kernel
theorem dX7_checksumOfTests_6 : decode cX7_checksumOfTests 6 = .ok (.lstore_n 3, 1) := by decide +kernel
theorem dX7_checksumOfTests_7 : decode cX7_checksumOfTests 7 = .ok (.iconst 0, 1) := by decide +kernel
theorem dX7_checksumOfTests_8 : decode cX7_checksumOfTests 8 = .ok (.istore 5, 2) := by decide +kernel
theorem dX7_checksumOfTests_10 : decode cX7_checksumOfTests 10 = .ok (.iload 5, 2) := by decide +kernel
theorem dX7_checksumOfTests_12 : decode cX7_checksumOfTests 12 = .ok (.aload_n 0, 1) := by decide +kernel
theorem dX7_checksumOfTests_13 : decode cX7_checksumOfTests 13 = .ok (.getfield 19, 3) := by decide +kernel
theorem dX7_checksumOfTests_16 : decode cX7_checksumOfTests 16 = .ok (.getfield 122, 3) := by decide +kernel
theorem dX7_checksumOfTests_19 : decode cX7_checksumOfTests 19 = .ok (.getfield 126, 3) := by decide +kernel
theorem dX7_checksumOfTests_22 : decode cX7_checksumOfTests 22 = .ok (.if_icmp .ge 119, 3) := by decide +kernel
theorem dX7_checksumOfTests_25 : decode cX7_checksumOfTests 25 = .ok (.iconst 0, 1) := by decide +kernel
theorem dX7_checksumOfTests_26 : decode cX7_checksumOfTests 26 = .ok (.istore 6, 2) := by decide +kernel
theorem dX7_checksumOfTests_28 : decode cX7_checksumOfTests 28 = .ok (.iload 6, 2) := by decide +kernel
theorem dX7_checksumOfTests_30 : decode cX7_checksumOfTests 30 = .ok (.aload_n 0, 1) := by decide +kernel
theorem dX7_checksumOfTests_31 : decode cX7_checksumOfTests 31 = .ok (.getfield 19, 3) := by decide +kernel
theorem dX7_checksumOfTests_34 : decode cX7_checksumOfTests 34 = .ok (.getfield 97, 3) := by decide +kernel
theorem dX7_checksumOfTests_37 : decode cX7_checksumOfTests 37 = .ok (.getfield 101, 3) := by decide +kernel
theorem dX7_checksumOfTests_40 : decode cX7_checksumOfTests 40 = .ok (.if_icmp .ge 31, 3) := by decide +kernel
theorem dX7_checksumOfTests_43 : decode cX7_checksumOfTests 43 = .ok (.ldc2_w 291, 3) := by decide +kernel
theorem dX7_checksumOfTests_46 : decode cX7_checksumOfTests 46 = .ok (.lload_n 3, 1) := by decide +kernel
theorem dX7_checksumOfTests_47 : decode cX7_checksumOfTests 47 = .ok (.lmul, 1) := by decide +kernel
theorem dX7_checksumOfTests_48 : decode cX7_checksumOfTests 48 = .ok (.aload_n 0, 1) := by decide +kernel
theorem dX7_checksumOfTests_49 : decode cX7_checksumOfTests 49 = .ok (.getfield 39, 3) := by decide +kernel
theorem dX7_checksumOfTests_52 : decode cX7_checksumOfTests 52 = .ok (.getfield 180, 3) := by decide +kernel
theorem dX7_checksumOfTests_55 : decode cX7_checksumOfTests 55 = .ok (.iload 6, 2) := by decide +kernel
theorem dX7_checksumOfTests_57 : decode cX7_checksumOfTests 57 = .ok (.iload 5, 2) := by decide +kernel
theorem dX7_checksumOfTests_59 : decode cX7_checksumOfTests 59 = .ok (.invokevirtual 184, 3) := by decide +kernel
theorem dX7_checksumOfTests_62 : decode cX7_checksumOfTests 62 = .ok (.i2l, 1) := by decide +kernel
theorem dX7_checksumOfTests_63 : decode cX7_checksumOfTests 63 = .ok (.ladd, 1) := by decide +kernel
theorem dX7_checksumOfTests_64 : decode cX7_checksumOfTests 64 = .ok (.lstore_n 3, 1) := by decide +kernel
theorem dX7_checksumOfTests_65 : decode cX7_checksumOfTests 65 = .ok (.iinc 6 1, 3) := by decide +kernel
theorem dX7_checksumOfTests_68 : decode cX7_checksumOfTests 68 = .ok (.goto (-40), 3) := by decide +kernel
theorem dX7_checksumOfTests_71 : decode cX7_checksumOfTests 71 = .ok (.iconst 0, 1) := by decide +kernel
theorem dX7_checksumOfTests_72 : decode cX7_checksumOfTests 72 = .ok (.istore 6, 2) := by decide +kernel
theorem dX7_checksumOfTests_74 : decode cX7_checksumOfTests 74 = .ok (.iload 6, 2) := by decide +kernel
theorem dX7_checksumOfTests_76 : decode cX7_checksumOfTests 76 = .ok (.aload_n 0, 1) := by decide +kernel
theorem dX7_checksumOfTests_77 : decode cX7_checksumOfTests 77 = .ok (.getfield 19, 3) := by decide +kernel
theorem dX7_checksumOfTests_80 : decode cX7_checksumOfTests 80 = .ok (.getfield 97, 3) := by decide +kernel
theorem dX7_checksumOfTests_83 : decode cX7_checksumOfTests 83 = .ok (.getfield 112, 3) := by decide +kernel
theorem dX7_checksumOfTests_86 : decode cX7_checksumOfTests 86 = .ok (.if_icmp .ge 31, 3) := by decide +kernel
theorem dX7_checksumOfTests_89 : decode cX7_checksumOfTests 89 = .ok (.ldc2_w 291, 3) := by decide +kernel
theorem dX7_checksumOfTests_92 : decode cX7_checksumOfTests 92 = .ok (.lload_n 3, 1) := by decide +kernel
theorem dX7_checksumOfTests_93 : decode cX7_checksumOfTests 93 = .ok (.lmul, 1) := by decide +kernel
theorem dX7_checksumOfTests_94 : decode cX7_checksumOfTests 94 = .ok (.aload_n 0, 1) := by decide +kernel
theorem dX7_checksumOfTests_95 : decode cX7_checksumOfTests 95 = .ok (.getfield 19, 3) := by decide +kernel
theorem dX7_checksumOfTests_98 : decode cX7_checksumOfTests 98 = .ok (.getfield 122, 3) := by decide +kernel
theorem dX7_checksumOfTests_101 : decode cX7_checksumOfTests 101 = .ok (.iload 5, 2) := by decide +kernel
theorem dX7_checksumOfTests_103 : decode cX7_checksumOfTests 103 = .ok (.iload 6, 2) := by decide +kernel
theorem dX7_checksumOfTests_105 : decode cX7_checksumOfTests 105 = .ok (.invokevirtual 306, 3) := by decide +kernel
theorem dX7_checksumOfTests_108 : decode cX7_checksumOfTests 108 = .ok (.i2l, 1) := by decide +kernel
theorem dX7_checksumOfTests_109 : decode cX7_checksumOfTests 109 = .ok (.ladd, 1) := by decide +kernel
theorem dX7_checksumOfTests_110 : decode cX7_checksumOfTests 110 = .ok (.lstore_n 3, 1) := by decide +kernel
theorem dX7_checksumOfTests_111 : decode cX7_checksumOfTests 111 = .ok (.iinc 6 1, 3) := by decide +kernel
theorem dX7_checksumOfTests_114 : decode cX7_checksumOfTests 114 = .ok (.goto (-40), 3) := by decide +kernel
theorem dX7_checksumOfTests_117 : decode cX7_checksumOfTests 117 = .ok (.ldc2_w 291, 3) := by decide +kernel
theorem dX7_checksumOfTests_120 : decode cX7_checksumOfTests 120 = .ok (.lload_n 3, 1) := by decide +kernel
theorem dX7_checksumOfTests_121 : decode cX7_checksumOfTests 121 = .ok (.lmul, 1) := by decide +kernel
theorem dX7_checksumOfTests_122 : decode cX7_checksumOfTests 122 = .ok (.aload_n 0, 1) := by decide +kernel
theorem dX7_checksumOfTests_123 : decode cX7_checksumOfTests 123 = .ok (.getfield 56, 3) := by decide +kernel
theorem dX7_checksumOfTests_126 : decode cX7_checksumOfTests 126 = .ok (.iload 5, 2) := by decide +kernel
theorem dX7_checksumOfTests_128 : decode cX7_checksumOfTests 128 = .ok (.laload, 1) := by decide +kernel
theorem dX7_checksumOfTests_129 : decode cX7_checksumOfTests 129 = .ok (.invokestatic 138, 3) := by decide +kernel
theorem dX7_checksumOfTests_132 : decode cX7_checksumOfTests 132 = .ok (.i2l, 1) := by decide +kernel
theorem dX7_checksumOfTests_133 : decode cX7_checksumOfTests 133 = .ok (.ladd, 1) := by decide +kernel
theorem dX7_checksumOfTests_134 : decode cX7_checksumOfTests 134 = .ok (.lstore_n 3, 1) := by decide +kernel
theorem dX7_checksumOfTests_135 : decode cX7_checksumOfTests 135 = .ok (.iinc 5 1, 3) := by decide +kernel
theorem dX7_checksumOfTests_138 : decode cX7_checksumOfTests 138 = .ok (.goto (-128), 3) := by decide +kernel
theorem dX7_checksumOfTests_141 : decode cX7_checksumOfTests 141 = .ok (.lload_n 3, 1) := by decide +kernel
theorem dX7_checksumOfTests_142 : decode cX7_checksumOfTests 142 = .ok (.lreturn, 1) := by decide +kernel
theorem dX7_checkWire_0 : decode cX7_checkWire 0 = .ok (.iload_n 1, 1) := by decide +kernel
theorem dX7_checkWire_1 : decode cX7_checkWire 1 = .ok (.ifCond .lt 17, 3) := by decide +kernel
theorem dX7_checkWire_4 : decode cX7_checkWire 4 = .ok (.iload_n 1, 1) := by decide +kernel
theorem dX7_checkWire_5 : decode cX7_checkWire 5 = .ok (.aload_n 0, 1) := by decide +kernel
theorem dX7_checkWire_6 : decode cX7_checkWire 6 = .ok (.getfield 19, 3) := by decide +kernel
theorem dX7_checkWire_9 : decode cX7_checkWire 9 = .ok (.getfield 97, 3) := by decide +kernel
theorem dX7_checkWire_12 : decode cX7_checkWire 12 = .ok (.getfield 101, 3) := by decide +kernel
theorem dX7_checkWire_15 : decode cX7_checkWire 15 = .ok (.if_icmp .lt 14, 3) := by decide +kernel
theorem dX7_checkWire_18 : decode cX7_checkWire 18 = .ok (.new 265, 3) := by decide +kernel
theorem dX7_checkWire_21 : decode cX7_checkWire 21 = .ok (.dup, 1) := by decide +kernel
theorem dX7_checkWire_22 : decode cX7_checkWire 22 = .ok (.ldc_w 309, 3) := by decide +kernel
theorem dX7_checkWire_25 : decode cX7_checkWire 25 = .ok (.invokespecial 269, 3) := by decide +kernel
theorem dX7_checkWire_28 : decode cX7_checkWire 28 = .ok (.athrow, 1) := by decide +kernel
theorem dX7_checkWire_29 : decode cX7_checkWire 29 = .ok (.return_, 1) := by decide +kernel
theorem dX7_checkTest_0 : decode cX7_checkTest 0 = .ok (.iload_n 1, 1) := by decide +kernel
theorem dX7_checkTest_1 : decode cX7_checkTest 1 = .ok (.ifCond .lt 17, 3) := by decide +kernel
theorem dX7_checkTest_4 : decode cX7_checkTest 4 = .ok (.iload_n 1, 1) := by decide +kernel
theorem dX7_checkTest_5 : decode cX7_checkTest 5 = .ok (.aload_n 0, 1) := by decide +kernel
theorem dX7_checkTest_6 : decode cX7_checkTest 6 = .ok (.getfield 19, 3) := by decide +kernel
theorem dX7_checkTest_9 : decode cX7_checkTest 9 = .ok (.getfield 122, 3) := by decide +kernel
theorem dX7_checkTest_12 : decode cX7_checkTest 12 = .ok (.getfield 126, 3) := by decide +kernel
theorem dX7_checkTest_15 : decode cX7_checkTest 15 = .ok (.if_icmp .lt 14, 3) := by decide +kernel
theorem dX7_checkTest_18 : decode cX7_checkTest 18 = .ok (.new 265, 3) := by decide +kernel
theorem dX7_checkTest_21 : decode cX7_checkTest 21 = .ok (.dup, 1) := by decide +kernel
theorem dX7_checkTest_22 : decode cX7_checkTest 22 = .ok (.ldc_w 310, 3) := by decide +kernel
theorem dX7_checkTest_25 : decode cX7_checkTest 25 = .ok (.invokespecial 269, 3) := by decide +kernel
theorem dX7_checkTest_28 : decode cX7_checkTest 28 = .ok (.athrow, 1) := by decide +kernel
theorem dX7_checkTest_29 : decode cX7_checkTest 29 = .ok (.return_, 1) := by decide +kernel
set_option maxRecDepth 20000 in
theorem ggX7_checkFault_X0_faultCount : GoodIn wsX7_checkFault wsX0_faultCount := goodIn_r _ [9, 10, 11, 26, 27, 28, 29, 30, 31, 32, 33, 34, 35, 36, 37, 38, 39] (by decide +kernel) (by decide +kernel)
set_option maxRecDepth 20000 in
theorem gX7_checkFault_X0_faultCount : GoodIn wsX7_checkFault (wsV RX7 115 RX0 yX0_faultCount wsX0_faultCount) := goodIn_app (goodIn_of _ (by decide +kernel)) ggX7_checkFault_X0_faultCount
theorem dX7_checkFault_0 : decode cX7_checkFault 0 = .ok (.iload_n 1, 1) := by decide +kernel
theorem dX7_checkFault_1 : decode cX7_checkFault 1 = .ok (.ifCond .lt 17, 3) := by decide +kernel
theorem dX7_checkFault_4 : decode cX7_checkFault 4 = .ok (.iload_n 1, 1) := by decide +kernel
theorem dX7_checkFault_5 : decode cX7_checkFault 5 = .ok (.aload_n 0, 1) := by decide +kernel
theorem dX7_checkFault_6 : decode cX7_checkFault 6 = .ok (.getfield 19, 3) := by decide +kernel
theorem dX7_checkFault_9 : decode cX7_checkFault 9 = .ok (.getfield 97, 3) := by decide +kernel
theorem dX7_checkFault_12 : decode cX7_checkFault 12 = .ok (.invokevirtual 115, 3) := by decide +kernel
theorem dX7_checkFault_15 : decode cX7_checkFault 15 = .ok (.if_icmp .lt 14, 3) := by decide +kernel
theorem dX7_checkFault_18 : decode cX7_checkFault 18 = .ok (.new 265, 3) := by decide +kernel
theorem dX7_checkFault_21 : decode cX7_checkFault 21 = .ok (.dup, 1) := by decide +kernel
theorem dX7_checkFault_22 : decode cX7_checkFault 22 = .ok (.ldc_w 312, 3) := by decide +kernel
theorem dX7_checkFault_25 : decode cX7_checkFault 25 = .ok (.invokespecial 269, 3) := by decide +kernel
theorem dX7_checkFault_28 : decode cX7_checkFault 28 = .ok (.athrow, 1) := by decide +kernel
theorem dX7_checkFault_29 : decode cX7_checkFault 29 = .ok (.return_, 1) := by decide +kernel
theorem dX7_areInputs_0 : decode cX7_areInputs 0 = .ok (.iload_n 1, 1) := by decide +kernel
theorem dX7_areInputs_1 : decode cX7_areInputs 1 = .ok (.aload_n 0, 1) := by decide +kernel
theorem dX7_areInputs_2 : decode cX7_areInputs 2 = .ok (.getfield 19, 3) := by decide +kernel
theorem dX7_areInputs_5 : decode cX7_areInputs 5 = .ok (.getfield 97, 3) := by decide +kernel
theorem dX7_areInputs_8 : decode cX7_areInputs 8 = .ok (.getfield 109, 3) := by decide +kernel
theorem dX7_areInputs_11 : decode cX7_areInputs 11 = .ok (.ishr, 1) := by decide +kernel
theorem dX7_areInputs_12 : decode cX7_areInputs 12 = .ok (.ifCond .ne 7, 3) := by decide +kernel
theorem dX7_areInputs_15 : decode cX7_areInputs 15 = .ok (.iconst 1, 1) := by decide +kernel
theorem dX7_areInputs_16 : decode cX7_areInputs 16 = .ok (.goto 4, 3) := by decide +kernel
theorem dX7_areInputs_19 : decode cX7_areInputs 19 = .ok (.iconst 0, 1) := by decide +kernel
theorem dX7_areInputs_20 : decode cX7_areInputs 20 = .ok (.ireturn, 1) := by decide +kernel
theorem dX7_hasLane_0 : decode cX7_hasLane 0 = .ok (.lload_n 0, 1) := by decide +kernel
theorem dX7_hasLane_1 : decode cX7_hasLane 1 = .ok (.iload_n 2, 1) := by decide +kernel
theorem dX7_hasLane_2 : decode cX7_hasLane 2 = .ok (.lushr, 1) := by decide +kernel
theorem dX7_hasLane_3 : decode cX7_hasLane 3 = .ok (.lconst 1, 1) := by decide +kernel
theorem dX7_hasLane_4 : decode cX7_hasLane 4 = .ok (.land, 1) := by decide +kernel
theorem dX7_hasLane_5 : decode cX7_hasLane 5 = .ok (.lconst 0, 1) := by decide +kernel
theorem dX7_hasLane_6 : decode cX7_hasLane 6 = .ok (.lcmp, 1) := by decide +kernel
theorem dX7_hasLane_7 : decode cX7_hasLane 7 = .ok (.ifCond .eq 7, 3) := by decide +kernel
theorem dX7_hasLane_10 : decode cX7_hasLane 10 = .ok (.iconst 1, 1) := by decide +kernel
theorem dX7_hasLane_11 : decode cX7_hasLane 11 = .ok (.goto 4, 3) := by decide +kernel
theorem dX7_hasLane_14 : decode cX7_hasLane 14 = .ok (.iconst 0, 1) := by decide +kernel
theorem dX7_hasLane_15 : decode cX7_hasLane 15 = .ok (.ireturn, 1) := by decide +kernel
theorem dX7_forgetRows_0 : decode cX7_forgetRows 0 = .ok (.aload_n 0, 1) := by decide +kernel
theorem dX7_forgetRows_1 : decode cX7_forgetRows 1 = .ok (.iconst 0, 1) := by decide +kernel
theorem dX7_forgetRows_2 : decode cX7_forgetRows 2 = .ok (.putfield 42, 3) := by decide +kernel
theorem dX7_forgetRows_5 : decode cX7_forgetRows 5 = .ok (.aload_n 0, 1) := by decide +kernel
theorem dX7_forgetRows_6 : decode cX7_forgetRows 6 = .ok (.iconst 0, 1) := by decide +kernel
theorem dX7_forgetRows_7 : decode cX7_forgetRows 7 = .ok (.putfield 46, 3) := by decide +kernel
theorem dX7_forgetRows_10 : decode cX7_forgetRows 10 = .ok (.return_, 1) := by decide +kernel
set_option maxRecDepth 20000 in
theorem ggX7_refreshFullRows_X0_fullWords : GoodIn wsX7_refreshFullRows wsX0_fullWords := goodIn_r _ [11, 12, 96, 97, 98, 99, 100, 101, 102, 103, 104, 105, 106, 107, 108, 109] (by decide +kernel) (by decide +kernel)
set_option maxRecDepth 20000 in
theorem gX7_refreshFullRows_X0_fullWords : GoodIn wsX7_refreshFullRows (wsV RX7 314 RX0 yX0_fullWords wsX0_fullWords) := goodIn_app (goodIn_of _ (by decide +kernel)) ggX7_refreshFullRows_X0_fullWords
set_option maxRecDepth 20000 in
theorem ggX7_refreshFullRows_X2_setFullInputs : GoodIn wsX7_refreshFullRows wsX2_setFullInputs := goodIn_r _ [17, 18, 19, 20, 21, 22, 10, 23, 110, 111] (by decide +kernel) (by decide +kernel)
set_option maxRecDepth 20000 in
theorem gX7_refreshFullRows_X2_setFullInputs : GoodIn wsX7_refreshFullRows (wsV RX7 317 RX2 yX2_setFullInputs wsX2_setFullInputs) := goodIn_app (goodIn_of _ (by decide +kernel)) ggX7_refreshFullRows_X2_setFullInputs
set_option maxRecDepth 20000 in
theorem ggX7_refreshFullRows_X3_work : GoodIn wsX7_refreshFullRows wsX3_work := goodIn_r _ [28, 29, 30, 31, 32, 33, 10, 34, 35, 36, 37, 38, 39, 16, 40, 41, 42, 43, 44, 45, 46, 47, 48, 20, 18, 49, 50, 51, 52, 27, 53, 54, 55, 56, 57, 58, 59, 60, 61, 62, 63, 64, 65, 66, 67, 68, 69, 70, 71, 72, 73, 19, 74, 75, 76, 21, 22, 23, 91, 92, 93, 94, 95, 96, 97, 98, 99, 100, 101, 102, 103, 104, 105, 106, 107, 108, 109, 110, 111] (by decide +kernel) (by decide +kernel)
set_option maxRecDepth 20000 in
theorem gX7_refreshFullRows_X3_work : GoodIn wsX7_refreshFullRows (wsV RX7 320 RX3 yX3_work wsX3_work) := goodIn_app (goodIn_of _ (by decide +kernel)) ggX7_refreshFullRows_X3_work
theorem dX7_refreshFullRows_0 : decode cX7_refreshFullRows 0 = .ok (.aload_n 0, 1) := by decide +kernel
theorem dX7_refreshFullRows_1 : decode cX7_refreshFullRows 1 = .ok (.getfield 42, 3) := by decide +kernel
theorem dX7_refreshFullRows_4 : decode cX7_refreshFullRows 4 = .ok (.ifCond .eq 4, 3) := by decide +kernel
theorem dX7_refreshFullRows_7 : decode cX7_refreshFullRows 7 = .ok (.return_, 1) := by decide +kernel
theorem dX7_refreshFullRows_8 : decode cX7_refreshFullRows 8 = .ok (.aload_n 0, 1) := by decide +kernel
theorem dX7_refreshFullRows_9 : decode cX7_refreshFullRows 9 = .ok (.getfield 19, 3) := by decide +kernel
theorem dX7_refreshFullRows_12 : decode cX7_refreshFullRows 12 = .ok (.getfield 97, 3) := by decide +kernel
theorem dX7_refreshFullRows_15 : decode cX7_refreshFullRows 15 = .ok (.invokevirtual 314, 3) := by decide +kernel
theorem dX7_refreshFullRows_18 : decode cX7_refreshFullRows 18 = .ok (.istore_n 1, 1) := by decide +kernel
theorem dX7_refreshFullRows_19 : decode cX7_refreshFullRows 19 = .ok (.iconst 0, 1) := by decide +kernel
theorem dX7_refreshFullRows_20 : decode cX7_refreshFullRows 20 = .ok (.istore_n 2, 1) := by decide +kernel
theorem dX7_refreshFullRows_21 : decode cX7_refreshFullRows 21 = .ok (.iload_n 2, 1) := by decide +kernel
theorem dX7_refreshFullRows_22 : decode cX7_refreshFullRows 22 = .ok (.iload_n 1, 1) := by decide +kernel
theorem dX7_refreshFullRows_23 : decode cX7_refreshFullRows 23 = .ok (.if_icmp .ge 45, 3) := by decide +kernel
theorem dX7_refreshFullRows_26 : decode cX7_refreshFullRows 26 = .ok (.aload_n 0, 1) := by decide +kernel
theorem dX7_refreshFullRows_27 : decode cX7_refreshFullRows 27 = .ok (.getfield 35, 3) := by decide +kernel
theorem dX7_refreshFullRows_30 : decode cX7_refreshFullRows 30 = .ok (.getfield 180, 3) := by decide +kernel
theorem dX7_refreshFullRows_33 : decode cX7_refreshFullRows 33 = .ok (.aload_n 0, 1) := by decide +kernel
theorem dX7_refreshFullRows_34 : decode cX7_refreshFullRows 34 = .ok (.getfield 19, 3) := by decide +kernel
theorem dX7_refreshFullRows_37 : decode cX7_refreshFullRows 37 = .ok (.getfield 97, 3) := by decide +kernel
theorem dX7_refreshFullRows_40 : decode cX7_refreshFullRows 40 = .ok (.getfield 109, 3) := by decide +kernel
theorem dX7_refreshFullRows_43 : decode cX7_refreshFullRows 43 = .ok (.iload_n 2, 1) := by decide +kernel
theorem dX7_refreshFullRows_44 : decode cX7_refreshFullRows 44 = .ok (.invokevirtual 317, 3) := by decide +kernel
theorem dX7_refreshFullRows_47 : decode cX7_refreshFullRows 47 = .ok (.aload_n 0, 1) := by decide +kernel
theorem dX7_refreshFullRows_48 : decode cX7_refreshFullRows 48 = .ok (.getfield 35, 3) := by decide +kernel
theorem dX7_refreshFullRows_51 : decode cX7_refreshFullRows 51 = .ok (.aload_n 0, 1) := by decide +kernel
theorem dX7_refreshFullRows_52 : decode cX7_refreshFullRows 52 = .ok (.getfield 19, 3) := by decide +kernel
theorem dX7_refreshFullRows_55 : decode cX7_refreshFullRows 55 = .ok (.getfield 97, 3) := by decide +kernel
theorem dX7_refreshFullRows_58 : decode cX7_refreshFullRows 58 = .ok (.iload_n 2, 1) := by decide +kernel
theorem dX7_refreshFullRows_59 : decode cX7_refreshFullRows 59 = .ok (.invokevirtual 320, 3) := by decide +kernel
theorem dX7_refreshFullRows_62 : decode cX7_refreshFullRows 62 = .ok (.iinc 2 1, 3) := by decide +kernel
theorem dX7_refreshFullRows_65 : decode cX7_refreshFullRows 65 = .ok (.goto (-44), 3) := by decide +kernel
theorem dX7_refreshFullRows_68 : decode cX7_refreshFullRows 68 = .ok (.aload_n 0, 1) := by decide +kernel
theorem dX7_refreshFullRows_69 : decode cX7_refreshFullRows 69 = .ok (.iconst 1, 1) := by decide +kernel
theorem dX7_refreshFullRows_70 : decode cX7_refreshFullRows 70 = .ok (.putfield 42, 3) := by decide +kernel
theorem dX7_refreshFullRows_73 : decode cX7_refreshFullRows 73 = .ok (.return_, 1) := by decide +kernel
set_option maxRecDepth 20000 in
theorem ggX7_refreshTestRows_X2_setTestInputs : GoodIn wsX7_refreshTestRows wsX2_setTestInputs := goodIn_r _ [12, 13, 14, 15, 16, 17, 18, 19, 20, 21, 109, 110, 111, 112, 113, 114, 115] (by decide +kernel) (by decide +kernel)
set_option maxRecDepth 20000 in
theorem gX7_refreshTestRows_X2_setTestInputs : GoodIn wsX7_refreshTestRows (wsV RX7 324 RX2 yX2_setTestInputs wsX2_setTestInputs) := goodIn_app (goodIn_of _ (by decide +kernel)) ggX7_refreshTestRows_X2_setTestInputs
set_option maxRecDepth 20000 in
theorem ggX7_refreshTestRows_X3_work : GoodIn wsX7_refreshTestRows wsX3_work := goodIn_r _ [26, 27, 28, 29, 30, 31, 20, 32, 33, 34, 35, 36, 37, 11, 38, 39, 40, 41, 42, 43, 44, 45, 46, 13, 14, 47, 48, 49, 50, 25, 51, 52, 53, 54, 55, 56, 57, 58, 59, 60, 61, 62, 63, 64, 65, 66, 67, 68, 69, 70, 71, 72, 73, 74, 75, 18, 19, 21, 88, 89, 90, 91, 92, 95, 96, 97, 98, 99, 100, 101, 102, 103, 104, 105, 106, 107, 108, 109, 110] (by decide +kernel) (by decide +kernel)
set_option maxRecDepth 20000 in
theorem gX7_refreshTestRows_X3_work : GoodIn wsX7_refreshTestRows (wsV RX7 320 RX3 yX3_work wsX3_work) := goodIn_app (goodIn_of _ (by decide +kernel)) ggX7_refreshTestRows_X3_work
theorem dX7_refreshTestRows_0 : decode cX7_refreshTestRows 0 = .ok (.aload_n 0, 1) := by decide +kernel
theorem dX7_refreshTestRows_1 : decode cX7_refreshTestRows 1 = .ok (.getfield 46, 3) := by decide +kernel
theorem dX7_refreshTestRows_4 : decode cX7_refreshTestRows 4 = .ok (.ifCond .eq 4, 3) := by decide +kernel
theorem dX7_refreshTestRows_7 : decode cX7_refreshTestRows 7 = .ok (.return_, 1) := by decide +kernel
theorem dX7_refreshTestRows_8 : decode cX7_refreshTestRows 8 = .ok (.aload_n 0, 1) := by decide +kernel
theorem dX7_refreshTestRows_9 : decode cX7_refreshTestRows 9 = .ok (.getfield 39, 3) := by decide +kernel
theorem dX7_refreshTestRows_12 : decode cX7_refreshTestRows 12 = .ok (.getfield 180, 3) := by decide +kernel
theorem dX7_refreshTestRows_15 : decode cX7_refreshTestRows 15 = .ok (.aload_n 0, 1) := by decide +kernel
theorem dX7_refreshTestRows_16 : decode cX7_refreshTestRows 16 = .ok (.getfield 19, 3) := by decide +kernel
theorem dX7_refreshTestRows_19 : decode cX7_refreshTestRows 19 = .ok (.getfield 97, 3) := by decide +kernel
theorem dX7_refreshTestRows_22 : decode cX7_refreshTestRows 22 = .ok (.getfield 109, 3) := by decide +kernel
theorem dX7_refreshTestRows_25 : decode cX7_refreshTestRows 25 = .ok (.aload_n 0, 1) := by decide +kernel
theorem dX7_refreshTestRows_26 : decode cX7_refreshTestRows 26 = .ok (.getfield 19, 3) := by decide +kernel
theorem dX7_refreshTestRows_29 : decode cX7_refreshTestRows 29 = .ok (.getfield 122, 3) := by decide +kernel
theorem dX7_refreshTestRows_32 : decode cX7_refreshTestRows 32 = .ok (.invokevirtual 324, 3) := by decide +kernel
theorem dX7_refreshTestRows_35 : decode cX7_refreshTestRows 35 = .ok (.aload_n 0, 1) := by decide +kernel
theorem dX7_refreshTestRows_36 : decode cX7_refreshTestRows 36 = .ok (.getfield 39, 3) := by decide +kernel
theorem dX7_refreshTestRows_39 : decode cX7_refreshTestRows 39 = .ok (.aload_n 0, 1) := by decide +kernel
theorem dX7_refreshTestRows_40 : decode cX7_refreshTestRows 40 = .ok (.getfield 19, 3) := by decide +kernel
theorem dX7_refreshTestRows_43 : decode cX7_refreshTestRows 43 = .ok (.getfield 97, 3) := by decide +kernel
theorem dX7_refreshTestRows_46 : decode cX7_refreshTestRows 46 = .ok (.iconst 0, 1) := by decide +kernel
theorem dX7_refreshTestRows_47 : decode cX7_refreshTestRows 47 = .ok (.invokevirtual 320, 3) := by decide +kernel
theorem dX7_refreshTestRows_50 : decode cX7_refreshTestRows 50 = .ok (.aload_n 0, 1) := by decide +kernel
theorem dX7_refreshTestRows_51 : decode cX7_refreshTestRows 51 = .ok (.iconst 1, 1) := by decide +kernel
theorem dX7_refreshTestRows_52 : decode cX7_refreshTestRows 52 = .ok (.putfield 46, 3) := by decide +kernel
theorem dX7_refreshTestRows_55 : decode cX7_refreshTestRows 55 = .ok (.return_, 1) := by decide +kernel
set_option maxRecDepth 20000 in
theorem ggX7_listFoundByTests_X7_refreshTestRows : GoodIn wsX7_listFoundByTests wsX7_refreshTestRows := goodIn_r _ [10, 11, 1, 12, 2, 13, 14, 3, 15, 16, 17, 18, 19, 20, 21, 22, 23, 24, 25, 26, 27, 28, 29, 30, 31, 32, 33, 34, 35, 36, 37, 38, 39, 40, 41, 42, 43, 44, 45, 46, 47, 48, 49, 50, 51, 52, 53, 54, 55, 56, 57, 58, 59, 60, 61, 62, 63, 64, 65, 66, 67, 68, 69, 70, 71, 72, 73, 74, 75, 76, 77, 78, 79, 80, 81, 82, 96, 97, 98, 99, 100, 101, 102, 103, 104, 105, 106, 107, 115, 116, 117, 118, 119, 108, 109, 120, 121, 122, 123, 124, 125, 126, 127, 128, 129, 130, 131, 132, 133, 134, 135, 110, 111, 112, 113, 114] (by decide +kernel) (by decide +kernel)
set_option maxRecDepth 20000 in
theorem gX7_listFoundByTests_X7_refreshTestRows : GoodIn wsX7_listFoundByTests (wsV RX7 177 RX7 yX7_refreshTestRows wsX7_refreshTestRows) := goodIn_app (goodIn_of _ (by decide +kernel)) ggX7_listFoundByTests_X7_refreshTestRows
set_option maxRecDepth 20000 in
theorem ggX7_listFoundByTests_X7_listFound : GoodIn wsX7_listFoundByTests wsX7_listFound := goodIn_r _ [86, 2, 13, 87, 88, 89, 90, 91, 37, 38, 27, 39, 40, 41, 92, 93, 94, 32, 95, 59, 60, 63, 65, 66, 67, 68, 69, 96, 97, 98, 99, 100, 101, 102, 103, 104, 105, 106, 107, 108, 109, 120, 121, 122, 123, 124, 125, 126, 127, 128, 129, 130, 131, 132, 133, 115, 116, 117, 118, 119] (by decide +kernel) (by decide +kernel)
set_option maxRecDepth 20000 in
theorem gX7_listFoundByTests_X7_listFound : GoodIn wsX7_listFoundByTests (wsV RX7 328 RX7 yX7_listFound wsX7_listFound) := goodIn_app (goodIn_of _ (by decide +kernel)) ggX7_listFoundByTests_X7_listFound
theorem dX7_listFoundByTests_0 : decode cX7_listFoundByTests 0 = .ok (.aload_n 0, 1) := by decide +kernel
theorem dX7_listFoundByTests_1 : decode cX7_listFoundByTests 1 = .ok (.invokevirtual 177, 3) := by decide +kernel
theorem dX7_listFoundByTests_4 : decode cX7_listFoundByTests 4 = .ok (.aload_n 0, 1) := by decide +kernel
theorem dX7_listFoundByTests_5 : decode cX7_listFoundByTests 5 = .ok (.aload_n 0, 1) := by decide +kernel
theorem dX7_listFoundByTests_6 : decode cX7_listFoundByTests 6 = .ok (.getfield 39, 3) := by decide +kernel
theorem dX7_listFoundByTests_9 : decode cX7_listFoundByTests 9 = .ok (.aload_n 0, 1) := by decide +kernel
theorem dX7_listFoundByTests_10 : decode cX7_listFoundByTests 10 = .ok (.getfield 19, 3) := by decide +kernel
theorem dX7_listFoundByTests_13 : decode cX7_listFoundByTests 13 = .ok (.getfield 122, 3) := by decide +kernel
theorem dX7_listFoundByTests_16 : decode cX7_listFoundByTests 16 = .ok (.getfield 126, 3) := by decide +kernel
theorem dX7_listFoundByTests_19 : decode cX7_listFoundByTests 19 = .ok (.aload_n 0, 1) := by decide +kernel
theorem dX7_listFoundByTests_20 : decode cX7_listFoundByTests 20 = .ok (.getfield 56, 3) := by decide +kernel
theorem dX7_listFoundByTests_23 : decode cX7_listFoundByTests 23 = .ok (.invokevirtual 328, 3) := by decide +kernel
theorem dX7_listFoundByTests_26 : decode cX7_listFoundByTests 26 = .ok (.lreturn, 1) := by decide +kernel
set_option maxRecDepth 20000 in
theorem ggX7_listFoundByFull_X7_refreshFullRows : GoodIn wsX7_listFoundByFull wsX7_refreshFullRows := goodIn_r _ [10, 11, 2, 3, 1, 12, 4, 13, 14, 15, 16, 17, 18, 19, 20, 21, 22, 23, 24, 25, 26, 27, 28, 29, 30, 31, 32, 33, 34, 35, 36, 37, 38, 39, 40, 41, 42, 43, 44, 45, 46, 47, 48, 49, 50, 51, 52, 53, 54, 55, 56, 57, 58, 59, 60, 61, 62, 63, 64, 65, 66, 67, 68, 69, 70, 71, 72, 73, 74, 75, 76, 77, 78, 79, 80, 81, 82, 96, 97, 98, 99, 100, 101, 102, 103, 104, 105, 106, 107, 108, 109, 124, 125, 126, 127, 128, 110, 111, 112, 113, 114, 115, 116, 117, 118, 119, 120, 121, 122, 123, 129, 130] (by decide +kernel) (by decide +kernel)
set_option maxRecDepth 20000 in
theorem gX7_listFoundByFull_X7_refreshFullRows : GoodIn wsX7_listFoundByFull (wsV RX7 212 RX7 yX7_refreshFullRows wsX7_refreshFullRows) := goodIn_app (goodIn_of _ (by decide +kernel)) ggX7_listFoundByFull_X7_refreshFullRows
set_option maxRecDepth 20000 in
theorem ggX7_listFoundByFull_X7_listFound : GoodIn wsX7_listFoundByFull wsX7_listFound := goodIn_r _ [86, 2, 3, 87, 88, 89, 90, 91, 38, 39, 16, 40, 41, 42, 92, 93, 94, 33, 95, 60, 61, 64, 66, 67, 68, 69, 70, 96, 97, 98, 99, 100, 101, 102, 103, 104, 105, 106, 107, 108, 109, 110, 111, 112, 113, 114, 115, 116, 117, 118, 119, 120, 121, 122, 123, 124, 125, 126, 127, 128] (by decide +kernel) (by decide +kernel)
set_option maxRecDepth 20000 in
theorem gX7_listFoundByFull_X7_listFound : GoodIn wsX7_listFoundByFull (wsV RX7 328 RX7 yX7_listFound wsX7_listFound) := goodIn_app (goodIn_of _ (by decide +kernel)) ggX7_listFoundByFull_X7_listFound
theorem dX7_listFoundByFull_0 : decode cX7_listFoundByFull 0 = .ok (.aload_n 0, 1) := by decide +kernel
theorem dX7_listFoundByFull_1 : decode cX7_listFoundByFull 1 = .ok (.invokevirtual 212, 3) := by decide +kernel
theorem dX7_listFoundByFull_4 : decode cX7_listFoundByFull 4 = .ok (.aload_n 0, 1) := by decide +kernel
theorem dX7_listFoundByFull_5 : decode cX7_listFoundByFull 5 = .ok (.aload_n 0, 1) := by decide +kernel
theorem dX7_listFoundByFull_6 : decode cX7_listFoundByFull 6 = .ok (.getfield 35, 3) := by decide +kernel
theorem dX7_listFoundByFull_9 : decode cX7_listFoundByFull 9 = .ok (.iconst 1, 1) := by decide +kernel
theorem dX7_listFoundByFull_10 : decode cX7_listFoundByFull 10 = .ok (.aload_n 0, 1) := by decide +kernel
theorem dX7_listFoundByFull_11 : decode cX7_listFoundByFull 11 = .ok (.getfield 19, 3) := by decide +kernel
theorem dX7_listFoundByFull_14 : decode cX7_listFoundByFull 14 = .ok (.getfield 97, 3) := by decide +kernel
theorem dX7_listFoundByFull_17 : decode cX7_listFoundByFull 17 = .ok (.getfield 109, 3) := by decide +kernel
theorem dX7_listFoundByFull_20 : decode cX7_listFoundByFull 20 = .ok (.ishl, 1) := by decide +kernel
theorem dX7_listFoundByFull_21 : decode cX7_listFoundByFull 21 = .ok (.aload_n 0, 1) := by decide +kernel
theorem dX7_listFoundByFull_22 : decode cX7_listFoundByFull 22 = .ok (.getfield 63, 3) := by decide +kernel
theorem dX7_listFoundByFull_25 : decode cX7_listFoundByFull 25 = .ok (.invokevirtual 328, 3) := by decide +kernel
theorem dX7_listFoundByFull_28 : decode cX7_listFoundByFull 28 = .ok (.pop2, 1) := by decide +kernel
theorem dX7_listFoundByFull_29 : decode cX7_listFoundByFull 29 = .ok (.return_, 1) := by decide +kernel
set_option maxRecDepth 20000 in
theorem ggX7_listFound_X0_faultCount : GoodIn wsX7_listFound wsX0_faultCount := goodIn_r _ [11, 12, 13, 41, 42, 43, 44, 45, 46, 47, 48, 49, 50, 51, 52, 53, 54] (by decide +kernel) (by decide +kernel)
set_option maxRecDepth 20000 in
theorem gX7_listFound_X0_faultCount : GoodIn wsX7_listFound (wsV RX7 115 RX0 yX0_faultCount wsX0_faultCount) := goodIn_app (goodIn_of _ (by decide +kernel)) ggX7_listFound_X0_faultCount
set_option maxRecDepth 20000 in
theorem ggX7_listFound_X3_apart : GoodIn wsX7_listFound wsX3_apart := goodIn_r _ [18, 19, 20, 21, 22, 23, 24, 17, 25, 26, 41, 42, 43, 44, 45, 46, 47, 48, 49, 50, 51, 52, 53, 54, 55, 56, 57, 58, 59] (by decide +kernel) (by decide +kernel)
set_option maxRecDepth 20000 in
theorem gX7_listFound_X3_apart : GoodIn wsX7_listFound (wsV RX7 200 RX3 yX3_apart wsX3_apart) := goodIn_app (goodIn_of _ (by decide +kernel)) ggX7_listFound_X3_apart
theorem dX7_listFound_0 : decode cX7_listFound 0 = .ok (.aload_n 0, 1) := by decide +kernel
theorem dX7_listFound_1 : decode cX7_listFound 1 = .ok (.getfield 19, 3) := by decide +kernel
theorem dX7_listFound_4 : decode cX7_listFound 4 = .ok (.getfield 97, 3) := by decide +kernel
theorem dX7_listFound_7 : decode cX7_listFound 7 = .ok (.invokevirtual 115, 3) := by decide +kernel
theorem dX7_listFound_10 : decode cX7_listFound 10 = .ok (.istore 4, 2) := by decide +kernel
theorem dX7_listFound_12 : decode cX7_listFound 12 = .ok (.lconst 0, 1) := by decide +kernel
theorem dX7_listFound_13 : decode cX7_listFound 13 = .ok (.lstore 5, 2) := by decide +kernel
theorem dX7_listFound_15 : decode cX7_listFound 15 = .ok (.iconst 0, 1) := by decide +kernel
theorem dX7_listFound_16 : decode cX7_listFound 16 = .ok (.istore 7, 2) := by decide +kernel
theorem dX7_listFound_18 : decode cX7_listFound 18 = .ok (.iload 7, 2) := by decide +kernel
theorem dX7_listFound_20 : decode cX7_listFound 20 = .ok (.iload_n 2, 1) := by decide +kernel
theorem dX7_listFound_21 : decode cX7_listFound 21 = .ok (.if_icmp .ge 14, 3) := by decide +kernel
theorem dX7_listFound_24 : decode cX7_listFound 24 = .ok (.aload_n 3, 1) := by decide +kernel
theorem dX7_listFound_25 : decode cX7_listFound 25 = .ok (.iload 7, 2) := by decide +kernel
theorem dX7_listFound_27 : decode cX7_listFound 27 = .ok (.lconst 0, 1) := by decide +kernel
theorem dX7_listFound_28 : decode cX7_listFound 28 = .ok (.lastore, 1) := by decide +kernel
theorem dX7_listFound_29 : decode cX7_listFound 29 = .ok (.iinc 7 1, 3) := by decide +kernel
theorem dX7_listFound_32 : decode cX7_listFound 32 = .ok (.goto (-14), 3) := by decide +kernel
theorem dX7_listFound_35 : decode cX7_listFound 35 = .ok (.iconst 0, 1) := by decide +kernel
theorem dX7_listFound_36 : decode cX7_listFound 36 = .ok (.istore 7, 2) := by decide +kernel
theorem dX7_listFound_38 : decode cX7_listFound 38 = .ok (.iload 7, 2) := by decide +kernel
theorem dX7_listFound_40 : decode cX7_listFound 40 = .ok (.iload_n 2, 1) := by decide +kernel
theorem dX7_listFound_41 : decode cX7_listFound 41 = .ok (.if_icmp .ge 104, 3) := by decide +kernel
theorem dX7_listFound_44 : decode cX7_listFound 44 = .ok (.iload_n 2, 1) := by decide +kernel
theorem dX7_listFound_45 : decode cX7_listFound 45 = .ok (.iload 7, 2) := by decide +kernel
theorem dX7_listFound_47 : decode cX7_listFound 47 = .ok (.isub, 1) := by decide +kernel
theorem dX7_listFound_48 : decode cX7_listFound 48 = .ok (.bipush 64, 2) := by decide +kernel
theorem dX7_listFound_50 : decode cX7_listFound 50 = .ok (.invokestatic 332, 3) := by decide +kernel
theorem dX7_listFound_53 : decode cX7_listFound 53 = .ok (.istore 8, 2) := by decide +kernel
theorem dX7_listFound_55 : decode cX7_listFound 55 = .ok (.iconst 0, 1) := by decide +kernel
theorem dX7_listFound_56 : decode cX7_listFound 56 = .ok (.istore 9, 2) := by decide +kernel
theorem dX7_listFound_58 : decode cX7_listFound 58 = .ok (.iload 9, 2) := by decide +kernel
theorem dX7_listFound_60 : decode cX7_listFound 60 = .ok (.iload 4, 2) := by decide +kernel
theorem dX7_listFound_62 : decode cX7_listFound 62 = .ok (.if_icmp .ge 77, 3) := by decide +kernel
theorem dX7_listFound_65 : decode cX7_listFound 65 = .ok (.aload_n 1, 1) := by decide +kernel
theorem dX7_listFound_66 : decode cX7_listFound 66 = .ok (.aload_n 0, 1) := by decide +kernel
theorem dX7_listFound_67 : decode cX7_listFound 67 = .ok (.getfield 19, 3) := by decide +kernel
theorem dX7_listFound_70 : decode cX7_listFound 70 = .ok (.getfield 97, 3) := by decide +kernel
theorem dX7_listFound_73 : decode cX7_listFound 73 = .ok (.iconst (-1), 1) := by decide +kernel
theorem dX7_listFound_74 : decode cX7_listFound 74 = .ok (.iload 9, 2) := by decide +kernel
theorem dX7_listFound_76 : decode cX7_listFound 76 = .ok (.iload 7, 2) := by decide +kernel
theorem dX7_listFound_78 : decode cX7_listFound 78 = .ok (.bipush 64, 2) := by decide +kernel
theorem dX7_listFound_80 : decode cX7_listFound 80 = .ok (.idiv, 1) := by decide +kernel
theorem dX7_listFound_81 : decode cX7_listFound 81 = .ok (.invokevirtual 200, 3) := by decide +kernel
theorem dX7_listFound_84 : decode cX7_listFound 84 = .ok (.lstore 10, 2) := by decide +kernel
theorem dX7_listFound_86 : decode cX7_listFound 86 = .ok (.iconst 0, 1) := by decide +kernel
theorem dX7_listFound_87 : decode cX7_listFound 87 = .ok (.istore 12, 2) := by decide +kernel
theorem dX7_listFound_89 : decode cX7_listFound 89 = .ok (.iload 12, 2) := by decide +kernel
theorem dX7_listFound_91 : decode cX7_listFound 91 = .ok (.iload 8, 2) := by decide +kernel
theorem dX7_listFound_93 : decode cX7_listFound 93 = .ok (.if_icmp .ge 40, 3) := by decide +kernel
theorem dX7_listFound_96 : decode cX7_listFound 96 = .ok (.lload 10, 2) := by decide +kernel
theorem dX7_listFound_98 : decode cX7_listFound 98 = .ok (.iload 12, 2) := by decide +kernel
theorem dX7_listFound_100 : decode cX7_listFound 100 = .ok (.lushr, 1) := by decide +kernel
theorem dX7_listFound_101 : decode cX7_listFound 101 = .ok (.lconst 1, 1) := by decide +kernel
theorem dX7_listFound_102 : decode cX7_listFound 102 = .ok (.land, 1) := by decide +kernel
theorem dX7_listFound_103 : decode cX7_listFound 103 = .ok (.iload 9, 2) := by decide +kernel
theorem dX7_listFound_105 : decode cX7_listFound 105 = .ok (.lshl, 1) := by decide +kernel
theorem dX7_listFound_106 : decode cX7_listFound 106 = .ok (.lstore 13, 2) := by decide +kernel
theorem dX7_listFound_108 : decode cX7_listFound 108 = .ok (.aload_n 3, 1) := by decide +kernel
theorem dX7_listFound_109 : decode cX7_listFound 109 = .ok (.iload 7, 2) := by decide +kernel
theorem dX7_listFound_111 : decode cX7_listFound 111 = .ok (.iload 12, 2) := by decide +kernel
theorem dX7_listFound_113 : decode cX7_listFound 113 = .ok (.iadd, 1) := by decide +kernel
theorem dX7_listFound_114 : decode cX7_listFound 114 = .ok (.dup2, 1) := by decide +kernel
theorem dX7_listFound_115 : decode cX7_listFound 115 = .ok (.laload, 1) := by decide +kernel
theorem dX7_listFound_116 : decode cX7_listFound 116 = .ok (.lload 13, 2) := by decide +kernel
theorem dX7_listFound_118 : decode cX7_listFound 118 = .ok (.lor, 1) := by decide +kernel
theorem dX7_listFound_119 : decode cX7_listFound 119 = .ok (.lastore, 1) := by decide +kernel
theorem dX7_listFound_120 : decode cX7_listFound 120 = .ok (.lload 5, 2) := by decide +kernel
theorem dX7_listFound_122 : decode cX7_listFound 122 = .ok (.lload 13, 2) := by decide +kernel
theorem dX7_listFound_124 : decode cX7_listFound 124 = .ok (.lor, 1) := by decide +kernel
theorem dX7_listFound_125 : decode cX7_listFound 125 = .ok (.lstore 5, 2) := by decide +kernel
theorem dX7_listFound_127 : decode cX7_listFound 127 = .ok (.iinc 12 1, 3) := by decide +kernel
theorem dX7_listFound_130 : decode cX7_listFound 130 = .ok (.goto (-41), 3) := by decide +kernel
theorem dX7_listFound_133 : decode cX7_listFound 133 = .ok (.iinc 9 1, 3) := by decide +kernel
theorem dX7_listFound_136 : decode cX7_listFound 136 = .ok (.goto (-78), 3) := by decide +kernel
theorem dX7_listFound_139 : decode cX7_listFound 139 = .ok (.iinc 7 64, 3) := by decide +kernel
theorem dX7_listFound_142 : decode cX7_listFound 142 = .ok (.goto (-104), 3) := by decide +kernel
theorem dX7_listFound_145 : decode cX7_listFound 145 = .ok (.lload 5, 2) := by decide +kernel
theorem dX7_listFound_147 : decode cX7_listFound 147 = .ok (.lreturn, 1) := by decide +kernel
set_option maxRecDepth 20000 in
theorem ggX7_firstAlike_X3_firstApart : GoodIn wsX7_firstAlike wsX3_firstApart := goodIn_r _ [8, 9, 10, 11, 12, 13, 14, 15, 16, 17, 18, 19, 20, 21, 22, 7, 23, 24, 25, 26, 27, 28, 29, 30, 31, 32, 33, 34, 35, 36, 37, 52, 53, 54, 55, 56, 57, 58, 59, 60, 61, 62, 63, 64, 65, 66, 67, 68, 69, 70] (by decide +kernel) (by decide +kernel)
set_option maxRecDepth 20000 in
theorem gX7_firstAlike_X3_firstApart : GoodIn wsX7_firstAlike (wsV RX7 215 RX3 yX3_firstApart wsX3_firstApart) := goodIn_app (goodIn_of _ (by decide +kernel)) ggX7_firstAlike_X3_firstApart
theorem dX7_firstAlike_0 : decode cX7_firstAlike 0 = .ok (.iconst 0, 1) := by decide +kernel
theorem dX7_firstAlike_1 : decode cX7_firstAlike 1 = .ok (.istore_n 2, 1) := by decide +kernel
theorem dX7_firstAlike_2 : decode cX7_firstAlike 2 = .ok (.iload_n 2, 1) := by decide +kernel
theorem dX7_firstAlike_3 : decode cX7_firstAlike 3 = .ok (.iload_n 1, 1) := by decide +kernel
theorem dX7_firstAlike_4 : decode cX7_firstAlike 4 = .ok (.if_icmp .ge 30, 3) := by decide +kernel
theorem dX7_firstAlike_7 : decode cX7_firstAlike 7 = .ok (.aload_n 0, 1) := by decide +kernel
theorem dX7_firstAlike_8 : decode cX7_firstAlike 8 = .ok (.getfield 35, 3) := by decide +kernel
theorem dX7_firstAlike_11 : decode cX7_firstAlike 11 = .ok (.aload_n 0, 1) := by decide +kernel
theorem dX7_firstAlike_12 : decode cX7_firstAlike 12 = .ok (.getfield 19, 3) := by decide +kernel
theorem dX7_firstAlike_15 : decode cX7_firstAlike 15 = .ok (.getfield 97, 3) := by decide +kernel
theorem dX7_firstAlike_18 : decode cX7_firstAlike 18 = .ok (.iload_n 1, 1) := by decide +kernel
theorem dX7_firstAlike_19 : decode cX7_firstAlike 19 = .ok (.iload_n 2, 1) := by decide +kernel
theorem dX7_firstAlike_20 : decode cX7_firstAlike 20 = .ok (.invokevirtual 215, 3) := by decide +kernel
theorem dX7_firstAlike_23 : decode cX7_firstAlike 23 = .ok (.ifCond .ge 5, 3) := by decide +kernel
theorem dX7_firstAlike_26 : decode cX7_firstAlike 26 = .ok (.iload_n 2, 1) := by decide +kernel
theorem dX7_firstAlike_27 : decode cX7_firstAlike 27 = .ok (.ireturn, 1) := by decide +kernel
theorem dX7_firstAlike_28 : decode cX7_firstAlike 28 = .ok (.iinc 2 1, 3) := by decide +kernel
theorem dX7_firstAlike_31 : decode cX7_firstAlike 31 = .ok (.goto (-29), 3) := by decide +kernel
theorem dX7_firstAlike_34 : decode cX7_firstAlike 34 = .ok (.iload_n 1, 1) := by decide +kernel
theorem dX7_firstAlike_35 : decode cX7_firstAlike 35 = .ok (.ireturn, 1) := by decide +kernel
set_option maxRecDepth 20000 in
theorem ggX7_smallestCover_X7_smallestCover : GoodIn wsX7_smallestCover wsX7_smallestCover := goodIn_r _ [0, 1, 2, 3, 4] (by decide +kernel) (by decide +kernel)
set_option maxRecDepth 20000 in
theorem gX7_smallestCover_X7_smallestCover : GoodIn wsX7_smallestCover (va_wsS RX7 225 yX7_smallestCover wsX7_smallestCover) := goodIn_app (goodIn_of _ (by decide +kernel)) ggX7_smallestCover_X7_smallestCover
theorem dX7_smallestCover_0 : decode cX7_smallestCover 0 = .ok (.lload_n 3, 1) := by decide +kernel
theorem dX7_smallestCover_1 : decode cX7_smallestCover 1 = .ok (.lconst 0, 1) := by decide +kernel
theorem dX7_smallestCover_2 : decode cX7_smallestCover 2 = .ok (.lcmp, 1) := by decide +kernel
theorem dX7_smallestCover_3 : decode cX7_smallestCover 3 = .ok (.ifCond .ne 5, 3) := by decide +kernel
theorem dX7_smallestCover_6 : decode cX7_smallestCover 6 = .ok (.iconst 0, 1) := by decide +kernel
theorem dX7_smallestCover_7 : decode cX7_smallestCover 7 = .ok (.ireturn, 1) := by decide +kernel
theorem dX7_smallestCover_8 : decode cX7_smallestCover 8 = .ok (.iload_n 2, 1) := by decide +kernel
theorem dX7_smallestCover_9 : decode cX7_smallestCover 9 = .ok (.ifCond .lt 28, 3) := by decide +kernel
theorem dX7_smallestCover_12 : decode cX7_smallestCover 12 = .ok (.iload_n 2, 1) := by decide +kernel
theorem dX7_smallestCover_13 : decode cX7_smallestCover 13 = .ok (.bipush 16, 2) := by decide +kernel
