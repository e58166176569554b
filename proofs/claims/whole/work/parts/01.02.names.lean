theorem dX4_copyFrom_0 : decode cX4_copyFrom 0 = .ok (.aload_n 0, 1) := by decide +kernel
theorem dX4_copyFrom_1 : decode cX4_copyFrom 1 = .ok (.getfield 10, 3) := by decide +kernel
theorem dX4_copyFrom_4 : decode cX4_copyFrom 4 = .ok (.aload_n 1, 1) := by decide +kernel
theorem dX4_copyFrom_5 : decode cX4_copyFrom 5 = .ok (.getfield 10, 3) := by decide +kernel
theorem dX4_copyFrom_8 : decode cX4_copyFrom 8 = .ok (.invokevirtual 29, 3) := by decide +kernel
theorem dX4_copyFrom_11 : decode cX4_copyFrom 11 = .ok (.aload_n 0, 1) := by decide +kernel
theorem dX4_copyFrom_12 : decode cX4_copyFrom 12 = .ok (.getfield 19, 3) := by decide +kernel
theorem dX4_copyFrom_15 : decode cX4_copyFrom 15 = .ok (.aload_n 1, 1) := by decide +kernel
theorem dX4_copyFrom_16 : decode cX4_copyFrom 16 = .ok (.getfield 19, 3) := by decide +kernel
theorem dX4_copyFrom_19 : decode cX4_copyFrom 19 = .ok (.invokevirtual 33, 3) := by decide +kernel
theorem dX4_copyFrom_22 : decode cX4_copyFrom 22 = .ok (.return_, 1) := by decide +kernel
set_option maxRecDepth 20000 in
theorem ggX5_init_X4_init : GoodIn wsX5_init wsX4_init := goodIn_r _ [19, 20, 2, 3, 21, 22, 23, 24, 25, 26, 27, 28, 29, 30, 31, 32, 10, 33, 34, 35, 36, 37, 38, 39, 40, 41, 42, 43, 44, 45, 46, 47, 48, 49, 50, 51, 52, 53, 54, 55, 56, 57, 58, 71, 72, 73, 74, 75, 76, 77, 78, 79, 80, 81, 82, 83, 84, 59, 60, 85, 86, 87, 88, 89] (by decide +kernel) (by decide +kernel)
set_option maxRecDepth 20000 in
theorem gX5_init_X4_init_n11 : GoodIn wsX5_init (wsX4_init) := ggX5_init_X4_init
theorem dX5_init_0 : decode cX5_init 0 = .ok (.aload_n 0, 1) := by decide +kernel
theorem dX5_init_1 : decode cX5_init 1 = .ok (.invokespecial 3, 3) := by decide +kernel
theorem dX5_init_4 : decode cX5_init 4 = .ok (.aload_n 0, 1) := by decide +kernel
theorem dX5_init_5 : decode cX5_init 5 = .ok (.new 9, 3) := by decide +kernel
theorem dX5_init_8 : decode cX5_init 8 = .ok (.dup, 1) := by decide +kernel
theorem dX5_init_9 : decode cX5_init 9 = .ok (.invokespecial 11, 3) := by decide +kernel
theorem dX5_init_12 : decode cX5_init 12 = .ok (.putfield 12, 3) := by decide +kernel
theorem dX5_init_15 : decode cX5_init 15 = .ok (.aload_n 0, 1) := by decide +kernel
theorem dX5_init_16 : decode cX5_init 16 = .ok (.iconst 0, 1) := by decide +kernel
theorem dX5_init_17 : decode cX5_init 17 = .ok (.putfield 18, 3) := by decide +kernel
theorem dX5_init_20 : decode cX5_init 20 = .ok (.aload_n 0, 1) := by decide +kernel
theorem dX5_init_21 : decode cX5_init 21 = .ok (.iconst (-1), 1) := by decide +kernel
theorem dX5_init_22 : decode cX5_init 22 = .ok (.putfield 22, 3) := by decide +kernel
theorem dX5_init_25 : decode cX5_init 25 = .ok (.aload_n 0, 1) := by decide +kernel
theorem dX5_init_26 : decode cX5_init 26 = .ok (.sipush 800, 3) := by decide +kernel
theorem dX5_init_29 : decode cX5_init 29 = .ok (.newarray .int, 2) := by decide +kernel
theorem dX5_init_31 : decode cX5_init 31 = .ok (.putfield 25, 3) := by decide +kernel
theorem dX5_init_34 : decode cX5_init 34 = .ok (.aload_n 0, 1) := by decide +kernel
theorem dX5_init_35 : decode cX5_init 35 = .ok (.iconst 0, 1) := by decide +kernel
theorem dX5_init_36 : decode cX5_init 36 = .ok (.putfield 29, 3) := by decide +kernel
theorem dX5_init_39 : decode cX5_init 39 = .ok (.aload_n 0, 1) := by decide +kernel
theorem dX5_init_40 : decode cX5_init 40 = .ok (.iconst 0, 1) := by decide +kernel
theorem dX5_init_41 : decode cX5_init 41 = .ok (.putfield 32, 3) := by decide +kernel
theorem dX5_init_44 : decode cX5_init 44 = .ok (.aload_n 0, 1) := by decide +kernel
theorem dX5_init_45 : decode cX5_init 45 = .ok (.iconst 0, 1) := by decide +kernel
theorem dX5_init_46 : decode cX5_init 46 = .ok (.putfield 35, 3) := by decide +kernel
theorem dX5_init_49 : decode cX5_init 49 = .ok (.aload_n 0, 1) := by decide +kernel
theorem dX5_init_50 : decode cX5_init 50 = .ok (.iconst 0, 1) := by decide +kernel
theorem dX5_init_51 : decode cX5_init 51 = .ok (.putfield 38, 3) := by decide +kernel
theorem dX5_init_54 : decode cX5_init 54 = .ok (.aload_n 0, 1) := by decide +kernel
theorem dX5_init_55 : decode cX5_init 55 = .ok (.iconst 0, 1) := by decide +kernel
theorem dX5_init_56 : decode cX5_init 56 = .ok (.putfield 41, 3) := by decide +kernel
theorem dX5_init_59 : decode cX5_init 59 = .ok (.aload_n 0, 1) := by decide +kernel
theorem dX5_init_60 : decode cX5_init 60 = .ok (.iconst 0, 1) := by decide +kernel
theorem dX5_init_61 : decode cX5_init 61 = .ok (.putfield 44, 3) := by decide +kernel
theorem dX5_init_64 : decode cX5_init 64 = .ok (.return_, 1) := by decide +kernel
theorem dX5_putBytes_0 : decode cX5_putBytes 0 = .ok (.bipush 24, 2) := by decide +kernel
theorem dX5_putBytes_2 : decode cX5_putBytes 2 = .ok (.istore_n 2, 1) := by decide +kernel
theorem dX5_putBytes_3 : decode cX5_putBytes 3 = .ok (.iload_n 2, 1) := by decide +kernel
theorem dX5_putBytes_4 : decode cX5_putBytes 4 = .ok (.ifCond .lt 45, 3) := by decide +kernel
theorem dX5_putBytes_7 : decode cX5_putBytes 7 = .ok (.aload_n 0, 1) := by decide +kernel
theorem dX5_putBytes_8 : decode cX5_putBytes 8 = .ok (.getfield 18, 3) := by decide +kernel
theorem dX5_putBytes_11 : decode cX5_putBytes 11 = .ok (.sipush 800, 3) := by decide +kernel
theorem dX5_putBytes_14 : decode cX5_putBytes 14 = .ok (.if_icmp .ge 35, 3) := by decide +kernel
theorem dX5_putBytes_17 : decode cX5_putBytes 17 = .ok (.aload_n 0, 1) := by decide +kernel
theorem dX5_putBytes_18 : decode cX5_putBytes 18 = .ok (.getfield 25, 3) := by decide +kernel
theorem dX5_putBytes_21 : decode cX5_putBytes 21 = .ok (.aload_n 0, 1) := by decide +kernel
theorem dX5_putBytes_22 : decode cX5_putBytes 22 = .ok (.getfield 18, 3) := by decide +kernel
theorem dX5_putBytes_25 : decode cX5_putBytes 25 = .ok (.iload_n 1, 1) := by decide +kernel
theorem dX5_putBytes_26 : decode cX5_putBytes 26 = .ok (.iload_n 2, 1) := by decide +kernel
theorem dX5_putBytes_27 : decode cX5_putBytes 27 = .ok (.iushr, 1) := by decide +kernel
theorem dX5_putBytes_28 : decode cX5_putBytes 28 = .ok (.sipush 255, 3) := by decide +kernel
theorem dX5_putBytes_31 : decode cX5_putBytes 31 = .ok (.iand, 1) := by decide +kernel
theorem dX5_putBytes_32 : decode cX5_putBytes 32 = .ok (.iastore, 1) := by decide +kernel
theorem dX5_putBytes_33 : decode cX5_putBytes 33 = .ok (.aload_n 0, 1) := by decide +kernel
theorem dX5_putBytes_34 : decode cX5_putBytes 34 = .ok (.dup, 1) := by decide +kernel
theorem dX5_putBytes_35 : decode cX5_putBytes 35 = .ok (.getfield 18, 3) := by decide +kernel
theorem dX5_putBytes_38 : decode cX5_putBytes 38 = .ok (.iconst 1, 1) := by decide +kernel
theorem dX5_putBytes_39 : decode cX5_putBytes 39 = .ok (.iadd, 1) := by decide +kernel
theorem dX5_putBytes_40 : decode cX5_putBytes 40 = .ok (.putfield 18, 3) := by decide +kernel
theorem dX5_putBytes_43 : decode cX5_putBytes 43 = .ok (.iinc 2 (-8), 3) := by decide +kernel
theorem dX5_putBytes_46 : decode cX5_putBytes 46 = .ok (.goto (-43), 3) := by decide +kernel
theorem dX5_putBytes_49 : decode cX5_putBytes 49 = .ok (.return_, 1) := by decide +kernel
set_option maxRecDepth 20000 in
theorem ggX5_read_X4_clear : GoodIn wsX5_read wsX4_clear := goodIn_r _ [16, 17, 18, 19, 20, 21, 22, 23, 24, 25, 26, 27, 28, 29, 30, 31, 32, 33, 34, 35, 36, 37, 38, 39, 40, 41, 42, 43, 44, 228, 229, 230, 231, 232, 233, 234, 235, 236, 237, 238, 239, 240, 241, 242, 243, 244, 245, 246, 247, 248] (by decide +kernel) (by decide +kernel)
set_option maxRecDepth 20000 in
theorem gX5_read_X4_clear : GoodIn wsX5_read (wsV RX5 53 RX4 yX4_clear wsX4_clear) := goodIn_app (goodIn_of _ (by decide +kernel)) ggX5_read_X4_clear
set_option maxRecDepth 20000 in
theorem ggX5_read_X5_advance : GoodIn wsX5_read wsX5_advance := goodIn_r _ [49, 7, 6, 50, 51, 52, 11, 53, 2, 3, 4, 5, 54, 55, 48, 56, 57, 58, 59, 218, 219, 220, 221, 222, 223, 224, 225, 226, 227] (by decide +kernel) (by decide +kernel)
set_option maxRecDepth 20000 in
theorem gX5_read_X5_advance : GoodIn wsX5_read (wsV RX5 57 RX5 yX5_advance wsX5_advance) := goodIn_app (goodIn_of _ (by decide +kernel)) ggX5_read_X5_advance
set_option maxRecDepth 20000 in
theorem ggX5_read_X5_readCircuit : GoodIn wsX5_read wsX5_readCircuit := goodIn_r _ [63, 11, 52, 10, 64, 65, 66, 48, 67, 7, 51, 6, 50, 68, 69, 70, 71, 72, 73, 74, 75, 76, 77, 78, 79, 80, 81, 82, 83, 84, 85, 86, 87, 88, 89, 90, 91, 92, 93, 94, 95, 96, 97, 98, 99, 100, 101, 102, 103, 104, 105, 106, 107, 108, 109, 110, 111, 112, 113, 114, 115, 116, 117, 118, 119, 120, 8, 9, 45, 46, 47, 49, 53, 2, 3, 4, 5, 54, 55, 56, 57, 58, 59, 12, 13, 14, 15, 16, 17, 18, 19, 20, 21, 22, 23, 24, 25, 26, 27, 28, 29, 30, 31, 32, 33, 34, 35, 36, 37, 38, 39, 40, 41, 42, 43, 44, 121, 122, 123, 124, 218, 219, 220, 221, 222, 223, 224, 225, 226, 227, 228, 229, 230, 231, 232, 233, 234, 235, 236, 237, 238, 239, 240, 241, 242, 243, 244, 245, 246, 247, 248] (by decide +kernel) (by decide +kernel)
set_option maxRecDepth 20000 in
theorem gX5_read_X5_readCircuit : GoodIn wsX5_read (wsV RX5 60 RX5 yX5_readCircuit wsX5_readCircuit) := goodIn_app (goodIn_of _ (by decide +kernel)) ggX5_read_X5_readCircuit
set_option maxRecDepth 20000 in
theorem ggX5_read_X5_readStatement : GoodIn wsX5_read wsX5_readStatement := goodIn_r _ [128, 64, 65, 66, 48, 67, 11, 7, 51, 6, 50, 68, 69, 70, 71, 72, 73, 74, 75, 76, 77, 78, 79, 80, 81, 82, 83, 84, 85, 86, 87, 88, 89, 90, 91, 92, 93, 94, 95, 96, 97, 98, 99, 100, 101, 102, 103, 104, 105, 106, 107, 108, 109, 110, 111, 112, 113, 114, 115, 116, 129, 130, 131, 132, 10, 133, 52, 134, 135, 136, 137, 22, 138, 25, 24, 117, 118, 119, 120, 8, 9, 45, 46, 47, 49, 53, 2, 3, 4, 5, 54, 55, 56, 57, 58, 59, 139, 140, 141, 142, 143, 144, 145, 146, 28, 29, 147, 148, 149, 150, 151, 152, 153, 154, 155, 31, 30, 156, 157, 158, 32, 121, 122, 123, 124, 159, 160, 161, 162, 163, 164, 165, 166, 26, 167, 168, 169, 170, 171, 172, 173, 174, 175, 176, 177, 178, 179, 180, 181, 182, 183, 27, 184, 185, 186, 187, 188, 189, 190, 191, 192, 193, 194, 195, 196, 197, 198, 199, 200, 201, 202, 203, 204, 205, 206, 207, 208, 209, 210, 36, 211, 38, 212, 213, 214, 215, 216, 217, 218, 219, 220, 221, 222, 223, 224, 225, 226, 227, 228, 229, 230, 231, 232, 233, 234, 235, 236, 237, 238, 239, 240, 241, 242, 243, 244, 245, 246, 247, 248] (by decide +kernel) (by decide +kernel)
set_option maxRecDepth 20000 in
theorem gX5_read_X5_readStatement : GoodIn wsX5_read (wsV RX5 64 RX5 yX5_readStatement wsX5_readStatement) := goodIn_app (goodIn_of _ (by decide +kernel)) ggX5_read_X5_readStatement
theorem dX5_read_0 : decode cX5_read 0 = .ok (.aload_n 0, 1) := by decide +kernel
theorem dX5_read_1 : decode cX5_read 1 = .ok (.iload_n 1, 1) := by decide +kernel
theorem dX5_read_2 : decode cX5_read 2 = .ok (.aload_n 0, 1) := by decide +kernel
theorem dX5_read_3 : decode cX5_read 3 = .ok (.getfield 18, 3) := by decide +kernel
theorem dX5_read_6 : decode cX5_read 6 = .ok (.invokestatic 47, 3) := by decide +kernel
theorem dX5_read_9 : decode cX5_read 9 = .ok (.putfield 32, 3) := by decide +kernel
theorem dX5_read_12 : decode cX5_read 12 = .ok (.aload_n 0, 1) := by decide +kernel
theorem dX5_read_13 : decode cX5_read 13 = .ok (.iconst 0, 1) := by decide +kernel
theorem dX5_read_14 : decode cX5_read 14 = .ok (.putfield 18, 3) := by decide +kernel
theorem dX5_read_17 : decode cX5_read 17 = .ok (.aload_n 0, 1) := by decide +kernel
theorem dX5_read_18 : decode cX5_read 18 = .ok (.iconst 0, 1) := by decide +kernel
theorem dX5_read_19 : decode cX5_read 19 = .ok (.putfield 35, 3) := by decide +kernel
theorem dX5_read_22 : decode cX5_read 22 = .ok (.aload_n 0, 1) := by decide +kernel
theorem dX5_read_23 : decode cX5_read 23 = .ok (.iconst 0, 1) := by decide +kernel
theorem dX5_read_24 : decode cX5_read 24 = .ok (.putfield 29, 3) := by decide +kernel
theorem dX5_read_27 : decode cX5_read 27 = .ok (.aload_n 0, 1) := by decide +kernel
theorem dX5_read_28 : decode cX5_read 28 = .ok (.iconst (-1), 1) := by decide +kernel
theorem dX5_read_29 : decode cX5_read 29 = .ok (.putfield 22, 3) := by decide +kernel
theorem dX5_read_32 : decode cX5_read 32 = .ok (.aload_n 0, 1) := by decide +kernel
theorem dX5_read_33 : decode cX5_read 33 = .ok (.getfield 12, 3) := by decide +kernel
theorem dX5_read_36 : decode cX5_read 36 = .ok (.iconst 1, 1) := by decide +kernel
theorem dX5_read_37 : decode cX5_read 37 = .ok (.invokevirtual 53, 3) := by decide +kernel
theorem dX5_read_40 : decode cX5_read 40 = .ok (.aload_n 0, 1) := by decide +kernel
theorem dX5_read_41 : decode cX5_read 41 = .ok (.invokevirtual 57, 3) := by decide +kernel
theorem dX5_read_44 : decode cX5_read 44 = .ok (.aload_n 0, 1) := by decide +kernel
theorem dX5_read_45 : decode cX5_read 45 = .ok (.invokevirtual 60, 3) := by decide +kernel
theorem dX5_read_48 : decode cX5_read 48 = .ok (.istore_n 2, 1) := by decide +kernel
theorem dX5_read_49 : decode cX5_read 49 = .ok (.iconst 0, 1) := by decide +kernel
theorem dX5_read_50 : decode cX5_read 50 = .ok (.istore_n 3, 1) := by decide +kernel
theorem dX5_read_51 : decode cX5_read 51 = .ok (.iload_n 3, 1) := by decide +kernel
theorem dX5_read_52 : decode cX5_read 52 = .ok (.sipush 800, 3) := by decide +kernel
theorem dX5_read_55 : decode cX5_read 55 = .ok (.if_icmp .ge 25, 3) := by decide +kernel
theorem dX5_read_58 : decode cX5_read 58 = .ok (.iload_n 2, 1) := by decide +kernel
theorem dX5_read_59 : decode cX5_read 59 = .ok (.ifCond .eq 21, 3) := by decide +kernel
theorem dX5_read_62 : decode cX5_read 62 = .ok (.aload_n 0, 1) := by decide +kernel
theorem dX5_read_63 : decode cX5_read 63 = .ok (.getfield 38, 3) := by decide +kernel
theorem dX5_read_66 : decode cX5_read 66 = .ok (.ifCond .eq 14, 3) := by decide +kernel
theorem dX5_read_69 : decode cX5_read 69 = .ok (.aload_n 0, 1) := by decide +kernel
theorem dX5_read_70 : decode cX5_read 70 = .ok (.invokevirtual 64, 3) := by decide +kernel
theorem dX5_read_73 : decode cX5_read 73 = .ok (.istore_n 2, 1) := by decide +kernel
theorem dX5_read_74 : decode cX5_read 74 = .ok (.iinc 3 1, 3) := by decide +kernel
theorem dX5_read_77 : decode cX5_read 77 = .ok (.goto (-26), 3) := by decide +kernel
theorem dX5_read_80 : decode cX5_read 80 = .ok (.aload_n 0, 1) := by decide +kernel
theorem dX5_read_81 : decode cX5_read 81 = .ok (.getfield 29, 3) := by decide +kernel
theorem dX5_read_84 : decode cX5_read 84 = .ok (.ireturn, 1) := by decide +kernel
theorem dX5_fail_0 : decode cX5_fail 0 = .ok (.aload_n 0, 1) := by decide +kernel
theorem dX5_fail_1 : decode cX5_fail 1 = .ok (.iload_n 1, 1) := by decide +kernel
theorem dX5_fail_2 : decode cX5_fail 2 = .ok (.putfield 29, 3) := by decide +kernel
theorem dX5_fail_5 : decode cX5_fail 5 = .ok (.aload_n 0, 1) := by decide +kernel
theorem dX5_fail_6 : decode cX5_fail 6 = .ok (.aload_n 0, 1) := by decide +kernel
theorem dX5_fail_7 : decode cX5_fail 7 = .ok (.getfield 41, 3) := by decide +kernel
theorem dX5_fail_10 : decode cX5_fail 10 = .ok (.putfield 22, 3) := by decide +kernel
theorem dX5_fail_13 : decode cX5_fail 13 = .ok (.iconst 0, 1) := by decide +kernel
theorem dX5_fail_14 : decode cX5_fail 14 = .ok (.ireturn, 1) := by decide +kernel
set_option maxRecDepth 20000 in
theorem ggX5_readCircuit_X5_isWord : GoodIn wsX5_readCircuit wsX5_isWord := goodIn_r _ [8, 1, 9, 10, 11, 12, 13, 14, 15, 16, 17, 18, 19, 20, 21, 22, 23, 24, 25, 26, 27, 28, 29, 30, 31, 32, 33, 34, 35, 36, 37, 38, 39, 40, 41, 42, 43, 44, 45, 46, 47, 48, 49, 50, 51, 52, 53, 54, 55, 56, 57, 58, 59, 60, 61, 120, 121, 122, 123, 124, 125, 126, 127, 128, 129] (by decide +kernel) (by decide +kernel)
set_option maxRecDepth 20000 in
theorem gX5_readCircuit_X5_isWord : GoodIn wsX5_readCircuit (wsV RX5 69 RX5 yX5_isWord wsX5_isWord) := goodIn_app (goodIn_of _ (by decide +kernel)) ggX5_readCircuit_X5_isWord
set_option maxRecDepth 20000 in
theorem ggX5_readCircuit_X5_fail : GoodIn wsX5_readCircuit wsX5_fail := goodIn_r _ [65, 66, 10, 67, 120, 121, 122, 123, 124, 125, 126, 127, 128, 129] (by decide +kernel) (by decide +kernel)
set_option maxRecDepth 20000 in
theorem gX5_readCircuit_X5_fail : GoodIn wsX5_readCircuit (wsV RX5 73 RX5 yX5_fail wsX5_fail) := goodIn_app (goodIn_of _ (by decide +kernel)) ggX5_readCircuit_X5_fail
set_option maxRecDepth 20000 in
theorem ggX5_readCircuit_X5_advance : GoodIn wsX5_readCircuit wsX5_advance := goodIn_r _ [71, 9, 11, 12, 10, 2, 1, 72, 73, 74, 75, 76, 77, 78, 7, 79, 80, 81, 82, 120, 121, 122, 123, 124, 125, 126, 127, 128, 129] (by decide +kernel) (by decide +kernel)
set_option maxRecDepth 20000 in
theorem gX5_readCircuit_X5_advance : GoodIn wsX5_readCircuit (wsV RX5 57 RX5 yX5_advance wsX5_advance) := goodIn_app (goodIn_of _ (by decide +kernel)) ggX5_readCircuit_X5_advance
set_option maxRecDepth 20000 in
theorem ggX5_readCircuit_X4_clear : GoodIn wsX5_readCircuit wsX4_clear := goodIn_r _ [87, 88, 89, 90, 91, 92, 93, 94, 95, 96, 97, 98, 99, 100, 101, 102, 103, 104, 105, 106, 107, 108, 109, 110, 111, 112, 113, 114, 115, 130, 131, 132, 133, 134, 135, 136, 137, 138, 139, 140, 141, 142, 143, 144, 145, 146, 147, 148, 149, 150] (by decide +kernel) (by decide +kernel)
set_option maxRecDepth 20000 in
theorem gX5_readCircuit_X4_clear : GoodIn wsX5_readCircuit (wsV RX5 53 RX4 yX4_clear wsX4_clear) := goodIn_app (goodIn_of _ (by decide +kernel)) ggX5_readCircuit_X4_clear
set_option maxRecDepth 20000 in
theorem ggX5_readCircuit_X5_readSemicolon : GoodIn wsX5_readCircuit wsX5_readSemicolon := goodIn_r _ [119, 1, 62, 63, 64, 7, 65, 66, 10, 67, 68, 69, 70, 71, 9, 11, 12, 2, 72, 73, 74, 75, 76, 77, 78, 79, 80, 81, 82, 120, 121, 122, 123, 124, 125, 126, 127, 128, 129] (by decide +kernel) (by decide +kernel)
set_option maxRecDepth 20000 in
theorem gX5_readCircuit_X5_readSemicolon : GoodIn wsX5_readCircuit (wsV RX5 77 RX5 yX5_readSemicolon wsX5_readSemicolon) := goodIn_app (goodIn_of _ (by decide +kernel)) ggX5_readCircuit_X5_readSemicolon
theorem dX5_readCircuit_0 : decode cX5_readCircuit 0 = .ok (.aload_n 0, 1) := by decide +kernel
theorem dX5_readCircuit_1 : decode cX5_readCircuit 1 = .ok (.ldc 67, 2) := by decide +kernel
theorem dX5_readCircuit_3 : decode cX5_readCircuit 3 = .ok (.invokevirtual 69, 3) := by decide +kernel
theorem dX5_readCircuit_6 : decode cX5_readCircuit 6 = .ok (.ifCond .ne 10, 3) := by decide +kernel
theorem dX5_readCircuit_9 : decode cX5_readCircuit 9 = .ok (.aload_n 0, 1) := by decide +kernel
theorem dX5_readCircuit_10 : decode cX5_readCircuit 10 = .ok (.bipush (-2), 2) := by decide +kernel
theorem dX5_readCircuit_12 : decode cX5_readCircuit 12 = .ok (.invokevirtual 73, 3) := by decide +kernel
theorem dX5_readCircuit_15 : decode cX5_readCircuit 15 = .ok (.ireturn, 1) := by decide +kernel
theorem dX5_readCircuit_16 : decode cX5_readCircuit 16 = .ok (.aload_n 0, 1) := by decide +kernel
theorem dX5_readCircuit_17 : decode cX5_readCircuit 17 = .ok (.invokevirtual 57, 3) := by decide +kernel
theorem dX5_readCircuit_20 : decode cX5_readCircuit 20 = .ok (.aload_n 0, 1) := by decide +kernel
theorem dX5_readCircuit_21 : decode cX5_readCircuit 21 = .ok (.getfield 38, 3) := by decide +kernel
theorem dX5_readCircuit_24 : decode cX5_readCircuit 24 = .ok (.iconst 2, 1) := by decide +kernel
theorem dX5_readCircuit_25 : decode cX5_readCircuit 25 = .ok (.if_icmp .eq 10, 3) := by decide +kernel
theorem dX5_readCircuit_28 : decode cX5_readCircuit 28 = .ok (.aload_n 0, 1) := by decide +kernel
theorem dX5_readCircuit_29 : decode cX5_readCircuit 29 = .ok (.bipush (-2), 2) := by decide +kernel
theorem dX5_readCircuit_31 : decode cX5_readCircuit 31 = .ok (.invokevirtual 73, 3) := by decide +kernel
theorem dX5_readCircuit_34 : decode cX5_readCircuit 34 = .ok (.ireturn, 1) := by decide +kernel
theorem dX5_readCircuit_35 : decode cX5_readCircuit 35 = .ok (.aload_n 0, 1) := by decide +kernel
theorem dX5_readCircuit_36 : decode cX5_readCircuit 36 = .ok (.getfield 44, 3) := by decide +kernel
theorem dX5_readCircuit_39 : decode cX5_readCircuit 39 = .ok (.iconst 1, 1) := by decide +kernel
theorem dX5_readCircuit_40 : decode cX5_readCircuit 40 = .ok (.if_icmp .lt 12, 3) := by decide +kernel
theorem dX5_readCircuit_43 : decode cX5_readCircuit 43 = .ok (.aload_n 0, 1) := by decide +kernel
theorem dX5_readCircuit_44 : decode cX5_readCircuit 44 = .ok (.getfield 44, 3) := by decide +kernel
theorem dX5_readCircuit_47 : decode cX5_readCircuit 47 = .ok (.bipush 8, 2) := by decide +kernel
theorem dX5_readCircuit_49 : decode cX5_readCircuit 49 = .ok (.if_icmp .le 10, 3) := by decide +kernel
theorem dX5_readCircuit_52 : decode cX5_readCircuit 52 = .ok (.aload_n 0, 1) := by decide +kernel
theorem dX5_readCircuit_53 : decode cX5_readCircuit 53 = .ok (.bipush (-3), 2) := by decide +kernel
theorem dX5_readCircuit_55 : decode cX5_readCircuit 55 = .ok (.invokevirtual 73, 3) := by decide +kernel
theorem dX5_readCircuit_58 : decode cX5_readCircuit 58 = .ok (.ireturn, 1) := by decide +kernel
theorem dX5_readCircuit_59 : decode cX5_readCircuit 59 = .ok (.aload_n 0, 1) := by decide +kernel
theorem dX5_readCircuit_60 : decode cX5_readCircuit 60 = .ok (.getfield 12, 3) := by decide +kernel
theorem dX5_readCircuit_63 : decode cX5_readCircuit 63 = .ok (.aload_n 0, 1) := by decide +kernel
theorem dX5_readCircuit_64 : decode cX5_readCircuit 64 = .ok (.getfield 44, 3) := by decide +kernel
theorem dX5_readCircuit_67 : decode cX5_readCircuit 67 = .ok (.invokevirtual 53, 3) := by decide +kernel
theorem dX5_readCircuit_70 : decode cX5_readCircuit 70 = .ok (.aload_n 0, 1) := by decide +kernel
theorem dX5_readCircuit_71 : decode cX5_readCircuit 71 = .ok (.invokevirtual 57, 3) := by decide +kernel
theorem dX5_readCircuit_74 : decode cX5_readCircuit 74 = .ok (.aload_n 0, 1) := by decide +kernel
theorem dX5_readCircuit_75 : decode cX5_readCircuit 75 = .ok (.invokevirtual 77, 3) := by decide +kernel
theorem dX5_readCircuit_78 : decode cX5_readCircuit 78 = .ok (.ireturn, 1) := by decide +kernel
set_option maxRecDepth 20000 in
theorem ggX5_readStatement_X5_isWord : GoodIn wsX5_readStatement wsX5_isWord := goodIn_r _ [5, 6, 7, 8, 9, 10, 11, 12, 13, 14, 15, 16, 17, 18, 19, 20, 21, 22, 23, 24, 25, 26, 27, 28, 29, 30, 31, 32, 33, 34, 35, 36, 37, 38, 39, 40, 41, 42, 43, 44, 45, 46, 47, 48, 49, 50, 51, 52, 53, 54, 55, 56, 57, 58, 59, 188, 189, 190, 191, 192, 193, 194, 195, 196, 197] (by decide +kernel) (by decide +kernel)
set_option maxRecDepth 20000 in
theorem gX5_readStatement_X5_isWord : GoodIn wsX5_readStatement (wsV RX5 69 RX5 yX5_isWord wsX5_isWord) := goodIn_app (goodIn_of _ (by decide +kernel)) ggX5_readStatement_X5_isWord
set_option maxRecDepth 20000 in
theorem ggX5_readStatement_X5_readGate : GoodIn wsX5_readStatement wsX5_readGate := goodIn_r _ [63, 64, 65, 6, 66, 67, 68, 69, 70, 71, 72, 73, 74, 75, 76, 77, 4, 78, 79, 8, 80, 81, 82, 83, 84, 7, 9, 10, 85, 86, 87, 88, 89, 90, 91, 92, 93, 94, 95, 96, 97, 98, 99, 1, 2, 3, 5, 11, 12, 13, 14, 15, 16, 17, 18, 19, 20, 21, 22, 23, 24, 25, 26, 27, 28, 29, 30, 31, 32, 33, 34, 35, 36, 37, 38, 39, 40, 41, 42, 43, 44, 45, 46, 47, 48, 49, 50, 51, 52, 53, 54, 55, 56, 57, 58, 59, 100, 101, 102, 103, 104, 105, 106, 107, 108, 109, 110, 111, 112, 113, 114, 115, 116, 117, 118, 119, 120, 121, 122, 123, 124, 188, 189, 190, 191, 192, 193, 194, 195, 196, 197, 198, 199, 200, 201, 202, 203, 204, 205, 206, 207, 208, 209, 210, 211, 212, 213] (by decide +kernel) (by decide +kernel)
set_option maxRecDepth 20000 in
theorem gX5_readStatement_X5_readGate : GoodIn wsX5_readStatement (wsV RX5 82 RX5 yX5_readGate wsX5_readGate) := goodIn_app (goodIn_of _ (by decide +kernel)) ggX5_readStatement_X5_readGate
set_option maxRecDepth 20000 in
theorem ggX5_readStatement_X5_readOutputs : GoodIn wsX5_readStatement wsX5_readOutputs := goodIn_r _ [128, 64, 65, 6, 66, 67, 81, 82, 83, 4, 84, 7, 9, 10, 8, 85, 86, 87, 88, 89, 90, 91, 92, 93, 94, 95, 75, 76, 77, 78, 79, 80, 129, 130, 131, 71, 132, 133, 134, 135, 136, 137, 138, 139, 140, 141, 142, 121, 122, 123, 124, 188, 189, 190, 191, 192, 193, 194, 195, 196, 197, 198, 199, 200, 201, 202, 203, 204, 205, 206, 207, 208, 209, 210, 211, 212, 213] (by decide +kernel) (by decide +kernel)
set_option maxRecDepth 20000 in
theorem gX5_readStatement_X5_readOutputs : GoodIn wsX5_readStatement (wsV RX5 87 RX5 yX5_readOutputs wsX5_readOutputs) := goodIn_app (goodIn_of _ (by decide +kernel)) ggX5_readStatement_X5_readOutputs
set_option maxRecDepth 20000 in
theorem ggX5_readStatement_X5_readBridge : GoodIn wsX5_readStatement wsX5_readBridge := goodIn_r _ [146, 64, 65, 66, 147, 148, 149, 71, 150, 151, 75, 76, 77, 4, 78, 79, 8, 80, 81, 82, 83, 84, 7, 9, 10, 6, 85, 86, 87, 88, 89, 90, 91, 92, 93, 94, 95, 96, 97, 98, 99, 1, 2, 3, 5, 11, 12, 13, 14, 15, 16, 17, 18, 19, 20, 21, 22, 23, 24, 25, 26, 27, 28, 29, 30, 31, 32, 33, 34, 35, 36, 37, 38, 39, 40, 41, 42, 43, 44, 45, 46, 47, 48, 49, 50, 51, 52, 53, 54, 55, 56, 57, 58, 59, 152, 153, 154, 155, 67, 156, 157, 158, 159, 120, 160, 161, 162, 163, 164, 165, 166, 167, 168, 169, 121, 122, 123, 124, 188, 189, 190, 191, 192, 193, 194, 195, 196, 197, 198, 199, 200, 201, 202, 203, 204, 205, 206, 207, 208, 209, 210, 211, 212, 213] (by decide +kernel) (by decide +kernel)
set_option maxRecDepth 20000 in
theorem gX5_readStatement_X5_readBridge : GoodIn wsX5_readStatement (wsV RX5 92 RX5 yX5_readBridge wsX5_readBridge) := goodIn_app (goodIn_of _ (by decide +kernel)) ggX5_readStatement_X5_readBridge
set_option maxRecDepth 20000 in
theorem ggX5_readStatement_X5_readTest : GoodIn wsX5_readStatement wsX5_readTest := goodIn_r _ [173, 64, 174, 65, 175, 6, 66, 176, 177, 178, 179, 180, 181, 75, 76, 77, 4, 78, 79, 8, 80, 81, 82, 83, 84, 7, 9, 10, 85, 86, 87, 88, 89, 90, 91, 92, 93, 94, 95, 1, 2, 3, 5, 11, 12, 13, 14, 15, 16, 17, 18, 19, 20, 21, 22, 23, 24, 25, 26, 27, 28, 29, 30, 31, 32, 33, 34, 35, 36, 37, 38, 39, 40, 41, 42, 43, 44, 45, 46, 47, 48, 49, 50, 51, 52, 53, 54, 55, 56, 57, 58, 59, 182, 183, 184, 185, 186, 187, 121, 122, 123, 124, 188, 189, 190, 191, 192, 193, 194, 195, 196, 197, 198, 199, 200, 201, 202, 203, 204, 205, 206, 207, 208, 209, 210, 211, 212, 213, 214, 215, 216, 217, 218] (by decide +kernel) (by decide +kernel)
set_option maxRecDepth 20000 in
theorem gX5_readStatement_X5_readTest : GoodIn wsX5_readStatement (wsV RX5 97 RX5 yX5_readTest wsX5_readTest) := goodIn_app (goodIn_of _ (by decide +kernel)) ggX5_readStatement_X5_readTest
set_option maxRecDepth 20000 in
theorem ggX5_readStatement_X5_fail : GoodIn wsX5_readStatement wsX5_fail := goodIn_r _ [78, 79, 8, 80, 188, 189, 190, 191, 192, 193, 194, 195, 196, 197] (by decide +kernel) (by decide +kernel)
set_option maxRecDepth 20000 in
theorem gX5_readStatement_X5_fail : GoodIn wsX5_readStatement (wsV RX5 73 RX5 yX5_fail wsX5_fail) := goodIn_app (goodIn_of _ (by decide +kernel)) ggX5_readStatement_X5_fail
theorem dX5_readStatement_0 : decode cX5_readStatement 0 = .ok (.aload_n 0, 1) := by decide +kernel
theorem dX5_readStatement_1 : decode cX5_readStatement 1 = .ok (.ldc 80, 2) := by decide +kernel
theorem dX5_readStatement_3 : decode cX5_readStatement 3 = .ok (.invokevirtual 69, 3) := by decide +kernel
theorem dX5_readStatement_6 : decode cX5_readStatement 6 = .ok (.ifCond .eq 8, 3) := by decide +kernel
theorem dX5_readStatement_9 : decode cX5_readStatement 9 = .ok (.aload_n 0, 1) := by decide +kernel
theorem dX5_readStatement_10 : decode cX5_readStatement 10 = .ok (.invokevirtual 82, 3) := by decide +kernel
theorem dX5_readStatement_13 : decode cX5_readStatement 13 = .ok (.ireturn, 1) := by decide +kernel
theorem dX5_readStatement_14 : decode cX5_readStatement 14 = .ok (.aload_n 0, 1) := by decide +kernel
theorem dX5_readStatement_15 : decode cX5_readStatement 15 = .ok (.ldc 85, 2) := by decide +kernel
theorem dX5_readStatement_17 : decode cX5_readStatement 17 = .ok (.invokevirtual 69, 3) := by decide +kernel
theorem dX5_readStatement_20 : decode cX5_readStatement 20 = .ok (.ifCond .eq 8, 3) := by decide +kernel
theorem dX5_readStatement_23 : decode cX5_readStatement 23 = .ok (.aload_n 0, 1) := by decide +kernel
theorem dX5_readStatement_24 : decode cX5_readStatement 24 = .ok (.invokevirtual 87, 3) := by decide +kernel
theorem dX5_readStatement_27 : decode cX5_readStatement 27 = .ok (.ireturn, 1) := by decide +kernel
theorem dX5_readStatement_28 : decode cX5_readStatement 28 = .ok (.aload_n 0, 1) := by decide +kernel
theorem dX5_readStatement_29 : decode cX5_readStatement 29 = .ok (.ldc 90, 2) := by decide +kernel
theorem dX5_readStatement_31 : decode cX5_readStatement 31 = .ok (.invokevirtual 69, 3) := by decide +kernel
theorem dX5_readStatement_34 : decode cX5_readStatement 34 = .ok (.ifCond .eq 8, 3) := by decide +kernel
theorem dX5_readStatement_37 : decode cX5_readStatement 37 = .ok (.aload_n 0, 1) := by decide +kernel
theorem dX5_readStatement_38 : decode cX5_readStatement 38 = .ok (.invokevirtual 92, 3) := by decide +kernel
theorem dX5_readStatement_41 : decode cX5_readStatement 41 = .ok (.ireturn, 1) := by decide +kernel
theorem dX5_readStatement_42 : decode cX5_readStatement 42 = .ok (.aload_n 0, 1) := by decide +kernel
theorem dX5_readStatement_43 : decode cX5_readStatement 43 = .ok (.ldc 95, 2) := by decide +kernel
theorem dX5_readStatement_45 : decode cX5_readStatement 45 = .ok (.invokevirtual 69, 3) := by decide +kernel
theorem dX5_readStatement_48 : decode cX5_readStatement 48 = .ok (.ifCond .eq 8, 3) := by decide +kernel
theorem dX5_readStatement_51 : decode cX5_readStatement 51 = .ok (.aload_n 0, 1) := by decide +kernel
theorem dX5_readStatement_52 : decode cX5_readStatement 52 = .ok (.invokevirtual 97, 3) := by decide +kernel
theorem dX5_readStatement_55 : decode cX5_readStatement 55 = .ok (.ireturn, 1) := by decide +kernel
theorem dX5_readStatement_56 : decode cX5_readStatement 56 = .ok (.aload_n 0, 1) := by decide +kernel
theorem dX5_readStatement_57 : decode cX5_readStatement 57 = .ok (.bipush (-2), 2) := by decide +kernel
theorem dX5_readStatement_59 : decode cX5_readStatement 59 = .ok (.invokevirtual 73, 3) := by decide +kernel
theorem dX5_readStatement_62 : decode cX5_readStatement 62 = .ok (.ireturn, 1) := by decide +kernel
set_option maxRecDepth 20000 in
theorem ggX5_readSemicolon_X5_fail : GoodIn wsX5_readSemicolon wsX5_fail := goodIn_r _ [6, 7, 8, 9, 29, 30, 31, 32, 33, 34, 35, 36, 37, 38] (by decide +kernel) (by decide +kernel)
set_option maxRecDepth 20000 in
theorem gX5_readSemicolon_X5_fail : GoodIn wsX5_readSemicolon (wsV RX5 73 RX5 yX5_fail wsX5_fail) := goodIn_app (goodIn_of _ (by decide +kernel)) ggX5_readSemicolon_X5_fail
set_option maxRecDepth 20000 in
theorem ggX5_readSemicolon_X5_advance : GoodIn wsX5_readSemicolon wsX5_advance := goodIn_r _ [13, 14, 15, 16, 8, 17, 1, 18, 19, 20, 21, 22, 23, 24, 5, 25, 26, 27, 28, 29, 30, 31, 32, 33, 34, 35, 36, 37, 38] (by decide +kernel) (by decide +kernel)
set_option maxRecDepth 20000 in
theorem gX5_readSemicolon_X5_advance : GoodIn wsX5_readSemicolon (wsV RX5 57 RX5 yX5_advance wsX5_advance) := goodIn_app (goodIn_of _ (by decide +kernel)) ggX5_readSemicolon_X5_advance
theorem dX5_readSemicolon_0 : decode cX5_readSemicolon 0 = .ok (.aload_n 0, 1) := by decide +kernel
theorem dX5_readSemicolon_1 : decode cX5_readSemicolon 1 = .ok (.getfield 38, 3) := by decide +kernel
theorem dX5_readSemicolon_4 : decode cX5_readSemicolon 4 = .ok (.iconst 3, 1) := by decide +kernel
theorem dX5_readSemicolon_5 : decode cX5_readSemicolon 5 = .ok (.if_icmp .eq 10, 3) := by decide +kernel
theorem dX5_readSemicolon_8 : decode cX5_readSemicolon 8 = .ok (.aload_n 0, 1) := by decide +kernel
theorem dX5_readSemicolon_9 : decode cX5_readSemicolon 9 = .ok (.bipush (-2), 2) := by decide +kernel
theorem dX5_readSemicolon_11 : decode cX5_readSemicolon 11 = .ok (.invokevirtual 73, 3) := by decide +kernel
theorem dX5_readSemicolon_14 : decode cX5_readSemicolon 14 = .ok (.ireturn, 1) := by decide +kernel
theorem dX5_readSemicolon_15 : decode cX5_readSemicolon 15 = .ok (.aload_n 0, 1) := by decide +kernel
theorem dX5_readSemicolon_16 : decode cX5_readSemicolon 16 = .ok (.invokevirtual 57, 3) := by decide +kernel
theorem dX5_readSemicolon_19 : decode cX5_readSemicolon 19 = .ok (.iconst 1, 1) := by decide +kernel
theorem dX5_readSemicolon_20 : decode cX5_readSemicolon 20 = .ok (.ireturn, 1) := by decide +kernel
set_option maxRecDepth 20000 in
theorem ggX5_readGate_X0_isFullOfGates : GoodIn wsX5_readGate wsX0_isFullOfGates := goodIn_r _ [10, 11, 12, 133, 134, 135, 136, 137, 138, 139, 140, 141, 142, 143, 144, 145, 146] (by decide +kernel) (by decide +kernel)
set_option maxRecDepth 20000 in
theorem gX5_readGate_X0_isFullOfGates : GoodIn wsX5_readGate (wsV RX5 103 RX0 yX0_isFullOfGates wsX0_isFullOfGates) := goodIn_app (goodIn_of _ (by decide +kernel)) ggX5_readGate_X0_isFullOfGates
set_option maxRecDepth 20000 in
theorem ggX5_readGate_X5_fail : GoodIn wsX5_readGate wsX5_fail := goodIn_r _ [17, 18, 19, 20, 121, 122, 123, 124, 125, 126, 127, 128, 129, 130] (by decide +kernel) (by decide +kernel)
set_option maxRecDepth 20000 in
theorem gX5_readGate_X5_fail : GoodIn wsX5_readGate (wsV RX5 73 RX5 yX5_fail wsX5_fail) := goodIn_app (goodIn_of _ (by decide +kernel)) ggX5_readGate_X5_fail
set_option maxRecDepth 20000 in
theorem ggX5_readGate_X5_advance : GoodIn wsX5_readGate wsX5_advance := goodIn_r _ [24, 25, 26, 27, 19, 4, 3, 28, 29, 30, 31, 32, 33, 34, 16, 35, 36, 37, 38, 121, 122, 123, 124, 125, 126, 127, 128, 129, 130] (by decide +kernel) (by decide +kernel)
set_option maxRecDepth 20000 in
theorem gX5_readGate_X5_advance : GoodIn wsX5_readGate (wsV RX5 57 RX5 yX5_advance wsX5_advance) := goodIn_app (goodIn_of _ (by decide +kernel)) ggX5_readGate_X5_advance
set_option maxRecDepth 20000 in
theorem ggX5_readGate_X5_kindOfWord : GoodIn wsX5_readGate wsX5_kindOfWord := goodIn_r _ [42, 43, 44, 45, 16, 46, 3, 25, 19, 26, 27, 47, 48, 49, 50, 51, 52, 53, 54, 55, 56, 57, 58, 59, 60, 61, 62, 63, 64, 65, 66, 67, 68, 69, 70, 71, 72, 73, 74, 75, 76, 77, 78, 79, 80, 81, 82, 83, 84, 85, 86, 87, 88, 89, 90, 91, 92, 93, 94, 95, 121, 122, 123, 124, 125, 126, 127, 128, 129, 130] (by decide +kernel) (by decide +kernel)
set_option maxRecDepth 20000 in
theorem gX5_readGate_X5_kindOfWord : GoodIn wsX5_readGate (wsV RX5 108 RX5 yX5_kindOfWord wsX5_kindOfWord) := goodIn_app (goodIn_of _ (by decide +kernel)) ggX5_readGate_X5_kindOfWord
set_option maxRecDepth 20000 in
theorem ggX5_readGate_X0_startGate : GoodIn wsX5_readGate wsX0_startGate := goodIn_r _ [99, 100, 11, 101, 133, 134, 135, 136, 137, 138, 139, 140, 141, 142, 143, 144, 145, 146] (by decide +kernel) (by decide +kernel)
set_option maxRecDepth 20000 in
theorem gX5_readGate_X0_startGate : GoodIn wsX5_readGate (wsV RX5 112 RX0 yX0_startGate wsX0_startGate) := goodIn_app (goodIn_of _ (by decide +kernel)) ggX5_readGate_X0_startGate
set_option maxRecDepth 20000 in
theorem ggX5_readGate_X0_putOperand : GoodIn wsX5_readGate wsX0_putOperand := goodIn_r _ [105, 106, 11, 101, 133, 134, 135, 136, 137, 138, 139, 140, 141, 142, 143, 144, 145, 146] (by decide +kernel) (by decide +kernel)
set_option maxRecDepth 20000 in
theorem gX5_readGate_X0_putOperand : GoodIn wsX5_readGate (wsV RX5 121 RX0 yX0_putOperand wsX0_putOperand) := goodIn_app (goodIn_of _ (by decide +kernel)) ggX5_readGate_X0_putOperand
set_option maxRecDepth 20000 in
theorem ggX5_readGate_X0_endGate : GoodIn wsX5_readGate wsX0_endGate := goodIn_r _ [110, 11, 101, 106, 111, 112, 113, 114, 31, 115, 116, 133, 134, 135, 136, 137, 138, 139, 140, 141, 142, 143, 144, 145, 146] (by decide +kernel) (by decide +kernel)
set_option maxRecDepth 20000 in
theorem gX5_readGate_X0_endGate : GoodIn wsX5_readGate (wsV RX5 127 RX0 yX0_endGate wsX0_endGate) := goodIn_app (goodIn_of _ (by decide +kernel)) ggX5_readGate_X0_endGate
set_option maxRecDepth 20000 in
theorem ggX5_readGate_X5_readSemicolon : GoodIn wsX5_readGate wsX5_readSemicolon := goodIn_r _ [120, 3, 13, 14, 15, 16, 17, 18, 19, 20, 21, 22, 23, 24, 25, 26, 27, 4, 28, 29, 30, 31, 32, 33, 34, 35, 36, 37, 38, 121, 122, 123, 124, 125, 126, 127, 128, 129, 130] (by decide +kernel) (by decide +kernel)
set_option maxRecDepth 20000 in
theorem gX5_readGate_X5_readSemicolon : GoodIn wsX5_readGate (wsV RX5 77 RX5 yX5_readSemicolon wsX5_readSemicolon) := goodIn_app (goodIn_of _ (by decide +kernel)) ggX5_readGate_X5_readSemicolon
theorem dX5_readGate_0 : decode cX5_readGate 0 = .ok (.aload_n 0, 1) := by decide +kernel
theorem dX5_readGate_1 : decode cX5_readGate 1 = .ok (.getfield 12, 3) := by decide +kernel
theorem dX5_readGate_4 : decode cX5_readGate 4 = .ok (.getfield 100, 3) := by decide +kernel
theorem dX5_readGate_7 : decode cX5_readGate 7 = .ok (.astore_n 1, 1) := by decide +kernel
theorem dX5_readGate_8 : decode cX5_readGate 8 = .ok (.aload_n 1, 1) := by decide +kernel
theorem dX5_readGate_9 : decode cX5_readGate 9 = .ok (.invokevirtual 103, 3) := by decide +kernel
theorem dX5_readGate_12 : decode cX5_readGate 12 = .ok (.ifCond .eq 10, 3) := by decide +kernel
theorem dX5_readGate_15 : decode cX5_readGate 15 = .ok (.aload_n 0, 1) := by decide +kernel
theorem dX5_readGate_16 : decode cX5_readGate 16 = .ok (.bipush (-6), 2) := by decide +kernel
theorem dX5_readGate_18 : decode cX5_readGate 18 = .ok (.invokevirtual 73, 3) := by decide +kernel
theorem dX5_readGate_21 : decode cX5_readGate 21 = .ok (.ireturn, 1) := by decide +kernel
theorem dX5_readGate_22 : decode cX5_readGate 22 = .ok (.aload_n 0, 1) := by decide +kernel
theorem dX5_readGate_23 : decode cX5_readGate 23 = .ok (.invokevirtual 57, 3) := by decide +kernel
theorem dX5_readGate_26 : decode cX5_readGate 26 = .ok (.aload_n 0, 1) := by decide +kernel
theorem dX5_readGate_27 : decode cX5_readGate 27 = .ok (.invokevirtual 108, 3) := by decide +kernel
theorem dX5_readGate_30 : decode cX5_readGate 30 = .ok (.istore_n 2, 1) := by decide +kernel
theorem dX5_readGate_31 : decode cX5_readGate 31 = .ok (.iload_n 2, 1) := by decide +kernel
theorem dX5_readGate_32 : decode cX5_readGate 32 = .ok (.ifCond .ge 10, 3) := by decide +kernel
theorem dX5_readGate_35 : decode cX5_readGate 35 = .ok (.aload_n 0, 1) := by decide +kernel
theorem dX5_readGate_36 : decode cX5_readGate 36 = .ok (.bipush (-2), 2) := by decide +kernel
theorem dX5_readGate_38 : decode cX5_readGate 38 = .ok (.invokevirtual 73, 3) := by decide +kernel
theorem dX5_readGate_41 : decode cX5_readGate 41 = .ok (.ireturn, 1) := by decide +kernel
theorem dX5_readGate_42 : decode cX5_readGate 42 = .ok (.aload_n 1, 1) := by decide +kernel
theorem dX5_readGate_43 : decode cX5_readGate 43 = .ok (.iload_n 2, 1) := by decide +kernel
theorem dX5_readGate_44 : decode cX5_readGate 44 = .ok (.invokevirtual 112, 3) := by decide +kernel
theorem dX5_readGate_47 : decode cX5_readGate 47 = .ok (.aload_n 0, 1) := by decide +kernel
theorem dX5_readGate_48 : decode cX5_readGate 48 = .ok (.invokevirtual 57, 3) := by decide +kernel
theorem dX5_readGate_51 : decode cX5_readGate 51 = .ok (.iconst 0, 1) := by decide +kernel
theorem dX5_readGate_52 : decode cX5_readGate 52 = .ok (.istore_n 3, 1) := by decide +kernel
theorem dX5_readGate_53 : decode cX5_readGate 53 = .ok (.iconst 0, 1) := by decide +kernel
theorem dX5_readGate_54 : decode cX5_readGate 54 = .ok (.istore 4, 2) := by decide +kernel
theorem dX5_readGate_56 : decode cX5_readGate 56 = .ok (.iload 4, 2) := by decide +kernel
theorem dX5_readGate_58 : decode cX5_readGate 58 = .ok (.getstatic 115, 3) := by decide +kernel
theorem dX5_readGate_61 : decode cX5_readGate 61 = .ok (.iload_n 2, 1) := by decide +kernel
theorem dX5_readGate_62 : decode cX5_readGate 62 = .ok (.iaload, 1) := by decide +kernel
theorem dX5_readGate_63 : decode cX5_readGate 63 = .ok (.if_icmp .ge 50, 3) := by decide +kernel
theorem dX5_readGate_66 : decode cX5_readGate 66 = .ok (.aload_n 0, 1) := by decide +kernel
theorem dX5_readGate_67 : decode cX5_readGate 67 = .ok (.getfield 38, 3) := by decide +kernel
theorem dX5_readGate_70 : decode cX5_readGate 70 = .ok (.iconst 2, 1) := by decide +kernel
theorem dX5_readGate_71 : decode cX5_readGate 71 = .ok (.if_icmp .ne 42, 3) := by decide +kernel
theorem dX5_readGate_74 : decode cX5_readGate 74 = .ok (.aload_n 0, 1) := by decide +kernel
theorem dX5_readGate_75 : decode cX5_readGate 75 = .ok (.getfield 44, 3) := by decide +kernel
theorem dX5_readGate_78 : decode cX5_readGate 78 = .ok (.aload_n 1, 1) := by decide +kernel
theorem dX5_readGate_79 : decode cX5_readGate 79 = .ok (.getfield 118, 3) := by decide +kernel
theorem dX5_readGate_82 : decode cX5_readGate 82 = .ok (.if_icmp .lt 10, 3) := by decide +kernel
theorem dX5_readGate_85 : decode cX5_readGate 85 = .ok (.aload_n 0, 1) := by decide +kernel
theorem dX5_readGate_86 : decode cX5_readGate 86 = .ok (.bipush (-3), 2) := by decide +kernel
theorem dX5_readGate_88 : decode cX5_readGate 88 = .ok (.invokevirtual 73, 3) := by decide +kernel
theorem dX5_readGate_91 : decode cX5_readGate 91 = .ok (.ireturn, 1) := by decide +kernel
theorem dX5_readGate_92 : decode cX5_readGate 92 = .ok (.aload_n 1, 1) := by decide +kernel
theorem dX5_readGate_93 : decode cX5_readGate 93 = .ok (.aload_n 0, 1) := by decide +kernel
theorem dX5_readGate_94 : decode cX5_readGate 94 = .ok (.getfield 44, 3) := by decide +kernel
theorem dX5_readGate_97 : decode cX5_readGate 97 = .ok (.invokevirtual 121, 3) := by decide +kernel
theorem dX5_readGate_100 : decode cX5_readGate 100 = .ok (.iinc 3 1, 3) := by decide +kernel
theorem dX5_readGate_103 : decode cX5_readGate 103 = .ok (.aload_n 0, 1) := by decide +kernel
theorem dX5_readGate_104 : decode cX5_readGate 104 = .ok (.invokevirtual 57, 3) := by decide +kernel
theorem dX5_readGate_107 : decode cX5_readGate 107 = .ok (.iinc 4 1, 3) := by decide +kernel
theorem dX5_readGate_110 : decode cX5_readGate 110 = .ok (.goto (-54), 3) := by decide +kernel
theorem dX5_readGate_113 : decode cX5_readGate 113 = .ok (.iload_n 3, 1) := by decide +kernel
theorem dX5_readGate_114 : decode cX5_readGate 114 = .ok (.getstatic 124, 3) := by decide +kernel
theorem dX5_readGate_117 : decode cX5_readGate 117 = .ok (.iload_n 2, 1) := by decide +kernel
theorem dX5_readGate_118 : decode cX5_readGate 118 = .ok (.iaload, 1) := by decide +kernel
theorem dX5_readGate_119 : decode cX5_readGate 119 = .ok (.if_icmp .ge 10, 3) := by decide +kernel
theorem dX5_readGate_122 : decode cX5_readGate 122 = .ok (.aload_n 0, 1) := by decide +kernel
theorem dX5_readGate_123 : decode cX5_readGate 123 = .ok (.bipush (-2), 2) := by decide +kernel
theorem dX5_readGate_125 : decode cX5_readGate 125 = .ok (.invokevirtual 73, 3) := by decide +kernel
theorem dX5_readGate_128 : decode cX5_readGate 128 = .ok (.ireturn, 1) := by decide +kernel
theorem dX5_readGate_129 : decode cX5_readGate 129 = .ok (.aload_n 1, 1) := by decide +kernel
theorem dX5_readGate_130 : decode cX5_readGate 130 = .ok (.invokevirtual 127, 3) := by decide +kernel
theorem dX5_readGate_133 : decode cX5_readGate 133 = .ok (.aload_n 0, 1) := by decide +kernel
theorem dX5_readGate_134 : decode cX5_readGate 134 = .ok (.invokevirtual 77, 3) := by decide +kernel
theorem dX5_readGate_137 : decode cX5_readGate 137 = .ok (.ireturn, 1) := by decide +kernel
set_option maxRecDepth 20000 in
theorem ggX5_readOutputs_X5_advance : GoodIn wsX5_readOutputs wsX5_advance := goodIn_r _ [10, 11, 12, 13, 14, 4, 3, 15, 16, 17, 18, 19, 20, 21, 9, 22, 23, 24, 25, 51, 52, 53, 54, 55, 56, 57, 58, 59, 60] (by decide +kernel) (by decide +kernel)
set_option maxRecDepth 20000 in
theorem gX5_readOutputs_X5_advance : GoodIn wsX5_readOutputs (wsV RX5 57 RX5 yX5_advance wsX5_advance) := goodIn_app (goodIn_of _ (by decide +kernel)) ggX5_readOutputs_X5_advance
set_option maxRecDepth 20000 in
theorem ggX5_readOutputs_X5_fail : GoodIn wsX5_readOutputs wsX5_fail := goodIn_r _ [29, 30, 14, 31, 51, 52, 53, 54, 55, 56, 57, 58, 59, 60] (by decide +kernel) (by decide +kernel)
set_option maxRecDepth 20000 in
theorem gX5_readOutputs_X5_fail : GoodIn wsX5_readOutputs (wsV RX5 73 RX5 yX5_fail wsX5_fail) := goodIn_app (goodIn_of _ (by decide +kernel)) ggX5_readOutputs_X5_fail
set_option maxRecDepth 20000 in
theorem ggX5_readOutputs_X0_outputOf : GoodIn wsX5_readOutputs wsX0_outputOf := goodIn_r _ [36, 37, 38, 63, 64, 65, 66, 67, 68, 69, 70, 71, 72, 73, 74, 75, 76] (by decide +kernel) (by decide +kernel)
set_option maxRecDepth 20000 in
theorem gX5_readOutputs_X0_outputOf : GoodIn wsX5_readOutputs (wsV RX5 130 RX0 yX0_outputOf wsX0_outputOf) := goodIn_app (goodIn_of _ (by decide +kernel)) ggX5_readOutputs_X0_outputOf
set_option maxRecDepth 20000 in
theorem ggX5_readOutputs_X0_isFullOfOutputs : GoodIn wsX5_readOutputs wsX0_isFullOfOutputs := goodIn_r _ [42, 37, 63, 64, 65, 66, 67, 68, 69, 70, 71, 72, 73, 74, 75, 76] (by decide +kernel) (by decide +kernel)
set_option maxRecDepth 20000 in
theorem gX5_readOutputs_X0_isFullOfOutputs : GoodIn wsX5_readOutputs (wsV RX5 134 RX0 yX0_isFullOfOutputs wsX0_isFullOfOutputs) := goodIn_app (goodIn_of _ (by decide +kernel)) ggX5_readOutputs_X0_isFullOfOutputs
set_option maxRecDepth 20000 in
theorem ggX5_readOutputs_X0_putOutput : GoodIn wsX5_readOutputs wsX0_putOutput := goodIn_r _ [46, 38, 37, 63, 64, 65, 66, 67, 68, 69, 70, 71, 72, 73, 74, 75, 76] (by decide +kernel) (by decide +kernel)
set_option maxRecDepth 20000 in
theorem gX5_readOutputs_X0_putOutput : GoodIn wsX5_readOutputs (wsV RX5 137 RX0 yX0_putOutput wsX0_putOutput) := goodIn_app (goodIn_of _ (by decide +kernel)) ggX5_readOutputs_X0_putOutput
set_option maxRecDepth 20000 in
theorem ggX5_readOutputs_X5_readSemicolon : GoodIn wsX5_readOutputs wsX5_readSemicolon := goodIn_r _ [50, 3, 26, 27, 28, 9, 29, 30, 14, 31, 6, 7, 8, 10, 11, 12, 13, 4, 15, 16, 17, 18, 19, 20, 21, 22, 23, 24, 25, 51, 52, 53, 54, 55, 56, 57, 58, 59, 60] (by decide +kernel) (by decide +kernel)
set_option maxRecDepth 20000 in
theorem gX5_readOutputs_X5_readSemicolon : GoodIn wsX5_readOutputs (wsV RX5 77 RX5 yX5_readSemicolon wsX5_readSemicolon) := goodIn_app (goodIn_of _ (by decide +kernel)) ggX5_readOutputs_X5_readSemicolon
theorem dX5_readOutputs_0 : decode cX5_readOutputs 0 = .ok (.aload_n 0, 1) := by decide +kernel
theorem dX5_readOutputs_1 : decode cX5_readOutputs 1 = .ok (.getfield 12, 3) := by decide +kernel
theorem dX5_readOutputs_4 : decode cX5_readOutputs 4 = .ok (.getfield 100, 3) := by decide +kernel
theorem dX5_readOutputs_7 : decode cX5_readOutputs 7 = .ok (.astore_n 1, 1) := by decide +kernel
theorem dX5_readOutputs_8 : decode cX5_readOutputs 8 = .ok (.aload_n 0, 1) := by decide +kernel
theorem dX5_readOutputs_9 : decode cX5_readOutputs 9 = .ok (.invokevirtual 57, 3) := by decide +kernel
theorem dX5_readOutputs_12 : decode cX5_readOutputs 12 = .ok (.aload_n 0, 1) := by decide +kernel
theorem dX5_readOutputs_13 : decode cX5_readOutputs 13 = .ok (.getfield 38, 3) := by decide +kernel
theorem dX5_readOutputs_16 : decode cX5_readOutputs 16 = .ok (.iconst 2, 1) := by decide +kernel
theorem dX5_readOutputs_17 : decode cX5_readOutputs 17 = .ok (.if_icmp .eq 10, 3) := by decide +kernel
theorem dX5_readOutputs_20 : decode cX5_readOutputs 20 = .ok (.aload_n 0, 1) := by decide +kernel
theorem dX5_readOutputs_21 : decode cX5_readOutputs 21 = .ok (.bipush (-2), 2) := by decide +kernel
theorem dX5_readOutputs_23 : decode cX5_readOutputs 23 = .ok (.invokevirtual 73, 3) := by decide +kernel
theorem dX5_readOutputs_26 : decode cX5_readOutputs 26 = .ok (.ireturn, 1) := by decide +kernel
theorem dX5_readOutputs_27 : decode cX5_readOutputs 27 = .ok (.iconst 0, 1) := by decide +kernel
theorem dX5_readOutputs_28 : decode cX5_readOutputs 28 = .ok (.istore_n 2, 1) := by decide +kernel
theorem dX5_readOutputs_29 : decode cX5_readOutputs 29 = .ok (.iload_n 2, 1) := by decide +kernel
theorem dX5_readOutputs_30 : decode cX5_readOutputs 30 = .ok (.bipush 6, 2) := by decide +kernel
theorem dX5_readOutputs_32 : decode cX5_readOutputs 32 = .ok (.if_icmp .gt 79, 3) := by decide +kernel
theorem dX5_readOutputs_35 : decode cX5_readOutputs 35 = .ok (.aload_n 0, 1) := by decide +kernel
theorem dX5_readOutputs_36 : decode cX5_readOutputs 36 = .ok (.getfield 38, 3) := by decide +kernel
theorem dX5_readOutputs_39 : decode cX5_readOutputs 39 = .ok (.iconst 2, 1) := by decide +kernel
theorem dX5_readOutputs_40 : decode cX5_readOutputs 40 = .ok (.if_icmp .ne 71, 3) := by decide +kernel
theorem dX5_readOutputs_43 : decode cX5_readOutputs 43 = .ok (.aload_n 0, 1) := by decide +kernel
theorem dX5_readOutputs_44 : decode cX5_readOutputs 44 = .ok (.getfield 44, 3) := by decide +kernel
theorem dX5_readOutputs_47 : decode cX5_readOutputs 47 = .ok (.aload_n 1, 1) := by decide +kernel
theorem dX5_readOutputs_48 : decode cX5_readOutputs 48 = .ok (.getfield 118, 3) := by decide +kernel
theorem dX5_readOutputs_51 : decode cX5_readOutputs 51 = .ok (.if_icmp .lt 10, 3) := by decide +kernel
theorem dX5_readOutputs_54 : decode cX5_readOutputs 54 = .ok (.aload_n 0, 1) := by decide +kernel
theorem dX5_readOutputs_55 : decode cX5_readOutputs 55 = .ok (.bipush (-3), 2) := by decide +kernel
theorem dX5_readOutputs_57 : decode cX5_readOutputs 57 = .ok (.invokevirtual 73, 3) := by decide +kernel
theorem dX5_readOutputs_60 : decode cX5_readOutputs 60 = .ok (.ireturn, 1) := by decide +kernel
theorem dX5_readOutputs_61 : decode cX5_readOutputs 61 = .ok (.aload_n 1, 1) := by decide +kernel
theorem dX5_readOutputs_62 : decode cX5_readOutputs 62 = .ok (.aload_n 0, 1) := by decide +kernel
theorem dX5_readOutputs_63 : decode cX5_readOutputs 63 = .ok (.getfield 44, 3) := by decide +kernel
theorem dX5_readOutputs_66 : decode cX5_readOutputs 66 = .ok (.invokevirtual 130, 3) := by decide +kernel
theorem dX5_readOutputs_69 : decode cX5_readOutputs 69 = .ok (.ifCond .lt 10, 3) := by decide +kernel
theorem dX5_readOutputs_72 : decode cX5_readOutputs 72 = .ok (.aload_n 0, 1) := by decide +kernel
theorem dX5_readOutputs_73 : decode cX5_readOutputs 73 = .ok (.bipush (-4), 2) := by decide +kernel
theorem dX5_readOutputs_75 : decode cX5_readOutputs 75 = .ok (.invokevirtual 73, 3) := by decide +kernel
theorem dX5_readOutputs_78 : decode cX5_readOutputs 78 = .ok (.ireturn, 1) := by decide +kernel
theorem dX5_readOutputs_79 : decode cX5_readOutputs 79 = .ok (.aload_n 1, 1) := by decide +kernel
theorem dX5_readOutputs_80 : decode cX5_readOutputs 80 = .ok (.invokevirtual 134, 3) := by decide +kernel
theorem dX5_readOutputs_83 : decode cX5_readOutputs 83 = .ok (.ifCond .eq 10, 3) := by decide +kernel
theorem dX5_readOutputs_86 : decode cX5_readOutputs 86 = .ok (.aload_n 0, 1) := by decide +kernel
theorem dX5_readOutputs_87 : decode cX5_readOutputs 87 = .ok (.bipush (-6), 2) := by decide +kernel
theorem dX5_readOutputs_89 : decode cX5_readOutputs 89 = .ok (.invokevirtual 73, 3) := by decide +kernel
theorem dX5_readOutputs_92 : decode cX5_readOutputs 92 = .ok (.ireturn, 1) := by decide +kernel
theorem dX5_readOutputs_93 : decode cX5_readOutputs 93 = .ok (.aload_n 1, 1) := by decide +kernel
theorem dX5_readOutputs_94 : decode cX5_readOutputs 94 = .ok (.aload_n 0, 1) := by decide +kernel
theorem dX5_readOutputs_95 : decode cX5_readOutputs 95 = .ok (.getfield 44, 3) := by decide +kernel
theorem dX5_readOutputs_98 : decode cX5_readOutputs 98 = .ok (.invokevirtual 137, 3) := by decide +kernel
theorem dX5_readOutputs_101 : decode cX5_readOutputs 101 = .ok (.aload_n 0, 1) := by decide +kernel
theorem dX5_readOutputs_102 : decode cX5_readOutputs 102 = .ok (.invokevirtual 57, 3) := by decide +kernel
theorem dX5_readOutputs_105 : decode cX5_readOutputs 105 = .ok (.iinc 2 1, 3) := by decide +kernel
theorem dX5_readOutputs_108 : decode cX5_readOutputs 108 = .ok (.goto (-79), 3) := by decide +kernel
theorem dX5_readOutputs_111 : decode cX5_readOutputs 111 = .ok (.aload_n 0, 1) := by decide +kernel
theorem dX5_readOutputs_112 : decode cX5_readOutputs 112 = .ok (.invokevirtual 77, 3) := by decide +kernel
theorem dX5_readOutputs_115 : decode cX5_readOutputs 115 = .ok (.ireturn, 1) := by decide +kernel
set_option maxRecDepth 20000 in
theorem ggX5_readBridge_X0_isFullOfBridges : GoodIn wsX5_readBridge wsX0_isFullOfBridges := goodIn_r _ [8, 9, 130, 131, 132, 133, 134, 135, 136, 137, 138, 139, 140, 141, 142, 143] (by decide +kernel) (by decide +kernel)
set_option maxRecDepth 20000 in
theorem gX5_readBridge_X0_isFullOfBridges : GoodIn wsX5_readBridge (wsV RX5 140 RX0 yX0_isFullOfBridges wsX0_isFullOfBridges) := goodIn_app (goodIn_of _ (by decide +kernel)) ggX5_readBridge_X0_isFullOfBridges
set_option maxRecDepth 20000 in
theorem ggX5_readBridge_X5_fail : GoodIn wsX5_readBridge wsX5_fail := goodIn_r _ [14, 15, 16, 17, 118, 119, 120, 121, 122, 123, 124, 125, 126, 127] (by decide +kernel) (by decide +kernel)
set_option maxRecDepth 20000 in
theorem gX5_readBridge_X5_fail : GoodIn wsX5_readBridge (wsV RX5 73 RX5 yX5_fail wsX5_fail) := goodIn_app (goodIn_of _ (by decide +kernel)) ggX5_readBridge_X5_fail
set_option maxRecDepth 20000 in
theorem ggX5_readBridge_X5_advance : GoodIn wsX5_readBridge wsX5_advance := goodIn_r _ [21, 22, 23, 24, 16, 3, 25, 26, 27, 28, 29, 30, 31, 32, 13, 33, 34, 35, 36, 118, 119, 120, 121, 122, 123, 124, 125, 126, 127] (by decide +kernel) (by decide +kernel)
set_option maxRecDepth 20000 in
theorem gX5_readBridge_X5_advance : GoodIn wsX5_readBridge (wsV RX5 57 RX5 yX5_advance wsX5_advance) := goodIn_app (goodIn_of _ (by decide +kernel)) ggX5_readBridge_X5_advance
set_option maxRecDepth 20000 in
theorem ggX5_readBridge_X5_kindOfWord : GoodIn wsX5_readBridge wsX5_kindOfWord := goodIn_r _ [40, 41, 42, 43, 13, 44, 25, 22, 16, 23, 24, 45, 46, 47, 48, 49, 50, 51, 52, 53, 54, 55, 56, 57, 58, 59, 60, 61, 62, 63, 64, 65, 66, 67, 68, 69, 70, 71, 72, 73, 74, 75, 76, 77, 78, 79, 80, 81, 82, 83, 84, 85, 86, 87, 88, 89, 90, 91, 92, 93, 118, 119, 120, 121, 122, 123, 124, 125, 126, 127] (by decide +kernel) (by decide +kernel)
set_option maxRecDepth 20000 in
theorem gX5_readBridge_X5_kindOfWord : GoodIn wsX5_readBridge (wsV RX5 108 RX5 yX5_kindOfWord wsX5_kindOfWord) := goodIn_app (goodIn_of _ (by decide +kernel)) ggX5_readBridge_X5_kindOfWord
set_option maxRecDepth 20000 in
theorem ggX5_readBridge_X5_isKnownWire : GoodIn wsX5_readBridge wsX5_isKnownWire := goodIn_r _ [97, 25, 3, 1, 2, 98, 10, 11, 12, 13, 14, 15, 16, 17, 118, 119, 120, 121, 122, 123, 124, 125, 126, 127, 128, 129, 130, 131, 132, 133, 134, 135, 136, 137, 138, 139, 140, 141, 142, 143] (by decide +kernel) (by decide +kernel)
set_option maxRecDepth 20000 in
theorem gX5_readBridge_X5_isKnownWire : GoodIn wsX5_readBridge (wsV RX5 143 RX5 yX5_isKnownWire wsX5_isKnownWire) := goodIn_app (goodIn_of _ (by decide +kernel)) ggX5_readBridge_X5_isKnownWire
set_option maxRecDepth 20000 in
theorem ggX5_readBridge_X0_wouldLoop : GoodIn wsX5_readBridge wsX0_wouldLoop := goodIn_r _ [102, 103, 104, 105, 7, 106, 130, 131, 132, 133, 134, 135, 136, 137, 138, 139, 140, 141, 142, 143] (by decide +kernel) (by decide +kernel)
set_option maxRecDepth 20000 in
theorem gX5_readBridge_X0_wouldLoop : GoodIn wsX5_readBridge (wsV RX5 146 RX0 yX0_wouldLoop wsX0_wouldLoop) := goodIn_app (goodIn_of _ (by decide +kernel)) ggX5_readBridge_X0_wouldLoop
set_option maxRecDepth 20000 in
theorem ggX5_readBridge_X0_putBridge : GoodIn wsX5_readBridge wsX0_putBridge := goodIn_r _ [110, 111, 9, 112, 113, 130, 131, 132, 133, 134, 135, 136, 137, 138, 139, 140, 141, 142, 143] (by decide +kernel) (by decide +kernel)
set_option maxRecDepth 20000 in
theorem gX5_readBridge_X0_putBridge : GoodIn wsX5_readBridge (wsV RX5 150 RX0 yX0_putBridge wsX0_putBridge) := goodIn_app (goodIn_of _ (by decide +kernel)) ggX5_readBridge_X0_putBridge
set_option maxRecDepth 20000 in
theorem ggX5_readBridge_X5_readSemicolon : GoodIn wsX5_readBridge wsX5_readSemicolon := goodIn_r _ [117, 25, 10, 11, 12, 13, 14, 15, 16, 17, 18, 19, 20, 21, 22, 23, 24, 3, 26, 27, 28, 29, 30, 31, 32, 33, 34, 35, 36, 118, 119, 120, 121, 122, 123, 124, 125, 126, 127] (by decide +kernel) (by decide +kernel)
set_option maxRecDepth 20000 in
theorem gX5_readBridge_X5_readSemicolon : GoodIn wsX5_readBridge (wsV RX5 77 RX5 yX5_readSemicolon wsX5_readSemicolon) := goodIn_app (goodIn_of _ (by decide +kernel)) ggX5_readBridge_X5_readSemicolon
theorem dX5_readBridge_0 : decode cX5_readBridge 0 = .ok (.aload_n 0, 1) := by decide +kernel
theorem dX5_readBridge_1 : decode cX5_readBridge 1 = .ok (.getfield 12, 3) := by decide +kernel
theorem dX5_readBridge_4 : decode cX5_readBridge 4 = .ok (.getfield 100, 3) := by decide +kernel
theorem dX5_readBridge_7 : decode cX5_readBridge 7 = .ok (.astore_n 1, 1) := by decide +kernel
theorem dX5_readBridge_8 : decode cX5_readBridge 8 = .ok (.aload_n 1, 1) := by decide +kernel
theorem dX5_readBridge_9 : decode cX5_readBridge 9 = .ok (.invokevirtual 140, 3) := by decide +kernel
theorem dX5_readBridge_12 : decode cX5_readBridge 12 = .ok (.ifCond .eq 10, 3) := by decide +kernel
theorem dX5_readBridge_15 : decode cX5_readBridge 15 = .ok (.aload_n 0, 1) := by decide +kernel
theorem dX5_readBridge_16 : decode cX5_readBridge 16 = .ok (.bipush (-6), 2) := by decide +kernel
theorem dX5_readBridge_18 : decode cX5_readBridge 18 = .ok (.invokevirtual 73, 3) := by decide +kernel
theorem dX5_readBridge_21 : decode cX5_readBridge 21 = .ok (.ireturn, 1) := by decide +kernel
theorem dX5_readBridge_22 : decode cX5_readBridge 22 = .ok (.aload_n 0, 1) := by decide +kernel
theorem dX5_readBridge_23 : decode cX5_readBridge 23 = .ok (.invokevirtual 57, 3) := by decide +kernel
theorem dX5_readBridge_26 : decode cX5_readBridge 26 = .ok (.aload_n 0, 1) := by decide +kernel
theorem dX5_readBridge_27 : decode cX5_readBridge 27 = .ok (.invokevirtual 108, 3) := by decide +kernel
theorem dX5_readBridge_30 : decode cX5_readBridge 30 = .ok (.istore_n 2, 1) := by decide +kernel
theorem dX5_readBridge_31 : decode cX5_readBridge 31 = .ok (.iload_n 2, 1) := by decide +kernel
theorem dX5_readBridge_32 : decode cX5_readBridge 32 = .ok (.ifCond .eq 15, 3) := by decide +kernel
theorem dX5_readBridge_35 : decode cX5_readBridge 35 = .ok (.iload_n 2, 1) := by decide +kernel
theorem dX5_readBridge_36 : decode cX5_readBridge 36 = .ok (.iconst 1, 1) := by decide +kernel
theorem dX5_readBridge_37 : decode cX5_readBridge 37 = .ok (.if_icmp .eq 10, 3) := by decide +kernel
theorem dX5_readBridge_40 : decode cX5_readBridge 40 = .ok (.aload_n 0, 1) := by decide +kernel
theorem dX5_readBridge_41 : decode cX5_readBridge 41 = .ok (.bipush (-2), 2) := by decide +kernel
theorem dX5_readBridge_43 : decode cX5_readBridge 43 = .ok (.invokevirtual 73, 3) := by decide +kernel
theorem dX5_readBridge_46 : decode cX5_readBridge 46 = .ok (.ireturn, 1) := by decide +kernel
theorem dX5_readBridge_47 : decode cX5_readBridge 47 = .ok (.aload_n 0, 1) := by decide +kernel
theorem dX5_readBridge_48 : decode cX5_readBridge 48 = .ok (.invokevirtual 57, 3) := by decide +kernel
theorem dX5_readBridge_51 : decode cX5_readBridge 51 = .ok (.aload_n 0, 1) := by decide +kernel
theorem dX5_readBridge_52 : decode cX5_readBridge 52 = .ok (.invokevirtual 143, 3) := by decide +kernel
theorem dX5_readBridge_55 : decode cX5_readBridge 55 = .ok (.ifCond .ne 5, 3) := by decide +kernel
theorem dX5_readBridge_58 : decode cX5_readBridge 58 = .ok (.iconst 0, 1) := by decide +kernel
theorem dX5_readBridge_59 : decode cX5_readBridge 59 = .ok (.ireturn, 1) := by decide +kernel
theorem dX5_readBridge_60 : decode cX5_readBridge 60 = .ok (.aload_n 0, 1) := by decide +kernel
theorem dX5_readBridge_61 : decode cX5_readBridge 61 = .ok (.getfield 44, 3) := by decide +kernel
theorem dX5_readBridge_64 : decode cX5_readBridge 64 = .ok (.istore_n 3, 1) := by decide +kernel
theorem dX5_readBridge_65 : decode cX5_readBridge 65 = .ok (.aload_n 0, 1) := by decide +kernel
theorem dX5_readBridge_66 : decode cX5_readBridge 66 = .ok (.invokevirtual 57, 3) := by decide +kernel
theorem dX5_readBridge_69 : decode cX5_readBridge 69 = .ok (.aload_n 0, 1) := by decide +kernel
theorem dX5_readBridge_70 : decode cX5_readBridge 70 = .ok (.invokevirtual 143, 3) := by decide +kernel
theorem dX5_readBridge_73 : decode cX5_readBridge 73 = .ok (.ifCond .ne 5, 3) := by decide +kernel
theorem dX5_readBridge_76 : decode cX5_readBridge 76 = .ok (.iconst 0, 1) := by decide +kernel
theorem dX5_readBridge_77 : decode cX5_readBridge 77 = .ok (.ireturn, 1) := by decide +kernel
theorem dX5_readBridge_78 : decode cX5_readBridge 78 = .ok (.aload_n 1, 1) := by decide +kernel
theorem dX5_readBridge_79 : decode cX5_readBridge 79 = .ok (.iload_n 3, 1) := by decide +kernel
theorem dX5_readBridge_80 : decode cX5_readBridge 80 = .ok (.aload_n 0, 1) := by decide +kernel
theorem dX5_readBridge_81 : decode cX5_readBridge 81 = .ok (.getfield 44, 3) := by decide +kernel
theorem dX5_readBridge_84 : decode cX5_readBridge 84 = .ok (.invokevirtual 146, 3) := by decide +kernel
theorem dX5_readBridge_87 : decode cX5_readBridge 87 = .ok (.ifCond .eq 10, 3) := by decide +kernel
theorem dX5_readBridge_90 : decode cX5_readBridge 90 = .ok (.aload_n 0, 1) := by decide +kernel
theorem dX5_readBridge_91 : decode cX5_readBridge 91 = .ok (.bipush (-5), 2) := by decide +kernel
theorem dX5_readBridge_93 : decode cX5_readBridge 93 = .ok (.invokevirtual 73, 3) := by decide +kernel
theorem dX5_readBridge_96 : decode cX5_readBridge 96 = .ok (.ireturn, 1) := by decide +kernel
theorem dX5_readBridge_97 : decode cX5_readBridge 97 = .ok (.aload_n 1, 1) := by decide +kernel
theorem dX5_readBridge_98 : decode cX5_readBridge 98 = .ok (.iload_n 2, 1) := by decide +kernel
theorem dX5_readBridge_99 : decode cX5_readBridge 99 = .ok (.iload_n 3, 1) := by decide +kernel
theorem dX5_readBridge_100 : decode cX5_readBridge 100 = .ok (.aload_n 0, 1) := by decide +kernel
theorem dX5_readBridge_101 : decode cX5_readBridge 101 = .ok (.getfield 44, 3) := by decide +kernel
theorem dX5_readBridge_104 : decode cX5_readBridge 104 = .ok (.invokevirtual 150, 3) := by decide +kernel
theorem dX5_readBridge_107 : decode cX5_readBridge 107 = .ok (.aload_n 0, 1) := by decide +kernel
theorem dX5_readBridge_108 : decode cX5_readBridge 108 = .ok (.invokevirtual 57, 3) := by decide +kernel
theorem dX5_readBridge_111 : decode cX5_readBridge 111 = .ok (.aload_n 0, 1) := by decide +kernel
theorem dX5_readBridge_112 : decode cX5_readBridge 112 = .ok (.invokevirtual 77, 3) := by decide +kernel
theorem dX5_readBridge_115 : decode cX5_readBridge 115 = .ok (.ireturn, 1) := by decide +kernel
set_option maxRecDepth 20000 in
theorem ggX5_isKnownWire_X5_fail : GoodIn wsX5_isKnownWire wsX5_fail := goodIn_r _ [10, 11, 12, 13, 14, 15, 16, 17, 18, 19, 20, 21, 22, 23] (by decide +kernel) (by decide +kernel)
set_option maxRecDepth 20000 in
theorem gX5_isKnownWire_X5_fail : GoodIn wsX5_isKnownWire (wsV RX5 73 RX5 yX5_fail wsX5_fail) := goodIn_app (goodIn_of _ (by decide +kernel)) ggX5_isKnownWire_X5_fail
theorem dX5_isKnownWire_0 : decode cX5_isKnownWire 0 = .ok (.aload_n 0, 1) := by decide +kernel
theorem dX5_isKnownWire_1 : decode cX5_isKnownWire 1 = .ok (.getfield 38, 3) := by decide +kernel
theorem dX5_isKnownWire_4 : decode cX5_isKnownWire 4 = .ok (.iconst 2, 1) := by decide +kernel
theorem dX5_isKnownWire_5 : decode cX5_isKnownWire 5 = .ok (.if_icmp .eq 10, 3) := by decide +kernel
theorem dX5_isKnownWire_8 : decode cX5_isKnownWire 8 = .ok (.aload_n 0, 1) := by decide +kernel
theorem dX5_isKnownWire_9 : decode cX5_isKnownWire 9 = .ok (.bipush (-2), 2) := by decide +kernel
theorem dX5_isKnownWire_11 : decode cX5_isKnownWire 11 = .ok (.invokevirtual 73, 3) := by decide +kernel
theorem dX5_isKnownWire_14 : decode cX5_isKnownWire 14 = .ok (.ireturn, 1) := by decide +kernel
theorem dX5_isKnownWire_15 : decode cX5_isKnownWire 15 = .ok (.aload_n 0, 1) := by decide +kernel
theorem dX5_isKnownWire_16 : decode cX5_isKnownWire 16 = .ok (.getfield 44, 3) := by decide +kernel
theorem dX5_isKnownWire_19 : decode cX5_isKnownWire 19 = .ok (.aload_n 0, 1) := by decide +kernel
theorem dX5_isKnownWire_20 : decode cX5_isKnownWire 20 = .ok (.getfield 12, 3) := by decide +kernel
theorem dX5_isKnownWire_23 : decode cX5_isKnownWire 23 = .ok (.getfield 100, 3) := by decide +kernel
theorem dX5_isKnownWire_26 : decode cX5_isKnownWire 26 = .ok (.getfield 118, 3) := by decide +kernel
theorem dX5_isKnownWire_29 : decode cX5_isKnownWire 29 = .ok (.if_icmp .lt 10, 3) := by decide +kernel
theorem dX5_isKnownWire_32 : decode cX5_isKnownWire 32 = .ok (.aload_n 0, 1) := by decide +kernel
theorem dX5_isKnownWire_33 : decode cX5_isKnownWire 33 = .ok (.bipush (-3), 2) := by decide +kernel
theorem dX5_isKnownWire_35 : decode cX5_isKnownWire 35 = .ok (.invokevirtual 73, 3) := by decide +kernel
theorem dX5_isKnownWire_38 : decode cX5_isKnownWire 38 = .ok (.ireturn, 1) := by decide +kernel
theorem dX5_isKnownWire_39 : decode cX5_isKnownWire 39 = .ok (.iconst 1, 1) := by decide +kernel
theorem dX5_isKnownWire_40 : decode cX5_isKnownWire 40 = .ok (.ireturn, 1) := by decide +kernel
set_option maxRecDepth 20000 in
theorem ggX5_readTest_X6_isFull : GoodIn wsX5_readTest wsX6_isFull := goodIn_r _ [11, 12, 128, 129, 130, 131, 132] (by decide +kernel) (by decide +kernel)
set_option maxRecDepth 20000 in
theorem gX5_readTest_X6_isFull : GoodIn wsX5_readTest (wsV RX5 158 RX6 yX6_isFull wsX6_isFull) := goodIn_app (goodIn_of _ (by decide +kernel)) ggX5_readTest_X6_isFull
set_option maxRecDepth 20000 in
theorem ggX5_readTest_X5_fail : GoodIn wsX5_readTest wsX5_fail := goodIn_r _ [17, 18, 19, 20, 102, 103, 104, 105, 106, 107, 108, 109, 110, 111] (by decide +kernel) (by decide +kernel)
set_option maxRecDepth 20000 in
theorem gX5_readTest_X5_fail : GoodIn wsX5_readTest (wsV RX5 73 RX5 yX5_fail wsX5_fail) := goodIn_app (goodIn_of _ (by decide +kernel)) ggX5_readTest_X5_fail
set_option maxRecDepth 20000 in
theorem ggX5_readTest_X5_advance : GoodIn wsX5_readTest wsX5_advance := goodIn_r _ [24, 25, 26, 27, 19, 6, 5, 28, 29, 30, 31, 32, 33, 34, 16, 35, 36, 37, 38, 102, 103, 104, 105, 106, 107, 108, 109, 110, 111] (by decide +kernel) (by decide +kernel)
set_option maxRecDepth 20000 in
theorem gX5_readTest_X5_advance : GoodIn wsX5_readTest (wsV RX5 57 RX5 yX5_advance wsX5_advance) := goodIn_app (goodIn_of _ (by decide +kernel)) ggX5_readTest_X5_advance
set_option maxRecDepth 20000 in
theorem ggX5_readTest_X5_isWord : GoodIn wsX5_readTest wsX5_isWord := goodIn_r _ [42, 5, 25, 19, 26, 27, 43, 44, 45, 46, 47, 48, 49, 50, 51, 52, 53, 54, 55, 56, 57, 58, 59, 60, 61, 62, 63, 64, 65, 66, 67, 68, 69, 70, 71, 72, 73, 74, 75, 76, 77, 78, 79, 80, 81, 82, 83, 84, 85, 86, 87, 88, 89, 90, 91, 102, 103, 104, 105, 106, 107, 108, 109, 110, 111] (by decide +kernel) (by decide +kernel)
set_option maxRecDepth 20000 in
theorem gX5_readTest_X5_isWord : GoodIn wsX5_readTest (wsV RX5 69 RX5 yX5_isWord wsX5_isWord) := goodIn_app (goodIn_of _ (by decide +kernel)) ggX5_readTest_X5_isWord
set_option maxRecDepth 20000 in
theorem ggX5_readTest_X6_put : GoodIn wsX5_readTest wsX6_put := goodIn_r _ [95, 96, 12, 97, 128, 129, 130, 131, 132] (by decide +kernel) (by decide +kernel)
set_option maxRecDepth 20000 in
theorem gX5_readTest_X6_put : GoodIn wsX5_readTest (wsV RX5 168 RX6 yX6_put wsX6_put) := goodIn_app (goodIn_of _ (by decide +kernel)) ggX5_readTest_X6_put
set_option maxRecDepth 20000 in
theorem ggX5_readTest_X5_readSemicolon : GoodIn wsX5_readTest wsX5_readSemicolon := goodIn_r _ [101, 5, 13, 14, 15, 16, 17, 18, 19, 20, 21, 22, 23, 24, 25, 26, 27, 6, 28, 29, 30, 31, 32, 33, 34, 35, 36, 37, 38, 102, 103, 104, 105, 106, 107, 108, 109, 110, 111] (by decide +kernel) (by decide +kernel)
set_option maxRecDepth 20000 in
theorem gX5_readTest_X5_readSemicolon : GoodIn wsX5_readTest (wsV RX5 77 RX5 yX5_readSemicolon wsX5_readSemicolon) := goodIn_app (goodIn_of _ (by decide +kernel)) ggX5_readTest_X5_readSemicolon
theorem dX5_readTest_0 : decode cX5_readTest 0 = .ok (.aload_n 0, 1) := by decide +kernel
theorem dX5_readTest_1 : decode cX5_readTest 1 = .ok (.getfield 12, 3) := by decide +kernel
theorem dX5_readTest_4 : decode cX5_readTest 4 = .ok (.getfield 154, 3) := by decide +kernel
theorem dX5_readTest_7 : decode cX5_readTest 7 = .ok (.invokevirtual 158, 3) := by decide +kernel
theorem dX5_readTest_10 : decode cX5_readTest 10 = .ok (.ifCond .eq 10, 3) := by decide +kernel
theorem dX5_readTest_13 : decode cX5_readTest 13 = .ok (.aload_n 0, 1) := by decide +kernel
theorem dX5_readTest_14 : decode cX5_readTest 14 = .ok (.bipush (-6), 2) := by decide +kernel
theorem dX5_readTest_16 : decode cX5_readTest 16 = .ok (.invokevirtual 73, 3) := by decide +kernel
theorem dX5_readTest_19 : decode cX5_readTest 19 = .ok (.ireturn, 1) := by decide +kernel
theorem dX5_readTest_20 : decode cX5_readTest 20 = .ok (.aload_n 0, 1) := by decide +kernel
theorem dX5_readTest_21 : decode cX5_readTest 21 = .ok (.invokevirtual 57, 3) := by decide +kernel
theorem dX5_readTest_24 : decode cX5_readTest 24 = .ok (.iconst 0, 1) := by decide +kernel
theorem dX5_readTest_25 : decode cX5_readTest 25 = .ok (.istore_n 1, 1) := by decide +kernel
theorem dX5_readTest_26 : decode cX5_readTest 26 = .ok (.iconst 0, 1) := by decide +kernel
theorem dX5_readTest_27 : decode cX5_readTest 27 = .ok (.istore_n 2, 1) := by decide +kernel
theorem dX5_readTest_28 : decode cX5_readTest 28 = .ok (.iconst 0, 1) := by decide +kernel
theorem dX5_readTest_29 : decode cX5_readTest 29 = .ok (.istore_n 3, 1) := by decide +kernel
theorem dX5_readTest_30 : decode cX5_readTest 30 = .ok (.iload_n 3, 1) := by decide +kernel
theorem dX5_readTest_31 : decode cX5_readTest 31 = .ok (.aload_n 0, 1) := by decide +kernel
theorem dX5_readTest_32 : decode cX5_readTest 32 = .ok (.getfield 12, 3) := by decide +kernel
theorem dX5_readTest_35 : decode cX5_readTest 35 = .ok (.getfield 100, 3) := by decide +kernel
theorem dX5_readTest_38 : decode cX5_readTest 38 = .ok (.getfield 163, 3) := by decide +kernel
theorem dX5_readTest_41 : decode cX5_readTest 41 = .ok (.if_icmp .ge 70, 3) := by decide +kernel
theorem dX5_readTest_44 : decode cX5_readTest 44 = .ok (.aload_n 0, 1) := by decide +kernel
theorem dX5_readTest_45 : decode cX5_readTest 45 = .ok (.ldc 166, 2) := by decide +kernel
theorem dX5_readTest_47 : decode cX5_readTest 47 = .ok (.invokevirtual 69, 3) := by decide +kernel
theorem dX5_readTest_50 : decode cX5_readTest 50 = .ok (.ifCond .eq 12, 3) := by decide +kernel
theorem dX5_readTest_53 : decode cX5_readTest 53 = .ok (.iload_n 2, 1) := by decide +kernel
theorem dX5_readTest_54 : decode cX5_readTest 54 = .ok (.iconst 1, 1) := by decide +kernel
theorem dX5_readTest_55 : decode cX5_readTest 55 = .ok (.iload_n 3, 1) := by decide +kernel
theorem dX5_readTest_56 : decode cX5_readTest 56 = .ok (.ishl, 1) := by decide +kernel
theorem dX5_readTest_57 : decode cX5_readTest 57 = .ok (.ior, 1) := by decide +kernel
theorem dX5_readTest_58 : decode cX5_readTest 58 = .ok (.istore_n 2, 1) := by decide +kernel
theorem dX5_readTest_59 : decode cX5_readTest 59 = .ok (.goto 42, 3) := by decide +kernel
theorem dX5_readTest_62 : decode cX5_readTest 62 = .ok (.aload_n 0, 1) := by decide +kernel
theorem dX5_readTest_63 : decode cX5_readTest 63 = .ok (.getfield 38, 3) := by decide +kernel
theorem dX5_readTest_66 : decode cX5_readTest 66 = .ok (.iconst 2, 1) := by decide +kernel
theorem dX5_readTest_67 : decode cX5_readTest 67 = .ok (.if_icmp .eq 10, 3) := by decide +kernel
theorem dX5_readTest_70 : decode cX5_readTest 70 = .ok (.aload_n 0, 1) := by decide +kernel
theorem dX5_readTest_71 : decode cX5_readTest 71 = .ok (.bipush (-2), 2) := by decide +kernel
theorem dX5_readTest_73 : decode cX5_readTest 73 = .ok (.invokevirtual 73, 3) := by decide +kernel
theorem dX5_readTest_76 : decode cX5_readTest 76 = .ok (.ireturn, 1) := by decide +kernel
theorem dX5_readTest_77 : decode cX5_readTest 77 = .ok (.aload_n 0, 1) := by decide +kernel
theorem dX5_readTest_78 : decode cX5_readTest 78 = .ok (.getfield 44, 3) := by decide +kernel
theorem dX5_readTest_81 : decode cX5_readTest 81 = .ok (.iconst 1, 1) := by decide +kernel
theorem dX5_readTest_82 : decode cX5_readTest 82 = .ok (.if_icmp .le 10, 3) := by decide +kernel
theorem dX5_readTest_85 : decode cX5_readTest 85 = .ok (.aload_n 0, 1) := by decide +kernel
theorem dX5_readTest_86 : decode cX5_readTest 86 = .ok (.bipush (-3), 2) := by decide +kernel
theorem dX5_readTest_88 : decode cX5_readTest 88 = .ok (.invokevirtual 73, 3) := by decide +kernel
theorem dX5_readTest_91 : decode cX5_readTest 91 = .ok (.ireturn, 1) := by decide +kernel
theorem dX5_readTest_92 : decode cX5_readTest 92 = .ok (.iload_n 1, 1) := by decide +kernel
theorem dX5_readTest_93 : decode cX5_readTest 93 = .ok (.aload_n 0, 1) := by decide +kernel
theorem dX5_readTest_94 : decode cX5_readTest 94 = .ok (.getfield 44, 3) := by decide +kernel
theorem dX5_readTest_97 : decode cX5_readTest 97 = .ok (.iload_n 3, 1) := by decide +kernel
theorem dX5_readTest_98 : decode cX5_readTest 98 = .ok (.ishl, 1) := by decide +kernel
theorem dX5_readTest_99 : decode cX5_readTest 99 = .ok (.ior, 1) := by decide +kernel
theorem dX5_readTest_100 : decode cX5_readTest 100 = .ok (.istore_n 1, 1) := by decide +kernel
theorem dX5_readTest_101 : decode cX5_readTest 101 = .ok (.aload_n 0, 1) := by decide +kernel
theorem dX5_readTest_102 : decode cX5_readTest 102 = .ok (.invokevirtual 57, 3) := by decide +kernel
theorem dX5_readTest_105 : decode cX5_readTest 105 = .ok (.iinc 3 1, 3) := by decide +kernel
theorem dX5_readTest_108 : decode cX5_readTest 108 = .ok (.goto (-78), 3) := by decide +kernel
theorem dX5_readTest_111 : decode cX5_readTest 111 = .ok (.aload_n 0, 1) := by decide +kernel
theorem dX5_readTest_112 : decode cX5_readTest 112 = .ok (.getfield 12, 3) := by decide +kernel
theorem dX5_readTest_115 : decode cX5_readTest 115 = .ok (.getfield 154, 3) := by decide +kernel
theorem dX5_readTest_118 : decode cX5_readTest 118 = .ok (.iload_n 1, 1) := by decide +kernel
theorem dX5_readTest_119 : decode cX5_readTest 119 = .ok (.iload_n 2, 1) := by decide +kernel
theorem dX5_readTest_120 : decode cX5_readTest 120 = .ok (.invokevirtual 168, 3) := by decide +kernel
theorem dX5_readTest_123 : decode cX5_readTest 123 = .ok (.aload_n 0, 1) := by decide +kernel
theorem dX5_readTest_124 : decode cX5_readTest 124 = .ok (.invokevirtual 77, 3) := by decide +kernel
theorem dX5_readTest_127 : decode cX5_readTest 127 = .ok (.ireturn, 1) := by decide +kernel
set_option maxRecDepth 20000 in
theorem ggX5_kindOfWord_X5_isWord : GoodIn wsX5_kindOfWord wsX5_isWord := goodIn_r _ [5, 6, 7, 8, 9, 10, 11, 12, 13, 14, 15, 16, 17, 18, 19, 20, 21, 22, 23, 24, 25, 26, 27, 28, 29, 30, 31, 32, 33, 34, 35, 36, 37, 38, 39, 40, 41, 42, 43, 44, 45, 46, 47, 48, 49, 50, 51, 52, 53, 54, 55, 56, 57, 58, 59, 60, 61, 62, 63, 64, 65, 66, 67, 68, 69] (by decide +kernel) (by decide +kernel)
set_option maxRecDepth 20000 in
theorem gX5_kindOfWord_X5_isWord : GoodIn wsX5_kindOfWord (wsV RX5 69 RX5 yX5_isWord wsX5_isWord) := goodIn_app (goodIn_of _ (by decide +kernel)) ggX5_kindOfWord_X5_isWord
theorem dX5_kindOfWord_0 : decode cX5_kindOfWord 0 = .ok (.aload_n 0, 1) := by decide +kernel
theorem dX5_kindOfWord_1 : decode cX5_kindOfWord 1 = .ok (.ldc 172, 2) := by decide +kernel
theorem dX5_kindOfWord_3 : decode cX5_kindOfWord 3 = .ok (.invokevirtual 69, 3) := by decide +kernel
theorem dX5_kindOfWord_6 : decode cX5_kindOfWord 6 = .ok (.ifCond .eq 5, 3) := by decide +kernel
theorem dX5_kindOfWord_9 : decode cX5_kindOfWord 9 = .ok (.iconst 0, 1) := by decide +kernel
theorem dX5_kindOfWord_10 : decode cX5_kindOfWord 10 = .ok (.ireturn, 1) := by decide +kernel
theorem dX5_kindOfWord_11 : decode cX5_kindOfWord 11 = .ok (.aload_n 0, 1) := by decide +kernel
theorem dX5_kindOfWord_12 : decode cX5_kindOfWord 12 = .ok (.ldc 174, 2) := by decide +kernel
theorem dX5_kindOfWord_14 : decode cX5_kindOfWord 14 = .ok (.invokevirtual 69, 3) := by decide +kernel
theorem dX5_kindOfWord_17 : decode cX5_kindOfWord 17 = .ok (.ifCond .eq 5, 3) := by decide +kernel
theorem dX5_kindOfWord_20 : decode cX5_kindOfWord 20 = .ok (.iconst 1, 1) := by decide +kernel
theorem dX5_kindOfWord_21 : decode cX5_kindOfWord 21 = .ok (.ireturn, 1) := by decide +kernel
theorem dX5_kindOfWord_22 : decode cX5_kindOfWord 22 = .ok (.aload_n 0, 1) := by decide +kernel
theorem dX5_kindOfWord_23 : decode cX5_kindOfWord 23 = .ok (.ldc 176, 2) := by decide +kernel
theorem dX5_kindOfWord_25 : decode cX5_kindOfWord 25 = .ok (.invokevirtual 69, 3) := by decide +kernel
theorem dX5_kindOfWord_28 : decode cX5_kindOfWord 28 = .ok (.ifCond .eq 5, 3) := by decide +kernel
theorem dX5_kindOfWord_31 : decode cX5_kindOfWord 31 = .ok (.iconst 2, 1) := by decide +kernel
theorem dX5_kindOfWord_32 : decode cX5_kindOfWord 32 = .ok (.ireturn, 1) := by decide +kernel
theorem dX5_kindOfWord_33 : decode cX5_kindOfWord 33 = .ok (.aload_n 0, 1) := by decide +kernel
theorem dX5_kindOfWord_34 : decode cX5_kindOfWord 34 = .ok (.ldc 178, 2) := by decide +kernel
theorem dX5_kindOfWord_36 : decode cX5_kindOfWord 36 = .ok (.invokevirtual 69, 3) := by decide +kernel
theorem dX5_kindOfWord_39 : decode cX5_kindOfWord 39 = .ok (.ifCond .eq 5, 3) := by decide +kernel
theorem dX5_kindOfWord_42 : decode cX5_kindOfWord 42 = .ok (.iconst 3, 1) := by decide +kernel
theorem dX5_kindOfWord_43 : decode cX5_kindOfWord 43 = .ok (.ireturn, 1) := by decide +kernel
theorem dX5_kindOfWord_44 : decode cX5_kindOfWord 44 = .ok (.aload_n 0, 1) := by decide +kernel
theorem dX5_kindOfWord_45 : decode cX5_kindOfWord 45 = .ok (.ldc 180, 2) := by decide +kernel
theorem dX5_kindOfWord_47 : decode cX5_kindOfWord 47 = .ok (.invokevirtual 69, 3) := by decide +kernel
theorem dX5_kindOfWord_50 : decode cX5_kindOfWord 50 = .ok (.ifCond .eq 5, 3) := by decide +kernel
theorem dX5_kindOfWord_53 : decode cX5_kindOfWord 53 = .ok (.iconst 4, 1) := by decide +kernel
theorem dX5_kindOfWord_54 : decode cX5_kindOfWord 54 = .ok (.ireturn, 1) := by decide +kernel
theorem dX5_kindOfWord_55 : decode cX5_kindOfWord 55 = .ok (.aload_n 0, 1) := by decide +kernel
theorem dX5_kindOfWord_56 : decode cX5_kindOfWord 56 = .ok (.ldc 182, 2) := by decide +kernel
theorem dX5_kindOfWord_58 : decode cX5_kindOfWord 58 = .ok (.invokevirtual 69, 3) := by decide +kernel
theorem dX5_kindOfWord_61 : decode cX5_kindOfWord 61 = .ok (.ifCond .eq 5, 3) := by decide +kernel
theorem dX5_kindOfWord_64 : decode cX5_kindOfWord 64 = .ok (.iconst 5, 1) := by decide +kernel
theorem dX5_kindOfWord_65 : decode cX5_kindOfWord 65 = .ok (.ireturn, 1) := by decide +kernel
theorem dX5_kindOfWord_66 : decode cX5_kindOfWord 66 = .ok (.aload_n 0, 1) := by decide +kernel
theorem dX5_kindOfWord_67 : decode cX5_kindOfWord 67 = .ok (.ldc 184, 2) := by decide +kernel
theorem dX5_kindOfWord_69 : decode cX5_kindOfWord 69 = .ok (.invokevirtual 69, 3) := by decide +kernel
theorem dX5_kindOfWord_72 : decode cX5_kindOfWord 72 = .ok (.ifCond .eq 6, 3) := by decide +kernel
theorem dX5_kindOfWord_75 : decode cX5_kindOfWord 75 = .ok (.bipush 6, 2) := by decide +kernel
theorem dX5_kindOfWord_77 : decode cX5_kindOfWord 77 = .ok (.ireturn, 1) := by decide +kernel
theorem dX5_kindOfWord_78 : decode cX5_kindOfWord 78 = .ok (.aload_n 0, 1) := by decide +kernel
theorem dX5_kindOfWord_79 : decode cX5_kindOfWord 79 = .ok (.ldc 186, 2) := by decide +kernel
theorem dX5_kindOfWord_81 : decode cX5_kindOfWord 81 = .ok (.invokevirtual 69, 3) := by decide +kernel
theorem dX5_kindOfWord_84 : decode cX5_kindOfWord 84 = .ok (.ifCond .eq 6, 3) := by decide +kernel
theorem dX5_kindOfWord_87 : decode cX5_kindOfWord 87 = .ok (.bipush 7, 2) := by decide +kernel
theorem dX5_kindOfWord_89 : decode cX5_kindOfWord 89 = .ok (.ireturn, 1) := by decide +kernel
theorem dX5_kindOfWord_90 : decode cX5_kindOfWord 90 = .ok (.aload_n 0, 1) := by decide +kernel
theorem dX5_kindOfWord_91 : decode cX5_kindOfWord 91 = .ok (.ldc 188, 2) := by decide +kernel
theorem dX5_kindOfWord_93 : decode cX5_kindOfWord 93 = .ok (.invokevirtual 69, 3) := by decide +kernel
theorem dX5_kindOfWord_96 : decode cX5_kindOfWord 96 = .ok (.ifCond .eq 8, 3) := by decide +kernel
theorem dX5_kindOfWord_99 : decode cX5_kindOfWord 99 = .ok (.bipush 8, 2) := by decide +kernel
theorem dX5_kindOfWord_101 : decode cX5_kindOfWord 101 = .ok (.goto 4, 3) := by decide +kernel
theorem dX5_kindOfWord_104 : decode cX5_kindOfWord 104 = .ok (.iconst (-1), 1) := by decide +kernel
theorem dX5_kindOfWord_105 : decode cX5_kindOfWord 105 = .ok (.ireturn, 1) := by decide +kernel
set_option maxRecDepth 20000 in
theorem ggX5_isWord_J0_length_8abf5 : GoodIn wsX5_isWord wsJ0_length_8abf5 := goodIn_r _ [10, 11, 12, 13, 14, 9, 15, 16, 17] (by decide +kernel) (by decide +kernel)
set_option maxRecDepth 20000 in
theorem gX5_isWord_J0_length_8abf5 : GoodIn wsX5_isWord (wsV RX5 190 RJ0 yJ0_length_8abf5 wsJ0_length_8abf5) := goodIn_app (goodIn_of _ (by decide +kernel)) ggX5_isWord_J0_length_8abf5
set_option maxRecDepth 20000 in
theorem ggX5_isWord_J0_charAt_5068e : GoodIn wsX5_isWord wsJ0_charAt_5068e := goodIn_r _ [21, 11, 22, 23, 24, 9, 25, 16, 17, 26, 27, 28, 29, 30, 31, 32, 33, 34, 35, 36, 37, 38, 39, 40, 41, 42, 43, 44, 45, 46, 47, 48, 49, 50, 51, 52, 53, 54] (by decide +kernel) (by decide +kernel)
set_option maxRecDepth 20000 in
theorem gX5_isWord_J0_charAt_5068e : GoodIn wsX5_isWord (wsV RX5 195 RJ0 yJ0_charAt_5068e wsJ0_charAt_5068e) := goodIn_app (goodIn_of _ (by decide +kernel)) ggX5_isWord_J0_charAt_5068e
theorem dX5_isWord_0 : decode cX5_isWord 0 = .ok (.aload_n 0, 1) := by decide +kernel
theorem dX5_isWord_1 : decode cX5_isWord 1 = .ok (.getfield 38, 3) := by decide +kernel
theorem dX5_isWord_4 : decode cX5_isWord 4 = .ok (.iconst 1, 1) := by decide +kernel
theorem dX5_isWord_5 : decode cX5_isWord 5 = .ok (.if_icmp .ne 19, 3) := by decide +kernel
theorem dX5_isWord_8 : decode cX5_isWord 8 = .ok (.aload_n 0, 1) := by decide +kernel
theorem dX5_isWord_9 : decode cX5_isWord 9 = .ok (.getfield 35, 3) := by decide +kernel
theorem dX5_isWord_12 : decode cX5_isWord 12 = .ok (.aload_n 0, 1) := by decide +kernel
theorem dX5_isWord_13 : decode cX5_isWord 13 = .ok (.getfield 41, 3) := by decide +kernel
theorem dX5_isWord_16 : decode cX5_isWord 16 = .ok (.isub, 1) := by decide +kernel
theorem dX5_isWord_17 : decode cX5_isWord 17 = .ok (.aload_n 1, 1) := by decide +kernel
theorem dX5_isWord_18 : decode cX5_isWord 18 = .ok (.invokevirtual 190, 3) := by decide +kernel
theorem dX5_isWord_21 : decode cX5_isWord 21 = .ok (.if_icmp .eq 5, 3) := by decide +kernel
theorem dX5_isWord_24 : decode cX5_isWord 24 = .ok (.iconst 0, 1) := by decide +kernel
theorem dX5_isWord_25 : decode cX5_isWord 25 = .ok (.ireturn, 1) := by decide +kernel
theorem dX5_isWord_26 : decode cX5_isWord 26 = .ok (.iconst 0, 1) := by decide +kernel
theorem dX5_isWord_27 : decode cX5_isWord 27 = .ok (.istore_n 2, 1) := by decide +kernel
theorem dX5_isWord_28 : decode cX5_isWord 28 = .ok (.iload_n 2, 1) := by decide +kernel
theorem dX5_isWord_29 : decode cX5_isWord 29 = .ok (.aload_n 1, 1) := by decide +kernel
theorem dX5_isWord_30 : decode cX5_isWord 30 = .ok (.invokevirtual 190, 3) := by decide +kernel
theorem dX5_isWord_33 : decode cX5_isWord 33 = .ok (.if_icmp .ge 43, 3) := by decide +kernel
theorem dX5_isWord_36 : decode cX5_isWord 36 = .ok (.aload_n 0, 1) := by decide +kernel
theorem dX5_isWord_37 : decode cX5_isWord 37 = .ok (.getfield 41, 3) := by decide +kernel
theorem dX5_isWord_40 : decode cX5_isWord 40 = .ok (.iload_n 2, 1) := by decide +kernel
theorem dX5_isWord_41 : decode cX5_isWord 41 = .ok (.iadd, 1) := by decide +kernel
theorem dX5_isWord_42 : decode cX5_isWord 42 = .ok (.aload_n 0, 1) := by decide +kernel
theorem dX5_isWord_43 : decode cX5_isWord 43 = .ok (.getfield 32, 3) := by decide +kernel
theorem dX5_isWord_46 : decode cX5_isWord 46 = .ok (.if_icmp .ge 30, 3) := by decide +kernel
theorem dX5_isWord_49 : decode cX5_isWord 49 = .ok (.aload_n 0, 1) := by decide +kernel
theorem dX5_isWord_50 : decode cX5_isWord 50 = .ok (.getfield 25, 3) := by decide +kernel
theorem dX5_isWord_53 : decode cX5_isWord 53 = .ok (.aload_n 0, 1) := by decide +kernel
theorem dX5_isWord_54 : decode cX5_isWord 54 = .ok (.getfield 41, 3) := by decide +kernel
theorem dX5_isWord_57 : decode cX5_isWord 57 = .ok (.iload_n 2, 1) := by decide +kernel
theorem dX5_isWord_58 : decode cX5_isWord 58 = .ok (.iadd, 1) := by decide +kernel
theorem dX5_isWord_59 : decode cX5_isWord 59 = .ok (.iaload, 1) := by decide +kernel
theorem dX5_isWord_60 : decode cX5_isWord 60 = .ok (.aload_n 1, 1) := by decide +kernel
theorem dX5_isWord_61 : decode cX5_isWord 61 = .ok (.iload_n 2, 1) := by decide +kernel
theorem dX5_isWord_62 : decode cX5_isWord 62 = .ok (.invokevirtual 195, 3) := by decide +kernel
theorem dX5_isWord_65 : decode cX5_isWord 65 = .ok (.if_icmp .eq 5, 3) := by decide +kernel
theorem dX5_isWord_68 : decode cX5_isWord 68 = .ok (.iconst 0, 1) := by decide +kernel
theorem dX5_isWord_69 : decode cX5_isWord 69 = .ok (.ireturn, 1) := by decide +kernel
theorem dX5_isWord_70 : decode cX5_isWord 70 = .ok (.iinc 2 1, 3) := by decide +kernel
theorem dX5_isWord_73 : decode cX5_isWord 73 = .ok (.goto (-45), 3) := by decide +kernel
theorem dX5_isWord_76 : decode cX5_isWord 76 = .ok (.iconst 1, 1) := by decide +kernel
theorem dX5_isWord_77 : decode cX5_isWord 77 = .ok (.ireturn, 1) := by decide +kernel
set_option maxRecDepth 20000 in
theorem ggX5_advance_X5_isDigit : GoodIn wsX5_advance wsX5_isDigit := goodIn_r _ [15] (by decide +kernel) (by decide +kernel)
set_option maxRecDepth 20000 in
theorem gX5_advance_X5_isDigit : GoodIn wsX5_advance (va_wsS RX5 199 yX5_isDigit wsX5_isDigit) := goodIn_app (goodIn_of _ (by decide +kernel)) ggX5_advance_X5_isDigit
set_option maxRecDepth 20000 in
theorem ggX5_advance_X5_isLetter : GoodIn wsX5_advance wsX5_isLetter := goodIn_r _ [18] (by decide +kernel) (by decide +kernel)
set_option maxRecDepth 20000 in
theorem gX5_advance_X5_isLetter : GoodIn wsX5_advance (va_wsS RX5 203 yX5_isLetter wsX5_isLetter) := goodIn_app (goodIn_of _ (by decide +kernel)) ggX5_advance_X5_isLetter
theorem dX5_advance_0 : decode cX5_advance 0 = .ok (.aload_n 0, 1) := by decide +kernel
theorem dX5_advance_1 : decode cX5_advance 1 = .ok (.getfield 35, 3) := by decide +kernel
theorem dX5_advance_4 : decode cX5_advance 4 = .ok (.aload_n 0, 1) := by decide +kernel
theorem dX5_advance_5 : decode cX5_advance 5 = .ok (.getfield 32, 3) := by decide +kernel
theorem dX5_advance_8 : decode cX5_advance 8 = .ok (.if_icmp .ge 30, 3) := by decide +kernel
theorem dX5_advance_11 : decode cX5_advance 11 = .ok (.aload_n 0, 1) := by decide +kernel
theorem dX5_advance_12 : decode cX5_advance 12 = .ok (.getfield 25, 3) := by decide +kernel
theorem dX5_advance_15 : decode cX5_advance 15 = .ok (.aload_n 0, 1) := by decide +kernel
theorem dX5_advance_16 : decode cX5_advance 16 = .ok (.getfield 35, 3) := by decide +kernel
theorem dX5_advance_19 : decode cX5_advance 19 = .ok (.iaload, 1) := by decide +kernel
theorem dX5_advance_20 : decode cX5_advance 20 = .ok (.bipush 32, 2) := by decide +kernel
theorem dX5_advance_22 : decode cX5_advance 22 = .ok (.if_icmp .ne 16, 3) := by decide +kernel
theorem dX5_advance_25 : decode cX5_advance 25 = .ok (.aload_n 0, 1) := by decide +kernel
theorem dX5_advance_26 : decode cX5_advance 26 = .ok (.dup, 1) := by decide +kernel
theorem dX5_advance_27 : decode cX5_advance 27 = .ok (.getfield 35, 3) := by decide +kernel
theorem dX5_advance_30 : decode cX5_advance 30 = .ok (.iconst 1, 1) := by decide +kernel
theorem dX5_advance_31 : decode cX5_advance 31 = .ok (.iadd, 1) := by decide +kernel
theorem dX5_advance_32 : decode cX5_advance 32 = .ok (.putfield 35, 3) := by decide +kernel
theorem dX5_advance_35 : decode cX5_advance 35 = .ok (.goto (-35), 3) := by decide +kernel
theorem dX5_advance_38 : decode cX5_advance 38 = .ok (.aload_n 0, 1) := by decide +kernel
theorem dX5_advance_39 : decode cX5_advance 39 = .ok (.aload_n 0, 1) := by decide +kernel
theorem dX5_advance_40 : decode cX5_advance 40 = .ok (.getfield 35, 3) := by decide +kernel
theorem dX5_advance_43 : decode cX5_advance 43 = .ok (.putfield 41, 3) := by decide +kernel
theorem dX5_advance_46 : decode cX5_advance 46 = .ok (.aload_n 0, 1) := by decide +kernel
theorem dX5_advance_47 : decode cX5_advance 47 = .ok (.iconst 0, 1) := by decide +kernel
theorem dX5_advance_48 : decode cX5_advance 48 = .ok (.putfield 44, 3) := by decide +kernel
theorem dX5_advance_51 : decode cX5_advance 51 = .ok (.aload_n 0, 1) := by decide +kernel
theorem dX5_advance_52 : decode cX5_advance 52 = .ok (.getfield 35, 3) := by decide +kernel
theorem dX5_advance_55 : decode cX5_advance 55 = .ok (.aload_n 0, 1) := by decide +kernel
theorem dX5_advance_56 : decode cX5_advance 56 = .ok (.getfield 32, 3) := by decide +kernel
theorem dX5_advance_59 : decode cX5_advance 59 = .ok (.if_icmp .lt 11, 3) := by decide +kernel
theorem dX5_advance_62 : decode cX5_advance 62 = .ok (.aload_n 0, 1) := by decide +kernel
theorem dX5_advance_63 : decode cX5_advance 63 = .ok (.iconst 0, 1) := by decide +kernel
theorem dX5_advance_64 : decode cX5_advance 64 = .ok (.putfield 38, 3) := by decide +kernel
theorem dX5_advance_67 : decode cX5_advance 67 = .ok (.goto 183, 3) := by decide +kernel
theorem dX5_advance_70 : decode cX5_advance 70 = .ok (.aload_n 0, 1) := by decide +kernel
theorem dX5_advance_71 : decode cX5_advance 71 = .ok (.getfield 25, 3) := by decide +kernel
theorem dX5_advance_74 : decode cX5_advance 74 = .ok (.aload_n 0, 1) := by decide +kernel
theorem dX5_advance_75 : decode cX5_advance 75 = .ok (.getfield 35, 3) := by decide +kernel
theorem dX5_advance_78 : decode cX5_advance 78 = .ok (.iaload, 1) := by decide +kernel
theorem dX5_advance_79 : decode cX5_advance 79 = .ok (.invokestatic 199, 3) := by decide +kernel
theorem dX5_advance_82 : decode cX5_advance 82 = .ok (.ifCond .eq 76, 3) := by decide +kernel
theorem dX5_advance_85 : decode cX5_advance 85 = .ok (.aload_n 0, 1) := by decide +kernel
theorem dX5_advance_86 : decode cX5_advance 86 = .ok (.iconst 2, 1) := by decide +kernel
theorem dX5_advance_87 : decode cX5_advance 87 = .ok (.putfield 38, 3) := by decide +kernel
theorem dX5_advance_90 : decode cX5_advance 90 = .ok (.aload_n 0, 1) := by decide +kernel
theorem dX5_advance_91 : decode cX5_advance 91 = .ok (.getfield 35, 3) := by decide +kernel
theorem dX5_advance_94 : decode cX5_advance 94 = .ok (.aload_n 0, 1) := by decide +kernel
theorem dX5_advance_95 : decode cX5_advance 95 = .ok (.getfield 32, 3) := by decide +kernel
theorem dX5_advance_98 : decode cX5_advance 98 = .ok (.if_icmp .ge 152, 3) := by decide +kernel
theorem dX5_advance_101 : decode cX5_advance 101 = .ok (.aload_n 0, 1) := by decide +kernel
theorem dX5_advance_102 : decode cX5_advance 102 = .ok (.getfield 25, 3) := by decide +kernel
theorem dX5_advance_105 : decode cX5_advance 105 = .ok (.aload_n 0, 1) := by decide +kernel
theorem dX5_advance_106 : decode cX5_advance 106 = .ok (.getfield 35, 3) := by decide +kernel
theorem dX5_advance_109 : decode cX5_advance 109 = .ok (.iaload, 1) := by decide +kernel
theorem dX5_advance_110 : decode cX5_advance 110 = .ok (.invokestatic 199, 3) := by decide +kernel
theorem dX5_advance_113 : decode cX5_advance 113 = .ok (.ifCond .eq 137, 3) := by decide +kernel
theorem dX5_advance_116 : decode cX5_advance 116 = .ok (.aload_n 0, 1) := by decide +kernel
theorem dX5_advance_117 : decode cX5_advance 117 = .ok (.ldc 202, 2) := by decide +kernel
theorem dX5_advance_119 : decode cX5_advance 119 = .ok (.aload_n 0, 1) := by decide +kernel
theorem dX5_advance_120 : decode cX5_advance 120 = .ok (.getfield 44, 3) := by decide +kernel
theorem dX5_advance_123 : decode cX5_advance 123 = .ok (.bipush 10, 2) := by decide +kernel
theorem dX5_advance_125 : decode cX5_advance 125 = .ok (.imul, 1) := by decide +kernel
theorem dX5_advance_126 : decode cX5_advance 126 = .ok (.aload_n 0, 1) := by decide +kernel
theorem dX5_advance_127 : decode cX5_advance 127 = .ok (.getfield 25, 3) := by decide +kernel
theorem dX5_advance_130 : decode cX5_advance 130 = .ok (.aload_n 0, 1) := by decide +kernel
theorem dX5_advance_131 : decode cX5_advance 131 = .ok (.getfield 35, 3) := by decide +kernel
theorem dX5_advance_134 : decode cX5_advance 134 = .ok (.iaload, 1) := by decide +kernel
theorem dX5_advance_135 : decode cX5_advance 135 = .ok (.iadd, 1) := by decide +kernel
theorem dX5_advance_136 : decode cX5_advance 136 = .ok (.bipush 48, 2) := by decide +kernel
theorem dX5_advance_138 : decode cX5_advance 138 = .ok (.isub, 1) := by decide +kernel
theorem dX5_advance_139 : decode cX5_advance 139 = .ok (.invokestatic 47, 3) := by decide +kernel
theorem dX5_advance_142 : decode cX5_advance 142 = .ok (.putfield 44, 3) := by decide +kernel
theorem dX5_advance_145 : decode cX5_advance 145 = .ok (.aload_n 0, 1) := by decide +kernel
theorem dX5_advance_146 : decode cX5_advance 146 = .ok (.dup, 1) := by decide +kernel
theorem dX5_advance_147 : decode cX5_advance 147 = .ok (.getfield 35, 3) := by decide +kernel
theorem dX5_advance_150 : decode cX5_advance 150 = .ok (.iconst 1, 1) := by decide +kernel
theorem dX5_advance_151 : decode cX5_advance 151 = .ok (.iadd, 1) := by decide +kernel
theorem dX5_advance_152 : decode cX5_advance 152 = .ok (.putfield 35, 3) := by decide +kernel
theorem dX5_advance_155 : decode cX5_advance 155 = .ok (.goto (-65), 3) := by decide +kernel
theorem dX5_advance_158 : decode cX5_advance 158 = .ok (.aload_n 0, 1) := by decide +kernel
theorem dX5_advance_159 : decode cX5_advance 159 = .ok (.getfield 25, 3) := by decide +kernel
theorem dX5_advance_162 : decode cX5_advance 162 = .ok (.aload_n 0, 1) := by decide +kernel
theorem dX5_advance_163 : decode cX5_advance 163 = .ok (.getfield 35, 3) := by decide +kernel
theorem dX5_advance_166 : decode cX5_advance 166 = .ok (.iaload, 1) := by decide +kernel
theorem dX5_advance_167 : decode cX5_advance 167 = .ok (.invokestatic 203, 3) := by decide +kernel
theorem dX5_advance_170 : decode cX5_advance 170 = .ok (.ifCond .eq 47, 3) := by decide +kernel
theorem dX5_advance_173 : decode cX5_advance 173 = .ok (.aload_n 0, 1) := by decide +kernel
theorem dX5_advance_174 : decode cX5_advance 174 = .ok (.iconst 1, 1) := by decide +kernel
theorem dX5_advance_175 : decode cX5_advance 175 = .ok (.putfield 38, 3) := by decide +kernel
theorem dX5_advance_178 : decode cX5_advance 178 = .ok (.aload_n 0, 1) := by decide +kernel
theorem dX5_advance_179 : decode cX5_advance 179 = .ok (.getfield 35, 3) := by decide +kernel
theorem dX5_advance_182 : decode cX5_advance 182 = .ok (.aload_n 0, 1) := by decide +kernel
theorem dX5_advance_183 : decode cX5_advance 183 = .ok (.getfield 32, 3) := by decide +kernel
theorem dX5_advance_186 : decode cX5_advance 186 = .ok (.if_icmp .ge 64, 3) := by decide +kernel
theorem dX5_advance_189 : decode cX5_advance 189 = .ok (.aload_n 0, 1) := by decide +kernel
theorem dX5_advance_190 : decode cX5_advance 190 = .ok (.getfield 25, 3) := by decide +kernel
theorem dX5_advance_193 : decode cX5_advance 193 = .ok (.aload_n 0, 1) := by decide +kernel
theorem dX5_advance_194 : decode cX5_advance 194 = .ok (.getfield 35, 3) := by decide +kernel
theorem dX5_advance_197 : decode cX5_advance 197 = .ok (.iaload, 1) := by decide +kernel
theorem dX5_advance_198 : decode cX5_advance 198 = .ok (.invokestatic 203, 3) := by decide +kernel
theorem dX5_advance_201 : decode cX5_advance 201 = .ok (.ifCond .eq 49, 3) := by decide +kernel
theorem dX5_advance_204 : decode cX5_advance 204 = .ok (.aload_n 0, 1) := by decide +kernel
theorem dX5_advance_205 : decode cX5_advance 205 = .ok (.dup, 1) := by decide +kernel
theorem dX5_advance_206 : decode cX5_advance 206 = .ok (.getfield 35, 3) := by decide +kernel
theorem dX5_advance_209 : decode cX5_advance 209 = .ok (.iconst 1, 1) := by decide +kernel
theorem dX5_advance_210 : decode cX5_advance 210 = .ok (.iadd, 1) := by decide +kernel
theorem dX5_advance_211 : decode cX5_advance 211 = .ok (.putfield 35, 3) := by decide +kernel
theorem dX5_advance_214 : decode cX5_advance 214 = .ok (.goto (-36), 3) := by decide +kernel
theorem dX5_advance_217 : decode cX5_advance 217 = .ok (.aload_n 0, 1) := by decide +kernel
theorem dX5_advance_218 : decode cX5_advance 218 = .ok (.aload_n 0, 1) := by decide +kernel
theorem dX5_advance_219 : decode cX5_advance 219 = .ok (.getfield 25, 3) := by decide +kernel
theorem dX5_advance_222 : decode cX5_advance 222 = .ok (.aload_n 0, 1) := by decide +kernel
theorem dX5_advance_223 : decode cX5_advance 223 = .ok (.getfield 35, 3) := by decide +kernel
theorem dX5_advance_226 : decode cX5_advance 226 = .ok (.iaload, 1) := by decide +kernel
theorem dX5_advance_227 : decode cX5_advance 227 = .ok (.bipush 59, 2) := by decide +kernel
theorem dX5_advance_229 : decode cX5_advance 229 = .ok (.if_icmp .ne 7, 3) := by decide +kernel
theorem dX5_advance_232 : decode cX5_advance 232 = .ok (.iconst 3, 1) := by decide +kernel
theorem dX5_advance_233 : decode cX5_advance 233 = .ok (.goto 4, 3) := by decide +kernel
theorem dX5_advance_236 : decode cX5_advance 236 = .ok (.iconst 4, 1) := by decide +kernel
theorem dX5_advance_237 : decode cX5_advance 237 = .ok (.putfield 38, 3) := by decide +kernel
theorem dX5_advance_240 : decode cX5_advance 240 = .ok (.aload_n 0, 1) := by decide +kernel
theorem dX5_advance_241 : decode cX5_advance 241 = .ok (.dup, 1) := by decide +kernel
theorem dX5_advance_242 : decode cX5_advance 242 = .ok (.getfield 35, 3) := by decide +kernel
theorem dX5_advance_245 : decode cX5_advance 245 = .ok (.iconst 1, 1) := by decide +kernel
theorem dX5_advance_246 : decode cX5_advance 246 = .ok (.iadd, 1) := by decide +kernel
theorem dX5_advance_247 : decode cX5_advance 247 = .ok (.putfield 35, 3) := by decide +kernel
theorem dX5_advance_250 : decode cX5_advance 250 = .ok (.return_, 1) := by decide +kernel
theorem dX5_isDigit_0 : decode cX5_isDigit 0 = .ok (.iload_n 0, 1) := by decide +kernel
theorem dX5_isDigit_1 : decode cX5_isDigit 1 = .ok (.bipush 48, 2) := by decide +kernel
theorem dX5_isDigit_3 : decode cX5_isDigit 3 = .ok (.if_icmp .lt 13, 3) := by decide +kernel
theorem dX5_isDigit_6 : decode cX5_isDigit 6 = .ok (.iload_n 0, 1) := by decide +kernel
theorem dX5_isDigit_7 : decode cX5_isDigit 7 = .ok (.bipush 57, 2) := by decide +kernel
theorem dX5_isDigit_9 : decode cX5_isDigit 9 = .ok (.if_icmp .gt 7, 3) := by decide +kernel
theorem dX5_isDigit_12 : decode cX5_isDigit 12 = .ok (.iconst 1, 1) := by decide +kernel
theorem dX5_isDigit_13 : decode cX5_isDigit 13 = .ok (.goto 4, 3) := by decide +kernel
theorem dX5_isDigit_16 : decode cX5_isDigit 16 = .ok (.iconst 0, 1) := by decide +kernel
theorem dX5_isDigit_17 : decode cX5_isDigit 17 = .ok (.ireturn, 1) := by decide +kernel
theorem dX5_isLetter_0 : decode cX5_isLetter 0 = .ok (.iload_n 0, 1) := by decide +kernel
theorem dX5_isLetter_1 : decode cX5_isLetter 1 = .ok (.bipush 97, 2) := by decide +kernel
theorem dX5_isLetter_3 : decode cX5_isLetter 3 = .ok (.if_icmp .lt 13, 3) := by decide +kernel
theorem dX5_isLetter_6 : decode cX5_isLetter 6 = .ok (.iload_n 0, 1) := by decide +kernel
theorem dX5_isLetter_7 : decode cX5_isLetter 7 = .ok (.bipush 122, 2) := by decide +kernel
theorem dX5_isLetter_9 : decode cX5_isLetter 9 = .ok (.if_icmp .gt 7, 3) := by decide +kernel
theorem dX5_isLetter_12 : decode cX5_isLetter 12 = .ok (.iconst 1, 1) := by decide +kernel
theorem dX5_isLetter_13 : decode cX5_isLetter 13 = .ok (.goto 4, 3) := by decide +kernel
theorem dX5_isLetter_16 : decode cX5_isLetter 16 = .ok (.iconst 0, 1) := by decide +kernel
theorem dX5_isLetter_17 : decode cX5_isLetter 17 = .ok (.ireturn, 1) := by decide +kernel
theorem dX6_init_0 : decode cX6_init 0 = .ok (.aload_n 0, 1) := by decide +kernel
theorem dX6_init_1 : decode cX6_init 1 = .ok (.invokespecial 3, 3) := by decide +kernel
theorem dX6_init_4 : decode cX6_init 4 = .ok (.aload_n 0, 1) := by decide +kernel
theorem dX6_init_5 : decode cX6_init 5 = .ok (.iconst 0, 1) := by decide +kernel
theorem dX6_init_6 : decode cX6_init 6 = .ok (.putfield 9, 3) := by decide +kernel
theorem dX6_init_9 : decode cX6_init 9 = .ok (.aload_n 0, 1) := by decide +kernel
theorem dX6_init_10 : decode cX6_init 10 = .ok (.bipush 16, 2) := by decide +kernel
theorem dX6_init_12 : decode cX6_init 12 = .ok (.newarray .int, 2) := by decide +kernel
theorem dX6_init_14 : decode cX6_init 14 = .ok (.putfield 15, 3) := by decide +kernel
theorem dX6_init_17 : decode cX6_init 17 = .ok (.aload_n 0, 1) := by decide +kernel
theorem dX6_init_18 : decode cX6_init 18 = .ok (.bipush 16, 2) := by decide +kernel
theorem dX6_init_20 : decode cX6_init 20 = .ok (.newarray .int, 2) := by decide +kernel
theorem dX6_init_22 : decode cX6_init 22 = .ok (.putfield 19, 3) := by decide +kernel
theorem dX6_init_25 : decode cX6_init 25 = .ok (.aload_n 0, 1) := by decide +kernel
theorem dX6_init_26 : decode cX6_init 26 = .ok (.bipush 6, 2) := by decide +kernel
theorem dX6_init_28 : decode cX6_init 28 = .ok (.newarray .int, 2) := by decide +kernel
theorem dX6_init_30 : decode cX6_init 30 = .ok (.putfield 22, 3) := by decide +kernel
theorem dX6_init_33 : decode cX6_init 33 = .ok (.aload_n 0, 1) := by decide +kernel
theorem dX6_init_34 : decode cX6_init 34 = .ok (.bipush 6, 2) := by decide +kernel
theorem dX6_init_36 : decode cX6_init 36 = .ok (.newarray .int, 2) := by decide +kernel
theorem dX6_init_38 : decode cX6_init 38 = .ok (.putfield 25, 3) := by decide +kernel
theorem dX6_init_41 : decode cX6_init 41 = .ok (.return_, 1) := by decide +kernel
set_option maxRecDepth 20000 in
theorem ggX6_clear_X6_clearSeen : GoodIn wsX6_clear wsX6_clearSeen := goodIn_r _ [6, 7, 8, 9, 10, 11, 12, 13] (by decide +kernel) (by decide +kernel)
set_option maxRecDepth 20000 in
theorem gX6_clear_X6_clearSeen : GoodIn wsX6_clear (wsV RX6 28 RX6 yX6_clearSeen wsX6_clearSeen) := goodIn_app (goodIn_of _ (by decide +kernel)) ggX6_clear_X6_clearSeen
theorem dX6_clear_0 : decode cX6_clear 0 = .ok (.aload_n 0, 1) := by decide +kernel
theorem dX6_clear_1 : decode cX6_clear 1 = .ok (.iconst 0, 1) := by decide +kernel
theorem dX6_clear_2 : decode cX6_clear 2 = .ok (.putfield 9, 3) := by decide +kernel
theorem dX6_clear_5 : decode cX6_clear 5 = .ok (.aload_n 0, 1) := by decide +kernel
theorem dX6_clear_6 : decode cX6_clear 6 = .ok (.invokevirtual 28, 3) := by decide +kernel
theorem dX6_clear_9 : decode cX6_clear 9 = .ok (.return_, 1) := by decide +kernel
theorem dX6_clearSeen_0 : decode cX6_clearSeen 0 = .ok (.iconst 0, 1) := by decide +kernel
theorem dX6_clearSeen_1 : decode cX6_clearSeen 1 = .ok (.istore_n 1, 1) := by decide +kernel
theorem dX6_clearSeen_2 : decode cX6_clearSeen 2 = .ok (.iload_n 1, 1) := by decide +kernel
theorem dX6_clearSeen_3 : decode cX6_clearSeen 3 = .ok (.bipush 6, 2) := by decide +kernel
theorem dX6_clearSeen_5 : decode cX6_clearSeen 5 = .ok (.if_icmp .ge 23, 3) := by decide +kernel
theorem dX6_clearSeen_8 : decode cX6_clearSeen 8 = .ok (.aload_n 0, 1) := by decide +kernel
theorem dX6_clearSeen_9 : decode cX6_clearSeen 9 = .ok (.getfield 22, 3) := by decide +kernel
theorem dX6_clearSeen_12 : decode cX6_clearSeen 12 = .ok (.iload_n 1, 1) := by decide +kernel
theorem dX6_clearSeen_13 : decode cX6_clearSeen 13 = .ok (.iconst 0, 1) := by decide +kernel
theorem dX6_clearSeen_14 : decode cX6_clearSeen 14 = .ok (.iastore, 1) := by decide +kernel
theorem dX6_clearSeen_15 : decode cX6_clearSeen 15 = .ok (.aload_n 0, 1) := by decide +kernel
theorem dX6_clearSeen_16 : decode cX6_clearSeen 16 = .ok (.getfield 25, 3) := by decide +kernel
theorem dX6_clearSeen_19 : decode cX6_clearSeen 19 = .ok (.iload_n 1, 1) := by decide +kernel
theorem dX6_clearSeen_20 : decode cX6_clearSeen 20 = .ok (.iconst 0, 1) := by decide +kernel
theorem dX6_clearSeen_21 : decode cX6_clearSeen 21 = .ok (.iastore, 1) := by decide +kernel
theorem dX6_clearSeen_22 : decode cX6_clearSeen 22 = .ok (.iinc 1 1, 3) := by decide +kernel
theorem dX6_clearSeen_25 : decode cX6_clearSeen 25 = .ok (.goto (-23), 3) := by decide +kernel
theorem dX6_clearSeen_28 : decode cX6_clearSeen 28 = .ok (.return_, 1) := by decide +kernel
theorem dX6_copyFrom_0 : decode cX6_copyFrom 0 = .ok (.aload_n 0, 1) := by decide +kernel
theorem dX6_copyFrom_1 : decode cX6_copyFrom 1 = .ok (.aload_n 1, 1) := by decide +kernel
theorem dX6_copyFrom_2 : decode cX6_copyFrom 2 = .ok (.getfield 9, 3) := by decide +kernel
theorem dX6_copyFrom_5 : decode cX6_copyFrom 5 = .ok (.putfield 9, 3) := by decide +kernel
theorem dX6_copyFrom_8 : decode cX6_copyFrom 8 = .ok (.aload_n 1, 1) := by decide +kernel
theorem dX6_copyFrom_9 : decode cX6_copyFrom 9 = .ok (.getfield 15, 3) := by decide +kernel
theorem dX6_copyFrom_12 : decode cX6_copyFrom 12 = .ok (.iconst 0, 1) := by decide +kernel
theorem dX6_copyFrom_13 : decode cX6_copyFrom 13 = .ok (.aload_n 0, 1) := by decide +kernel
theorem dX6_copyFrom_14 : decode cX6_copyFrom 14 = .ok (.getfield 15, 3) := by decide +kernel
theorem dX6_copyFrom_17 : decode cX6_copyFrom 17 = .ok (.iconst 0, 1) := by decide +kernel
theorem dX6_copyFrom_18 : decode cX6_copyFrom 18 = .ok (.bipush 16, 2) := by decide +kernel
theorem dX6_copyFrom_20 : decode cX6_copyFrom 20 = .ok (.invokestatic 31, 3) := by decide +kernel
theorem dX6_copyFrom_23 : decode cX6_copyFrom 23 = .ok (.aload_n 1, 1) := by decide +kernel
theorem dX6_copyFrom_24 : decode cX6_copyFrom 24 = .ok (.getfield 19, 3) := by decide +kernel
theorem dX6_copyFrom_27 : decode cX6_copyFrom 27 = .ok (.iconst 0, 1) := by decide +kernel
theorem dX6_copyFrom_28 : decode cX6_copyFrom 28 = .ok (.aload_n 0, 1) := by decide +kernel
theorem dX6_copyFrom_29 : decode cX6_copyFrom 29 = .ok (.getfield 19, 3) := by decide +kernel
theorem dX6_copyFrom_32 : decode cX6_copyFrom 32 = .ok (.iconst 0, 1) := by decide +kernel
theorem dX6_copyFrom_33 : decode cX6_copyFrom 33 = .ok (.bipush 16, 2) := by decide +kernel
theorem dX6_copyFrom_35 : decode cX6_copyFrom 35 = .ok (.invokestatic 31, 3) := by decide +kernel
theorem dX6_copyFrom_38 : decode cX6_copyFrom 38 = .ok (.aload_n 1, 1) := by decide +kernel
theorem dX6_copyFrom_39 : decode cX6_copyFrom 39 = .ok (.getfield 22, 3) := by decide +kernel
theorem dX6_copyFrom_42 : decode cX6_copyFrom 42 = .ok (.iconst 0, 1) := by decide +kernel
theorem dX6_copyFrom_43 : decode cX6_copyFrom 43 = .ok (.aload_n 0, 1) := by decide +kernel
theorem dX6_copyFrom_44 : decode cX6_copyFrom 44 = .ok (.getfield 22, 3) := by decide +kernel
theorem dX6_copyFrom_47 : decode cX6_copyFrom 47 = .ok (.iconst 0, 1) := by decide +kernel
theorem dX6_copyFrom_48 : decode cX6_copyFrom 48 = .ok (.bipush 6, 2) := by decide +kernel
theorem dX6_copyFrom_50 : decode cX6_copyFrom 50 = .ok (.invokestatic 31, 3) := by decide +kernel
theorem dX6_copyFrom_53 : decode cX6_copyFrom 53 = .ok (.aload_n 1, 1) := by decide +kernel
theorem dX6_copyFrom_54 : decode cX6_copyFrom 54 = .ok (.getfield 25, 3) := by decide +kernel
theorem dX6_copyFrom_57 : decode cX6_copyFrom 57 = .ok (.iconst 0, 1) := by decide +kernel
theorem dX6_copyFrom_58 : decode cX6_copyFrom 58 = .ok (.aload_n 0, 1) := by decide +kernel
theorem dX6_copyFrom_59 : decode cX6_copyFrom 59 = .ok (.getfield 25, 3) := by decide +kernel
theorem dX6_copyFrom_62 : decode cX6_copyFrom 62 = .ok (.iconst 0, 1) := by decide +kernel
theorem dX6_copyFrom_63 : decode cX6_copyFrom 63 = .ok (.bipush 6, 2) := by decide +kernel
theorem dX6_copyFrom_65 : decode cX6_copyFrom 65 = .ok (.invokestatic 31, 3) := by decide +kernel
theorem dX6_copyFrom_68 : decode cX6_copyFrom 68 = .ok (.return_, 1) := by decide +kernel
theorem dX6_isFull_0 : decode cX6_isFull 0 = .ok (.aload_n 0, 1) := by decide +kernel
theorem dX6_isFull_1 : decode cX6_isFull 1 = .ok (.getfield 9, 3) := by decide +kernel
theorem dX6_isFull_4 : decode cX6_isFull 4 = .ok (.bipush 16, 2) := by decide +kernel
theorem dX6_isFull_6 : decode cX6_isFull 6 = .ok (.if_icmp .lt 7, 3) := by decide +kernel
theorem dX6_isFull_9 : decode cX6_isFull 9 = .ok (.iconst 1, 1) := by decide +kernel
theorem dX6_isFull_10 : decode cX6_isFull 10 = .ok (.goto 4, 3) := by decide +kernel
theorem dX6_isFull_13 : decode cX6_isFull 13 = .ok (.iconst 0, 1) := by decide +kernel
theorem dX6_isFull_14 : decode cX6_isFull 14 = .ok (.ireturn, 1) := by decide +kernel
theorem dX6_put_0 : decode cX6_put 0 = .ok (.aload_n 0, 1) := by decide +kernel
theorem dX6_put_1 : decode cX6_put 1 = .ok (.getfield 15, 3) := by decide +kernel
theorem dX6_put_4 : decode cX6_put 4 = .ok (.aload_n 0, 1) := by decide +kernel
theorem dX6_put_5 : decode cX6_put 5 = .ok (.getfield 9, 3) := by decide +kernel
theorem dX6_put_8 : decode cX6_put 8 = .ok (.iload_n 1, 1) := by decide +kernel
theorem dX6_put_9 : decode cX6_put 9 = .ok (.iastore, 1) := by decide +kernel
theorem dX6_put_10 : decode cX6_put 10 = .ok (.aload_n 0, 1) := by decide +kernel
theorem dX6_put_11 : decode cX6_put 11 = .ok (.getfield 19, 3) := by decide +kernel
theorem dX6_put_14 : decode cX6_put 14 = .ok (.aload_n 0, 1) := by decide +kernel
theorem dX6_put_15 : decode cX6_put 15 = .ok (.getfield 9, 3) := by decide +kernel
theorem dX6_put_18 : decode cX6_put 18 = .ok (.iload_n 2, 1) := by decide +kernel
theorem dX6_put_19 : decode cX6_put 19 = .ok (.iastore, 1) := by decide +kernel
theorem dX6_put_20 : decode cX6_put 20 = .ok (.aload_n 0, 1) := by decide +kernel
theorem dX6_put_21 : decode cX6_put 21 = .ok (.dup, 1) := by decide +kernel
theorem dX6_put_22 : decode cX6_put 22 = .ok (.getfield 9, 3) := by decide +kernel
theorem dX6_put_25 : decode cX6_put 25 = .ok (.iconst 1, 1) := by decide +kernel
theorem dX6_put_26 : decode cX6_put 26 = .ok (.iadd, 1) := by decide +kernel
theorem dX6_put_27 : decode cX6_put 27 = .ok (.putfield 9, 3) := by decide +kernel
theorem dX6_put_30 : decode cX6_put 30 = .ok (.return_, 1) := by decide +kernel
set_option maxRecDepth 20000 in
theorem ggX6_drop_X6_withoutBit : GoodIn wsX6_drop wsX6_withoutBit := goodIn_r _ [9] (by decide +kernel) (by decide +kernel)
set_option maxRecDepth 20000 in
theorem gX6_drop_X6_withoutBit : GoodIn wsX6_drop (va_wsS RX6 37 yX6_withoutBit wsX6_withoutBit) := goodIn_app (goodIn_of _ (by decide +kernel)) ggX6_drop_X6_withoutBit
theorem dX6_drop_0 : decode cX6_drop 0 = .ok (.iload_n 1, 1) := by decide +kernel
theorem dX6_drop_1 : decode cX6_drop 1 = .ok (.iconst 1, 1) := by decide +kernel
theorem dX6_drop_2 : decode cX6_drop 2 = .ok (.iadd, 1) := by decide +kernel
theorem dX6_drop_3 : decode cX6_drop 3 = .ok (.istore_n 2, 1) := by decide +kernel
theorem dX6_drop_4 : decode cX6_drop 4 = .ok (.iload_n 2, 1) := by decide +kernel
theorem dX6_drop_5 : decode cX6_drop 5 = .ok (.aload_n 0, 1) := by decide +kernel
theorem dX6_drop_6 : decode cX6_drop 6 = .ok (.getfield 9, 3) := by decide +kernel
theorem dX6_drop_9 : decode cX6_drop 9 = .ok (.if_icmp .ge 37, 3) := by decide +kernel
theorem dX6_drop_12 : decode cX6_drop 12 = .ok (.aload_n 0, 1) := by decide +kernel
theorem dX6_drop_13 : decode cX6_drop 13 = .ok (.getfield 15, 3) := by decide +kernel
theorem dX6_drop_16 : decode cX6_drop 16 = .ok (.iload_n 2, 1) := by decide +kernel
theorem dX6_drop_17 : decode cX6_drop 17 = .ok (.iconst 1, 1) := by decide +kernel
theorem dX6_drop_18 : decode cX6_drop 18 = .ok (.isub, 1) := by decide +kernel
theorem dX6_drop_19 : decode cX6_drop 19 = .ok (.aload_n 0, 1) := by decide +kernel
theorem dX6_drop_20 : decode cX6_drop 20 = .ok (.getfield 15, 3) := by decide +kernel
theorem dX6_drop_23 : decode cX6_drop 23 = .ok (.iload_n 2, 1) := by decide +kernel
theorem dX6_drop_24 : decode cX6_drop 24 = .ok (.iaload, 1) := by decide +kernel
theorem dX6_drop_25 : decode cX6_drop 25 = .ok (.iastore, 1) := by decide +kernel
theorem dX6_drop_26 : decode cX6_drop 26 = .ok (.aload_n 0, 1) := by decide +kernel
theorem dX6_drop_27 : decode cX6_drop 27 = .ok (.getfield 19, 3) := by decide +kernel
theorem dX6_drop_30 : decode cX6_drop 30 = .ok (.iload_n 2, 1) := by decide +kernel
theorem dX6_drop_31 : decode cX6_drop 31 = .ok (.iconst 1, 1) := by decide +kernel
theorem dX6_drop_32 : decode cX6_drop 32 = .ok (.isub, 1) := by decide +kernel
theorem dX6_drop_33 : decode cX6_drop 33 = .ok (.aload_n 0, 1) := by decide +kernel
theorem dX6_drop_34 : decode cX6_drop 34 = .ok (.getfield 19, 3) := by decide +kernel
theorem dX6_drop_37 : decode cX6_drop 37 = .ok (.iload_n 2, 1) := by decide +kernel
theorem dX6_drop_38 : decode cX6_drop 38 = .ok (.iaload, 1) := by decide +kernel
theorem dX6_drop_39 : decode cX6_drop 39 = .ok (.iastore, 1) := by decide +kernel
theorem dX6_drop_40 : decode cX6_drop 40 = .ok (.iinc 2 1, 3) := by decide +kernel
theorem dX6_drop_43 : decode cX6_drop 43 = .ok (.goto (-39), 3) := by decide +kernel
theorem dX6_drop_46 : decode cX6_drop 46 = .ok (.iconst 0, 1) := by decide +kernel
theorem dX6_drop_47 : decode cX6_drop 47 = .ok (.istore_n 2, 1) := by decide +kernel
theorem dX6_drop_48 : decode cX6_drop 48 = .ok (.iload_n 2, 1) := by decide +kernel
theorem dX6_drop_49 : decode cX6_drop 49 = .ok (.bipush 6, 2) := by decide +kernel
theorem dX6_drop_51 : decode cX6_drop 51 = .ok (.if_icmp .ge 41, 3) := by decide +kernel
theorem dX6_drop_54 : decode cX6_drop 54 = .ok (.aload_n 0, 1) := by decide +kernel
theorem dX6_drop_55 : decode cX6_drop 55 = .ok (.getfield 22, 3) := by decide +kernel
theorem dX6_drop_58 : decode cX6_drop 58 = .ok (.iload_n 2, 1) := by decide +kernel
theorem dX6_drop_59 : decode cX6_drop 59 = .ok (.aload_n 0, 1) := by decide +kernel
theorem dX6_drop_60 : decode cX6_drop 60 = .ok (.getfield 22, 3) := by decide +kernel
theorem dX6_drop_63 : decode cX6_drop 63 = .ok (.iload_n 2, 1) := by decide +kernel
theorem dX6_drop_64 : decode cX6_drop 64 = .ok (.iaload, 1) := by decide +kernel
theorem dX6_drop_65 : decode cX6_drop 65 = .ok (.iload_n 1, 1) := by decide +kernel
theorem dX6_drop_66 : decode cX6_drop 66 = .ok (.invokestatic 37, 3) := by decide +kernel
theorem dX6_drop_69 : decode cX6_drop 69 = .ok (.iastore, 1) := by decide +kernel
theorem dX6_drop_70 : decode cX6_drop 70 = .ok (.aload_n 0, 1) := by decide +kernel
theorem dX6_drop_71 : decode cX6_drop 71 = .ok (.getfield 25, 3) := by decide +kernel
theorem dX6_drop_74 : decode cX6_drop 74 = .ok (.iload_n 2, 1) := by decide +kernel
theorem dX6_drop_75 : decode cX6_drop 75 = .ok (.aload_n 0, 1) := by decide +kernel
theorem dX6_drop_76 : decode cX6_drop 76 = .ok (.getfield 25, 3) := by decide +kernel
theorem dX6_drop_79 : decode cX6_drop 79 = .ok (.iload_n 2, 1) := by decide +kernel
theorem dX6_drop_80 : decode cX6_drop 80 = .ok (.iaload, 1) := by decide +kernel
theorem dX6_drop_81 : decode cX6_drop 81 = .ok (.iload_n 1, 1) := by decide +kernel
theorem dX6_drop_82 : decode cX6_drop 82 = .ok (.invokestatic 37, 3) := by decide +kernel
theorem dX6_drop_85 : decode cX6_drop 85 = .ok (.iastore, 1) := by decide +kernel
theorem dX6_drop_86 : decode cX6_drop 86 = .ok (.iinc 2 1, 3) := by decide +kernel
theorem dX6_drop_89 : decode cX6_drop 89 = .ok (.goto (-41), 3) := by decide +kernel
theorem dX6_drop_92 : decode cX6_drop 92 = .ok (.aload_n 0, 1) := by decide +kernel
theorem dX6_drop_93 : decode cX6_drop 93 = .ok (.dup, 1) := by decide +kernel
theorem dX6_drop_94 : decode cX6_drop 94 = .ok (.getfield 9, 3) := by decide +kernel
theorem dX6_drop_97 : decode cX6_drop 97 = .ok (.iconst 1, 1) := by decide +kernel
theorem dX6_drop_98 : decode cX6_drop 98 = .ok (.isub, 1) := by decide +kernel
theorem dX6_drop_99 : decode cX6_drop 99 = .ok (.putfield 9, 3) := by decide +kernel
theorem dX6_drop_102 : decode cX6_drop 102 = .ok (.return_, 1) := by decide +kernel
theorem dX6_withoutBit_0 : decode cX6_withoutBit 0 = .ok (.iconst 1, 1) := by decide +kernel
theorem dX6_withoutBit_1 : decode cX6_withoutBit 1 = .ok (.iload_n 1, 1) := by decide +kernel
theorem dX6_withoutBit_2 : decode cX6_withoutBit 2 = .ok (.ishl, 1) := by decide +kernel
theorem dX6_withoutBit_3 : decode cX6_withoutBit 3 = .ok (.iconst 1, 1) := by decide +kernel
theorem dX6_withoutBit_4 : decode cX6_withoutBit 4 = .ok (.isub, 1) := by decide +kernel
theorem dX6_withoutBit_5 : decode cX6_withoutBit 5 = .ok (.istore_n 2, 1) := by decide +kernel
theorem dX6_withoutBit_6 : decode cX6_withoutBit 6 = .ok (.iload_n 0, 1) := by decide +kernel
theorem dX6_withoutBit_7 : decode cX6_withoutBit 7 = .ok (.iload_n 2, 1) := by decide +kernel
theorem dX6_withoutBit_8 : decode cX6_withoutBit 8 = .ok (.iand, 1) := by decide +kernel
theorem dX6_withoutBit_9 : decode cX6_withoutBit 9 = .ok (.iload_n 0, 1) := by decide +kernel
theorem dX6_withoutBit_10 : decode cX6_withoutBit 10 = .ok (.iconst 1, 1) := by decide +kernel
theorem dX6_withoutBit_11 : decode cX6_withoutBit 11 = .ok (.iushr, 1) := by decide +kernel
theorem dX6_withoutBit_12 : decode cX6_withoutBit 12 = .ok (.iload_n 2, 1) := by decide +kernel
theorem dX6_withoutBit_13 : decode cX6_withoutBit 13 = .ok (.iconst (-1), 1) := by decide +kernel
theorem dX6_withoutBit_14 : decode cX6_withoutBit 14 = .ok (.ixor, 1) := by decide +kernel
theorem dX6_withoutBit_15 : decode cX6_withoutBit 15 = .ok (.iand, 1) := by decide +kernel
theorem dX6_withoutBit_16 : decode cX6_withoutBit 16 = .ok (.ior, 1) := by decide +kernel
theorem dX6_withoutBit_17 : decode cX6_withoutBit 17 = .ok (.ireturn, 1) := by decide +kernel
theorem dX6_note_0 : decode cX6_note 0 = .ok (.iconst 1, 1) := by decide +kernel
theorem dX6_note_1 : decode cX6_note 1 = .ok (.iload_n 1, 1) := by decide +kernel
theorem dX6_note_2 : decode cX6_note 2 = .ok (.ishl, 1) := by decide +kernel
theorem dX6_note_3 : decode cX6_note 3 = .ok (.istore 4, 2) := by decide +kernel
theorem dX6_note_5 : decode cX6_note 5 = .ok (.aload_n 0, 1) := by decide +kernel
theorem dX6_note_6 : decode cX6_note 6 = .ok (.getfield 22, 3) := by decide +kernel
theorem dX6_note_9 : decode cX6_note 9 = .ok (.iload_n 2, 1) := by decide +kernel
theorem dX6_note_10 : decode cX6_note 10 = .ok (.dup2, 1) := by decide +kernel
theorem dX6_note_11 : decode cX6_note 11 = .ok (.iaload, 1) := by decide +kernel
theorem dX6_note_12 : decode cX6_note 12 = .ok (.iload 4, 2) := by decide +kernel
theorem dX6_note_14 : decode cX6_note 14 = .ok (.iconst (-1), 1) := by decide +kernel
theorem dX6_note_15 : decode cX6_note 15 = .ok (.ixor, 1) := by decide +kernel
theorem dX6_note_16 : decode cX6_note 16 = .ok (.iand, 1) := by decide +kernel
theorem dX6_note_17 : decode cX6_note 17 = .ok (.iastore, 1) := by decide +kernel
theorem dX6_note_18 : decode cX6_note 18 = .ok (.aload_n 0, 1) := by decide +kernel
theorem dX6_note_19 : decode cX6_note 19 = .ok (.getfield 25, 3) := by decide +kernel
theorem dX6_note_22 : decode cX6_note 22 = .ok (.iload_n 2, 1) := by decide +kernel
theorem dX6_note_23 : decode cX6_note 23 = .ok (.dup2, 1) := by decide +kernel
theorem dX6_note_24 : decode cX6_note 24 = .ok (.iaload, 1) := by decide +kernel
theorem dX6_note_25 : decode cX6_note 25 = .ok (.iload 4, 2) := by decide +kernel
theorem dX6_note_27 : decode cX6_note 27 = .ok (.iconst (-1), 1) := by decide +kernel
theorem dX6_note_28 : decode cX6_note 28 = .ok (.ixor, 1) := by decide +kernel
theorem dX6_note_29 : decode cX6_note 29 = .ok (.iand, 1) := by decide +kernel
theorem dX6_note_30 : decode cX6_note 30 = .ok (.iastore, 1) := by decide +kernel
theorem dX6_note_31 : decode cX6_note 31 = .ok (.iload_n 3, 1) := by decide +kernel
theorem dX6_note_32 : decode cX6_note 32 = .ok (.ifCond .ne 17, 3) := by decide +kernel
theorem dX6_note_35 : decode cX6_note 35 = .ok (.aload_n 0, 1) := by decide +kernel
theorem dX6_note_36 : decode cX6_note 36 = .ok (.getfield 22, 3) := by decide +kernel
theorem dX6_note_39 : decode cX6_note 39 = .ok (.iload_n 2, 1) := by decide +kernel
theorem dX6_note_40 : decode cX6_note 40 = .ok (.dup2, 1) := by decide +kernel
theorem dX6_note_41 : decode cX6_note 41 = .ok (.iaload, 1) := by decide +kernel
theorem dX6_note_42 : decode cX6_note 42 = .ok (.iload 4, 2) := by decide +kernel
theorem dX6_note_44 : decode cX6_note 44 = .ok (.ior, 1) := by decide +kernel
theorem dX6_note_45 : decode cX6_note 45 = .ok (.iastore, 1) := by decide +kernel
theorem dX6_note_46 : decode cX6_note 46 = .ok (.goto 19, 3) := by decide +kernel
theorem dX6_note_49 : decode cX6_note 49 = .ok (.iload_n 3, 1) := by decide +kernel
theorem dX6_note_50 : decode cX6_note 50 = .ok (.iconst 1, 1) := by decide +kernel
theorem dX6_note_51 : decode cX6_note 51 = .ok (.if_icmp .ne 14, 3) := by decide +kernel
theorem dX6_note_54 : decode cX6_note 54 = .ok (.aload_n 0, 1) := by decide +kernel
theorem dX6_note_55 : decode cX6_note 55 = .ok (.getfield 25, 3) := by decide +kernel
theorem dX6_note_58 : decode cX6_note 58 = .ok (.iload_n 2, 1) := by decide +kernel
theorem dX6_note_59 : decode cX6_note 59 = .ok (.dup2, 1) := by decide +kernel
theorem dX6_note_60 : decode cX6_note 60 = .ok (.iaload, 1) := by decide +kernel
theorem dX6_note_61 : decode cX6_note 61 = .ok (.iload 4, 2) := by decide +kernel
theorem dX6_note_63 : decode cX6_note 63 = .ok (.ior, 1) := by decide +kernel
theorem dX6_note_64 : decode cX6_note 64 = .ok (.iastore, 1) := by decide +kernel
theorem dX6_note_65 : decode cX6_note 65 = .ok (.return_, 1) := by decide +kernel
set_option maxRecDepth 20000 in
theorem ggX6_noted_X0_hasBit : GoodIn wsX6_noted wsX0_hasBit := goodIn_r _ [6] (by decide +kernel) (by decide +kernel)
set_option maxRecDepth 20000 in
theorem gX6_noted_X0_hasBit : GoodIn wsX6_noted (va_wsS RX6 41 yX0_hasBit wsX0_hasBit) := goodIn_app (goodIn_of _ (by decide +kernel)) ggX6_noted_X0_hasBit
theorem dX6_noted_0 : decode cX6_noted 0 = .ok (.aload_n 0, 1) := by decide +kernel
theorem dX6_noted_1 : decode cX6_noted 1 = .ok (.getfield 22, 3) := by decide +kernel
theorem dX6_noted_4 : decode cX6_noted 4 = .ok (.iload_n 2, 1) := by decide +kernel
theorem dX6_noted_5 : decode cX6_noted 5 = .ok (.iaload, 1) := by decide +kernel
theorem dX6_noted_6 : decode cX6_noted 6 = .ok (.iload_n 1, 1) := by decide +kernel
theorem dX6_noted_7 : decode cX6_noted 7 = .ok (.invokestatic 41, 3) := by decide +kernel
theorem dX6_noted_10 : decode cX6_noted 10 = .ok (.ifCond .eq 5, 3) := by decide +kernel
theorem dX6_noted_13 : decode cX6_noted 13 = .ok (.iconst 0, 1) := by decide +kernel
theorem dX6_noted_14 : decode cX6_noted 14 = .ok (.ireturn, 1) := by decide +kernel
theorem dX6_noted_15 : decode cX6_noted 15 = .ok (.aload_n 0, 1) := by decide +kernel
theorem dX6_noted_16 : decode cX6_noted 16 = .ok (.getfield 25, 3) := by decide +kernel
theorem dX6_noted_19 : decode cX6_noted 19 = .ok (.iload_n 2, 1) := by decide +kernel
theorem dX6_noted_20 : decode cX6_noted 20 = .ok (.iaload, 1) := by decide +kernel
theorem dX6_noted_21 : decode cX6_noted 21 = .ok (.iload_n 1, 1) := by decide +kernel
theorem dX6_noted_22 : decode cX6_noted 22 = .ok (.invokestatic 41, 3) := by decide +kernel
theorem dX6_noted_25 : decode cX6_noted 25 = .ok (.ifCond .eq 7, 3) := by decide +kernel
theorem dX6_noted_28 : decode cX6_noted 28 = .ok (.iconst 1, 1) := by decide +kernel
theorem dX6_noted_29 : decode cX6_noted 29 = .ok (.goto 4, 3) := by decide +kernel
theorem dX6_noted_32 : decode cX6_noted 32 = .ok (.iconst 2, 1) := by decide +kernel
theorem dX6_noted_33 : decode cX6_noted 33 = .ok (.ireturn, 1) := by decide +kernel
set_option maxRecDepth 20000 in
theorem ggX6_countSeen_J6_bitCount_0f7a4 : GoodIn wsX6_countSeen wsJ6_bitCount_0f7a4 := goodIn_r _ [6, 7, 8, 9] (by decide +kernel) (by decide +kernel)
set_option maxRecDepth 20000 in
theorem gX6_countSeen_J6_bitCount_0f7a4 : GoodIn wsX6_countSeen (va_wsS RX6 47 yJ6_bitCount_0f7a4 wsJ6_bitCount_0f7a4) := goodIn_app (goodIn_of _ (by decide +kernel)) ggX6_countSeen_J6_bitCount_0f7a4
theorem dX6_countSeen_0 : decode cX6_countSeen 0 = .ok (.iconst 0, 1) := by decide +kernel
theorem dX6_countSeen_1 : decode cX6_countSeen 1 = .ok (.istore_n 1, 1) := by decide +kernel
theorem dX6_countSeen_2 : decode cX6_countSeen 2 = .ok (.iconst 0, 1) := by decide +kernel
theorem dX6_countSeen_3 : decode cX6_countSeen 3 = .ok (.istore_n 2, 1) := by decide +kernel
theorem dX6_countSeen_4 : decode cX6_countSeen 4 = .ok (.iload_n 2, 1) := by decide +kernel
theorem dX6_countSeen_5 : decode cX6_countSeen 5 = .ok (.bipush 6, 2) := by decide +kernel
theorem dX6_countSeen_7 : decode cX6_countSeen 7 = .ok (.if_icmp .ge 31, 3) := by decide +kernel
theorem dX6_countSeen_10 : decode cX6_countSeen 10 = .ok (.iload_n 1, 1) := by decide +kernel
theorem dX6_countSeen_11 : decode cX6_countSeen 11 = .ok (.aload_n 0, 1) := by decide +kernel
theorem dX6_countSeen_12 : decode cX6_countSeen 12 = .ok (.getfield 22, 3) := by decide +kernel
theorem dX6_countSeen_15 : decode cX6_countSeen 15 = .ok (.iload_n 2, 1) := by decide +kernel
theorem dX6_countSeen_16 : decode cX6_countSeen 16 = .ok (.iaload, 1) := by decide +kernel
theorem dX6_countSeen_17 : decode cX6_countSeen 17 = .ok (.invokestatic 47, 3) := by decide +kernel
theorem dX6_countSeen_20 : decode cX6_countSeen 20 = .ok (.aload_n 0, 1) := by decide +kernel
theorem dX6_countSeen_21 : decode cX6_countSeen 21 = .ok (.getfield 25, 3) := by decide +kernel
theorem dX6_countSeen_24 : decode cX6_countSeen 24 = .ok (.iload_n 2, 1) := by decide +kernel
theorem dX6_countSeen_25 : decode cX6_countSeen 25 = .ok (.iaload, 1) := by decide +kernel
theorem dX6_countSeen_26 : decode cX6_countSeen 26 = .ok (.invokestatic 47, 3) := by decide +kernel
theorem dX6_countSeen_29 : decode cX6_countSeen 29 = .ok (.iadd, 1) := by decide +kernel
theorem dX6_countSeen_30 : decode cX6_countSeen 30 = .ok (.iadd, 1) := by decide +kernel
theorem dX6_countSeen_31 : decode cX6_countSeen 31 = .ok (.istore_n 1, 1) := by decide +kernel
theorem dX6_countSeen_32 : decode cX6_countSeen 32 = .ok (.iinc 2 1, 3) := by decide +kernel
theorem dX6_countSeen_35 : decode cX6_countSeen 35 = .ok (.goto (-31), 3) := by decide +kernel
theorem dX6_countSeen_38 : decode cX6_countSeen 38 = .ok (.iload_n 1, 1) := by decide +kernel
theorem dX6_countSeen_39 : decode cX6_countSeen 39 = .ok (.ireturn, 1) := by decide +kernel
set_option maxRecDepth 20000 in
theorem ggX7_init_X5_init : GoodIn wsX7_init wsX5_init := goodIn_r _ [31, 32, 2, 3, 33, 9, 10, 34, 35, 36, 23, 37, 38, 39, 40, 41, 42, 43, 44, 45, 46, 47, 48, 49, 50, 51, 52, 53, 54, 55, 56, 57, 58, 59, 60, 61, 62, 63, 64, 65, 66, 67, 68, 69, 70, 71, 72, 73, 74, 75, 76, 77, 78, 79, 80, 81, 82, 83, 84, 132, 133, 110, 111, 112, 113, 114, 115, 116, 117, 118, 119, 142, 143, 144, 145, 146, 147, 148, 149, 150, 151, 152, 153, 154, 155, 156, 157, 158, 159, 160] (by decide +kernel) (by decide +kernel)
set_option maxRecDepth 20000 in
theorem gX7_init_X5_init_n11 : GoodIn wsX7_init (wsX5_init) := ggX7_init_X5_init
set_option maxRecDepth 20000 in
theorem ggX7_init_X4_init : GoodIn wsX7_init wsX4_init := goodIn_r _ [45, 46, 2, 3, 47, 48, 49, 50, 51, 52, 53, 54, 55, 56, 57, 58, 23, 59, 60, 61, 62, 63, 64, 65, 66, 67, 68, 69, 70, 71, 72, 73, 74, 75, 76, 77, 78, 79, 80, 81, 82, 83, 84, 142, 143, 144, 145, 146, 147, 148, 149, 150, 151, 152, 153, 154, 155, 132, 133, 156, 157, 158, 159, 160] (by decide +kernel) (by decide +kernel)
set_option maxRecDepth 20000 in
theorem gX7_init_X4_init_n18 : GoodIn wsX7_init (wsX4_init) := ggX7_init_X4_init
set_option maxRecDepth 20000 in
theorem ggX7_init_X1_init : GoodIn wsX7_init wsX1_init := goodIn_r _ [87, 88, 2, 3, 89, 90, 91, 92, 9, 10, 44, 45, 46, 47, 48, 49, 50, 51, 52, 53, 54, 55, 56, 57, 58, 23, 59, 60, 61, 62, 63, 64, 65, 66, 67, 68, 69, 70, 71, 72, 73, 74, 75, 76, 77, 78, 79, 80, 81, 82, 83, 84, 134, 135, 136, 132, 133, 142, 143, 144, 145, 146, 147, 148, 149, 150, 151, 152, 153, 154, 155, 156, 157, 158, 159, 160] (by decide +kernel) (by decide +kernel)
set_option maxRecDepth 20000 in
theorem gX7_init_X1_init : GoodIn wsX7_init (wsX1_init) := ggX7_init_X1_init
set_option maxRecDepth 20000 in
theorem ggX7_init_X3_init : GoodIn wsX7_init wsX3_init := goodIn_r _ [95, 96, 2, 3, 97, 98, 99, 100, 101, 102, 26, 103, 104, 105, 106, 107, 108, 109, 161, 162, 137, 138, 139, 140, 141] (by decide +kernel) (by decide +kernel)
set_option maxRecDepth 20000 in
theorem gX7_init_X3_init : GoodIn wsX7_init (wsX3_init) := ggX7_init_X3_init
theorem dX7_init_0 : decode cX7_init 0 = .ok (.aload_n 0, 1) := by decide +kernel
theorem dX7_init_1 : decode cX7_init 1 = .ok (.invokespecial 3, 3) := by decide +kernel
theorem dX7_init_4 : decode cX7_init 4 = .ok (.aload_n 0, 1) := by decide +kernel
theorem dX7_init_5 : decode cX7_init 5 = .ok (.new 9, 3) := by decide +kernel
theorem dX7_init_8 : decode cX7_init 8 = .ok (.dup, 1) := by decide +kernel
theorem dX7_init_9 : decode cX7_init 9 = .ok (.invokespecial 11, 3) := by decide +kernel
theorem dX7_init_12 : decode cX7_init 12 = .ok (.putfield 12, 3) := by decide +kernel
theorem dX7_init_15 : decode cX7_init 15 = .ok (.aload_n 0, 1) := by decide +kernel
theorem dX7_init_16 : decode cX7_init 16 = .ok (.new 16, 3) := by decide +kernel
theorem dX7_init_19 : decode cX7_init 19 = .ok (.dup, 1) := by decide +kernel
theorem dX7_init_20 : decode cX7_init 20 = .ok (.invokespecial 18, 3) := by decide +kernel
theorem dX7_init_23 : decode cX7_init 23 = .ok (.putfield 19, 3) := by decide +kernel
theorem dX7_init_26 : decode cX7_init 26 = .ok (.aload_n 0, 1) := by decide +kernel
theorem dX7_init_27 : decode cX7_init 27 = .ok (.new 23, 3) := by decide +kernel
theorem dX7_init_30 : decode cX7_init 30 = .ok (.dup, 1) := by decide +kernel
theorem dX7_init_31 : decode cX7_init 31 = .ok (.invokespecial 25, 3) := by decide +kernel
theorem dX7_init_34 : decode cX7_init 34 = .ok (.putfield 26, 3) := by decide +kernel
theorem dX7_init_37 : decode cX7_init 37 = .ok (.aload_n 0, 1) := by decide +kernel
theorem dX7_init_38 : decode cX7_init 38 = .ok (.new 30, 3) := by decide +kernel
theorem dX7_init_41 : decode cX7_init 41 = .ok (.dup, 1) := by decide +kernel
theorem dX7_init_42 : decode cX7_init 42 = .ok (.iconst 4, 1) := by decide +kernel
theorem dX7_init_43 : decode cX7_init 43 = .ok (.invokespecial 32, 3) := by decide +kernel
theorem dX7_init_46 : decode cX7_init 46 = .ok (.putfield 35, 3) := by decide +kernel
theorem dX7_init_49 : decode cX7_init 49 = .ok (.aload_n 0, 1) := by decide +kernel
theorem dX7_init_50 : decode cX7_init 50 = .ok (.new 30, 3) := by decide +kernel
theorem dX7_init_53 : decode cX7_init 53 = .ok (.dup, 1) := by decide +kernel
theorem dX7_init_54 : decode cX7_init 54 = .ok (.iconst 1, 1) := by decide +kernel
theorem dX7_init_55 : decode cX7_init 55 = .ok (.invokespecial 32, 3) := by decide +kernel
theorem dX7_init_58 : decode cX7_init 58 = .ok (.putfield 39, 3) := by decide +kernel
theorem dX7_init_61 : decode cX7_init 61 = .ok (.aload_n 0, 1) := by decide +kernel
theorem dX7_init_62 : decode cX7_init 62 = .ok (.iconst 0, 1) := by decide +kernel
theorem dX7_init_63 : decode cX7_init 63 = .ok (.putfield 42, 3) := by decide +kernel
theorem dX7_init_66 : decode cX7_init 66 = .ok (.aload_n 0, 1) := by decide +kernel
theorem dX7_init_67 : decode cX7_init 67 = .ok (.iconst 0, 1) := by decide +kernel
theorem dX7_init_68 : decode cX7_init 68 = .ok (.putfield 46, 3) := by decide +kernel
theorem dX7_init_71 : decode cX7_init 71 = .ok (.aload_n 0, 1) := by decide +kernel
theorem dX7_init_72 : decode cX7_init 72 = .ok (.bipush 57, 2) := by decide +kernel
theorem dX7_init_74 : decode cX7_init 74 = .ok (.newarray .int, 2) := by decide +kernel
theorem dX7_init_76 : decode cX7_init 76 = .ok (.putfield 49, 3) := by decide +kernel
theorem dX7_init_79 : decode cX7_init 79 = .ok (.aload_n 0, 1) := by decide +kernel
theorem dX7_init_80 : decode cX7_init 80 = .ok (.sipush 729, 3) := by decide +kernel
theorem dX7_init_83 : decode cX7_init 83 = .ok (.newarray .int, 2) := by decide +kernel
theorem dX7_init_85 : decode cX7_init 85 = .ok (.putfield 53, 3) := by decide +kernel
theorem dX7_init_88 : decode cX7_init 88 = .ok (.aload_n 0, 1) := by decide +kernel
theorem dX7_init_89 : decode cX7_init 89 = .ok (.bipush 16, 2) := by decide +kernel
theorem dX7_init_91 : decode cX7_init 91 = .ok (.newarray .long, 2) := by decide +kernel
theorem dX7_init_93 : decode cX7_init 93 = .ok (.putfield 56, 3) := by decide +kernel
theorem dX7_init_96 : decode cX7_init 96 = .ok (.aload_n 0, 1) := by decide +kernel
theorem dX7_init_97 : decode cX7_init 97 = .ok (.bipush 16, 2) := by decide +kernel
theorem dX7_init_99 : decode cX7_init 99 = .ok (.newarray .long, 2) := by decide +kernel
theorem dX7_init_101 : decode cX7_init 101 = .ok (.putfield 60, 3) := by decide +kernel
theorem dX7_init_104 : decode cX7_init 104 = .ok (.aload_n 0, 1) := by decide +kernel
theorem dX7_init_105 : decode cX7_init 105 = .ok (.sipush 256, 3) := by decide +kernel
theorem dX7_init_108 : decode cX7_init 108 = .ok (.newarray .long, 2) := by decide +kernel
theorem dX7_init_110 : decode cX7_init 110 = .ok (.putfield 63, 3) := by decide +kernel
theorem dX7_init_113 : decode cX7_init 113 = .ok (.return_, 1) := by decide +kernel
set_option maxRecDepth 20000 in
theorem ggX7_append_X5_putBytes : GoodIn wsX7_append wsX5_putBytes := goodIn_r _ [7, 8, 9, 22, 23, 24, 25, 26, 27, 28, 29, 30, 31] (by decide +kernel) (by decide +kernel)
set_option maxRecDepth 20000 in
theorem gX7_append_X5_putBytes : GoodIn wsX7_append (wsV RX7 70 RX5 yX5_putBytes wsX5_putBytes) := goodIn_app (goodIn_of _ (by decide +kernel)) ggX7_append_X5_putBytes
theorem dX7_append_0 : decode cX7_append 0 = .ok (.aload_n 0, 1) := by decide +kernel
theorem dX7_append_1 : decode cX7_append 1 = .ok (.getfield 12, 3) := by decide +kernel
theorem dX7_append_4 : decode cX7_append 4 = .ok (.getfield 66, 3) := by decide +kernel
theorem dX7_append_7 : decode cX7_append 7 = .ok (.bipush 20, 2) := by decide +kernel
theorem dX7_append_9 : decode cX7_append 9 = .ok (.iadd, 1) := by decide +kernel
theorem dX7_append_10 : decode cX7_append 10 = .ok (.sipush 800, 3) := by decide +kernel
theorem dX7_append_13 : decode cX7_append 13 = .ok (.if_icmp .le 5, 3) := by decide +kernel
theorem dX7_append_16 : decode cX7_append 16 = .ok (.iconst (-1), 1) := by decide +kernel
theorem dX7_append_17 : decode cX7_append 17 = .ok (.ireturn, 1) := by decide +kernel
theorem dX7_append_18 : decode cX7_append 18 = .ok (.aload_n 0, 1) := by decide +kernel
theorem dX7_append_19 : decode cX7_append 19 = .ok (.getfield 12, 3) := by decide +kernel
theorem dX7_append_22 : decode cX7_append 22 = .ok (.iload_n 1, 1) := by decide +kernel
theorem dX7_append_23 : decode cX7_append 23 = .ok (.invokevirtual 70, 3) := by decide +kernel
theorem dX7_append_26 : decode cX7_append 26 = .ok (.aload_n 0, 1) := by decide +kernel
theorem dX7_append_27 : decode cX7_append 27 = .ok (.getfield 12, 3) := by decide +kernel
theorem dX7_append_30 : decode cX7_append 30 = .ok (.iload_n 2, 1) := by decide +kernel
theorem dX7_append_31 : decode cX7_append 31 = .ok (.invokevirtual 70, 3) := by decide +kernel
theorem dX7_append_34 : decode cX7_append 34 = .ok (.aload_n 0, 1) := by decide +kernel
theorem dX7_append_35 : decode cX7_append 35 = .ok (.getfield 12, 3) := by decide +kernel
theorem dX7_append_38 : decode cX7_append 38 = .ok (.iload_n 3, 1) := by decide +kernel
theorem dX7_append_39 : decode cX7_append 39 = .ok (.invokevirtual 70, 3) := by decide +kernel
theorem dX7_append_42 : decode cX7_append 42 = .ok (.aload_n 0, 1) := by decide +kernel
theorem dX7_append_43 : decode cX7_append 43 = .ok (.getfield 12, 3) := by decide +kernel
theorem dX7_append_46 : decode cX7_append 46 = .ok (.iload 4, 2) := by decide +kernel
theorem dX7_append_48 : decode cX7_append 48 = .ok (.invokevirtual 70, 3) := by decide +kernel
theorem dX7_append_51 : decode cX7_append 51 = .ok (.aload_n 0, 1) := by decide +kernel
theorem dX7_append_52 : decode cX7_append 52 = .ok (.getfield 12, 3) := by decide +kernel
theorem dX7_append_55 : decode cX7_append 55 = .ok (.iload 5, 2) := by decide +kernel
theorem dX7_append_57 : decode cX7_append 57 = .ok (.invokevirtual 70, 3) := by decide +kernel
theorem dX7_append_60 : decode cX7_append 60 = .ok (.aload_n 0, 1) := by decide +kernel
theorem dX7_append_61 : decode cX7_append 61 = .ok (.getfield 12, 3) := by decide +kernel
theorem dX7_append_64 : decode cX7_append 64 = .ok (.getfield 66, 3) := by decide +kernel
theorem dX7_append_67 : decode cX7_append 67 = .ok (.ireturn, 1) := by decide +kernel
set_option maxRecDepth 20000 in
theorem ggX7_load_X5_read : GoodIn wsX7_load wsX5_read := goodIn_r _ [14, 15, 16, 17, 18, 19, 20, 21, 22, 23, 24, 25, 26, 27, 28, 29, 30, 31, 32, 33, 34, 35, 36, 37, 38, 39, 40, 41, 42, 43, 44, 45, 46, 47, 48, 49, 50, 51, 52, 53, 54, 55, 56, 57, 58, 59, 60, 61, 13, 62, 63, 64, 65, 66, 67, 68, 69, 70, 71, 72, 73, 74, 75, 76, 77, 78, 79, 80, 81, 82, 83, 84, 85, 86, 87, 88, 89, 90, 91, 92, 93, 94, 95, 96, 97, 98, 99, 100, 101, 102, 103, 104, 105, 106, 107, 108, 109, 110, 111, 112, 113, 114, 115, 116, 117, 118, 119, 120, 121, 122, 123, 124, 125, 126, 127, 128, 129, 130, 131, 132, 133, 134, 135, 136, 137, 138, 139, 140, 141, 142, 143, 144, 145, 146, 147, 148, 149, 150, 151, 152, 153, 154, 155, 156, 157, 158, 159, 160, 161, 162, 163, 164, 165, 166, 167, 168, 169, 170, 171, 172, 173, 174, 175, 176, 177, 178, 179, 180, 181, 182, 183, 184, 185, 186, 187, 188, 189, 190, 191, 192, 193, 194, 195, 196, 197, 198, 199, 200, 201, 202, 203, 204, 205, 206, 207, 208, 209, 210, 211, 212, 213, 214, 215, 216, 217, 218, 219, 220, 221, 222, 223, 224, 225, 226, 227, 228, 229, 230, 277, 278, 279, 280, 281, 282, 283, 284, 285, 286, 287, 288, 289, 290, 291, 292, 293, 294, 295, 296, 297, 298, 299, 300, 301, 302, 303, 304, 305, 306, 307] (by decide +kernel) (by decide +kernel)
set_option maxRecDepth 20000 in
theorem gX7_load_X5_read : GoodIn wsX7_load (wsV RX7 80 RX5 yX5_read wsX5_read) := goodIn_app (goodIn_of _ (by decide +kernel)) ggX7_load_X5_read
set_option maxRecDepth 20000 in
theorem ggX7_load_X1_push : GoodIn wsX7_load wsX1_push := goodIn_r _ [235, 236, 237, 238, 239, 17, 18, 19, 240, 241, 242, 29, 243, 31, 32, 244, 245, 246, 36, 247, 38, 39, 40, 41, 42, 248, 249, 250, 251, 43, 164, 44, 45, 46, 180, 213, 214, 212, 252, 253, 254, 50, 255, 52, 229, 256, 230, 57, 58, 308, 309, 310, 287, 288, 289, 290, 291, 292, 293, 294, 295, 296, 297, 298, 299, 300, 301, 302, 303, 304, 305, 306, 307] (by decide +kernel) (by decide +kernel)
set_option maxRecDepth 20000 in
theorem gX7_load_X1_push : GoodIn wsX7_load (wsV RX7 84 RX1 yX1_push wsX1_push) := goodIn_app (goodIn_of _ (by decide +kernel)) ggX7_load_X1_push
set_option maxRecDepth 20000 in
theorem ggX7_load_X4_copyFrom : GoodIn wsX7_load wsX4_copyFrom := goodIn_r _ [243, 31, 32, 244, 245, 246, 36, 247, 38, 39, 40, 41, 42, 248, 249, 250, 251, 43, 164, 44, 45, 46, 180, 213, 214, 212, 252, 253, 254, 50, 255, 52, 229, 256, 230, 57, 58, 287, 288, 289, 290, 291, 292, 293, 294, 295, 296, 297, 298, 299, 300, 301, 302, 303, 304, 305, 306, 307] (by decide +kernel) (by decide +kernel)
set_option maxRecDepth 20000 in
theorem gX7_load_X4_copyFrom : GoodIn wsX7_load (wsV RX7 91 RX4 yX4_copyFrom wsX4_copyFrom) := goodIn_app (goodIn_of _ (by decide +kernel)) ggX7_load_X4_copyFrom
set_option maxRecDepth 20000 in
theorem ggX7_load_X7_forgetRows : GoodIn wsX7_load wsX7_forgetRows := goodIn_r _ [262, 263, 264, 265, 266, 267, 268, 269, 270, 271, 272, 273, 274, 275, 276] (by decide +kernel) (by decide +kernel)
set_option maxRecDepth 20000 in
theorem gX7_load_X7_forgetRows : GoodIn wsX7_load (wsV RX7 94 RX7 yX7_forgetRows wsX7_forgetRows) := goodIn_app (goodIn_of _ (by decide +kernel)) ggX7_load_X7_forgetRows
theorem dX7_load_0 : decode cX7_load 0 = .ok (.iload_n 1, 1) := by decide +kernel
theorem dX7_load_1 : decode cX7_load 1 = .ok (.ifCond .lt 14, 3) := by decide +kernel
theorem dX7_load_4 : decode cX7_load 4 = .ok (.iload_n 1, 1) := by decide +kernel
theorem dX7_load_5 : decode cX7_load 5 = .ok (.aload_n 0, 1) := by decide +kernel
theorem dX7_load_6 : decode cX7_load 6 = .ok (.getfield 12, 3) := by decide +kernel
theorem dX7_load_9 : decode cX7_load 9 = .ok (.getfield 66, 3) := by decide +kernel
theorem dX7_load_12 : decode cX7_load 12 = .ok (.if_icmp .le 13, 3) := by decide +kernel
theorem dX7_load_15 : decode cX7_load 15 = .ok (.new 73, 3) := by decide +kernel
theorem dX7_load_18 : decode cX7_load 18 = .ok (.dup, 1) := by decide +kernel
theorem dX7_load_19 : decode cX7_load 19 = .ok (.ldc 75, 2) := by decide +kernel
theorem dX7_load_21 : decode cX7_load 21 = .ok (.invokespecial 77, 3) := by decide +kernel
theorem dX7_load_24 : decode cX7_load 24 = .ok (.athrow, 1) := by decide +kernel
theorem dX7_load_25 : decode cX7_load 25 = .ok (.aload_n 0, 1) := by decide +kernel
theorem dX7_load_26 : decode cX7_load 26 = .ok (.getfield 12, 3) := by decide +kernel
theorem dX7_load_29 : decode cX7_load 29 = .ok (.iload_n 1, 1) := by decide +kernel
theorem dX7_load_30 : decode cX7_load 30 = .ok (.invokevirtual 80, 3) := by decide +kernel
theorem dX7_load_33 : decode cX7_load 33 = .ok (.istore_n 2, 1) := by decide +kernel
theorem dX7_load_34 : decode cX7_load 34 = .ok (.iload_n 2, 1) := by decide +kernel
theorem dX7_load_35 : decode cX7_load 35 = .ok (.ifCond .eq 5, 3) := by decide +kernel
theorem dX7_load_38 : decode cX7_load 38 = .ok (.iload_n 2, 1) := by decide +kernel
theorem dX7_load_39 : decode cX7_load 39 = .ok (.ireturn, 1) := by decide +kernel
theorem dX7_load_40 : decode cX7_load 40 = .ok (.aload_n 0, 1) := by decide +kernel
theorem dX7_load_41 : decode cX7_load 41 = .ok (.getfield 26, 3) := by decide +kernel
theorem dX7_load_44 : decode cX7_load 44 = .ok (.aload_n 0, 1) := by decide +kernel
theorem dX7_load_45 : decode cX7_load 45 = .ok (.getfield 19, 3) := by decide +kernel
theorem dX7_load_48 : decode cX7_load 48 = .ok (.invokevirtual 84, 3) := by decide +kernel
theorem dX7_load_51 : decode cX7_load 51 = .ok (.aload_n 0, 1) := by decide +kernel
theorem dX7_load_52 : decode cX7_load 52 = .ok (.getfield 19, 3) := by decide +kernel
theorem dX7_load_55 : decode cX7_load 55 = .ok (.aload_n 0, 1) := by decide +kernel
theorem dX7_load_56 : decode cX7_load 56 = .ok (.getfield 12, 3) := by decide +kernel
theorem dX7_load_59 : decode cX7_load 59 = .ok (.getfield 88, 3) := by decide +kernel
theorem dX7_load_62 : decode cX7_load 62 = .ok (.invokevirtual 91, 3) := by decide +kernel
theorem dX7_load_65 : decode cX7_load 65 = .ok (.aload_n 0, 1) := by decide +kernel
theorem dX7_load_66 : decode cX7_load 66 = .ok (.invokevirtual 94, 3) := by decide +kernel
theorem dX7_load_69 : decode cX7_load 69 = .ok (.aload_n 0, 1) := by decide +kernel
theorem dX7_load_70 : decode cX7_load 70 = .ok (.getfield 19, 3) := by decide +kernel
theorem dX7_load_73 : decode cX7_load 73 = .ok (.getfield 97, 3) := by decide +kernel
theorem dX7_load_76 : decode cX7_load 76 = .ok (.getfield 101, 3) := by decide +kernel
theorem dX7_load_79 : decode cX7_load 79 = .ok (.ireturn, 1) := by decide +kernel
theorem dX7_errorOffset_0 : decode cX7_errorOffset 0 = .ok (.aload_n 0, 1) := by decide +kernel
theorem dX7_errorOffset_1 : decode cX7_errorOffset 1 = .ok (.getfield 12, 3) := by decide +kernel
theorem dX7_errorOffset_4 : decode cX7_errorOffset 4 = .ok (.getfield 106, 3) := by decide +kernel
theorem dX7_errorOffset_7 : decode cX7_errorOffset 7 = .ok (.ireturn, 1) := by decide +kernel
set_option maxRecDepth 20000 in
theorem ggX7_state_X0_faultCount : GoodIn wsX7_state wsX0_faultCount := goodIn_r _ [15, 16, 17, 148, 149, 150, 151, 152, 153, 154, 155, 156, 157, 158, 159, 160, 161] (by decide +kernel) (by decide +kernel)
set_option maxRecDepth 20000 in
theorem gX7_state_X0_faultCount : GoodIn wsX7_state (wsV RX7 115 RX0 yX0_faultCount wsX0_faultCount) := goodIn_app (goodIn_of _ (by decide +kernel)) ggX7_state_X0_faultCount
set_option maxRecDepth 20000 in
theorem ggX7_state_X6_countSeen : GoodIn wsX7_state wsX6_countSeen := goodIn_r _ [22, 23, 24, 25, 26, 27, 28, 29, 30, 31, 162, 163, 164, 165, 166] (by decide +kernel) (by decide +kernel)
set_option maxRecDepth 20000 in
theorem gX7_state_X6_countSeen : GoodIn wsX7_state (wsV RX7 131 RX6 yX6_countSeen wsX6_countSeen) := goodIn_app (goodIn_of _ (by decide +kernel)) ggX7_state_X6_countSeen
set_option maxRecDepth 20000 in
theorem ggX7_state_X7_listFoundByTests : GoodIn wsX7_state wsX7_listFoundByTests := goodIn_r _ [36, 37, 3, 9, 10, 38, 39, 40, 41, 35, 42, 43, 44, 4, 5, 45, 46, 47, 48, 49, 50, 51, 52, 53, 54, 55, 56, 14, 57, 58, 59, 60, 61, 62, 63, 64, 65, 12, 13, 15, 16, 17, 66, 67, 68, 69, 70, 71, 72, 73, 74, 75, 76, 77, 78, 79, 80, 81, 82, 83, 84, 85, 86, 87, 88, 89, 90, 91, 92, 93, 94, 95, 96, 97, 98, 99, 100, 101, 102, 103, 104, 105, 106, 107, 108, 109, 110, 111, 112, 113, 114, 11, 115, 116, 117, 118, 134, 135, 136, 137, 138, 139, 140, 141, 142, 143, 144, 145, 146, 147, 162, 163, 164, 165, 166, 167, 168, 169, 170, 171, 148, 149, 150, 151, 152, 153, 154, 155, 156, 157, 158, 159, 160, 161, 172, 173] (by decide +kernel) (by decide +kernel)
set_option maxRecDepth 20000 in
theorem gX7_state_X7_listFoundByTests : GoodIn wsX7_state (wsV RX7 134 RX7 yX7_listFoundByTests wsX7_listFoundByTests) := goodIn_app (goodIn_of _ (by decide +kernel)) ggX7_state_X7_listFoundByTests
set_option maxRecDepth 20000 in
theorem ggX7_state_J13_bitCount_95d88 : GoodIn wsX7_state wsJ13_bitCount_95d88 := goodIn_r _ [122, 123, 124, 125] (by decide +kernel) (by decide +kernel)
set_option maxRecDepth 20000 in
theorem gX7_state_J13_bitCount_95d88 : GoodIn wsX7_state (va_wsS RX7 138 yJ13_bitCount_95d88 wsJ13_bitCount_95d88) := goodIn_app (goodIn_of _ (by decide +kernel)) ggX7_state_J13_bitCount_95d88
set_option maxRecDepth 20000 in
theorem ggX7_state_X0_greatestLevel : GoodIn wsX7_state wsX0_greatestLevel := goodIn_r _ [129, 16, 130, 131, 132, 113, 133, 148, 149, 150, 151, 152, 153, 154, 155, 156, 157, 158, 159, 160, 161] (by decide +kernel) (by decide +kernel)
set_option maxRecDepth 20000 in
theorem gX7_state_X0_greatestLevel : GoodIn wsX7_state (wsV RX7 144 RX0 yX0_greatestLevel wsX0_greatestLevel) := goodIn_app (goodIn_of _ (by decide +kernel)) ggX7_state_X0_greatestLevel
theorem dX7_state_0 : decode cX7_state 0 = .ok (.iload_n 1, 1) := by decide +kernel
theorem dX7_state_1 : decode cX7_state 1 = .ok (.tableswitch 147 0 8 #[51, 62, 73, 84, 95, 106, 117, 128, 136], 51) := by decide +kernel
theorem dX7_state_52 : decode cX7_state 52 = .ok (.aload_n 0, 1) := by decide +kernel
theorem dX7_state_53 : decode cX7_state 53 = .ok (.getfield 19, 3) := by decide +kernel
theorem dX7_state_56 : decode cX7_state 56 = .ok (.getfield 97, 3) := by decide +kernel
theorem dX7_state_59 : decode cX7_state 59 = .ok (.getfield 109, 3) := by decide +kernel
theorem dX7_state_62 : decode cX7_state 62 = .ok (.ireturn, 1) := by decide +kernel
theorem dX7_state_63 : decode cX7_state 63 = .ok (.aload_n 0, 1) := by decide +kernel
theorem dX7_state_64 : decode cX7_state 64 = .ok (.getfield 19, 3) := by decide +kernel
theorem dX7_state_67 : decode cX7_state 67 = .ok (.getfield 97, 3) := by decide +kernel
theorem dX7_state_70 : decode cX7_state 70 = .ok (.getfield 101, 3) := by decide +kernel
theorem dX7_state_73 : decode cX7_state 73 = .ok (.ireturn, 1) := by decide +kernel
theorem dX7_state_74 : decode cX7_state 74 = .ok (.aload_n 0, 1) := by decide +kernel
theorem dX7_state_75 : decode cX7_state 75 = .ok (.getfield 19, 3) := by decide +kernel
theorem dX7_state_78 : decode cX7_state 78 = .ok (.getfield 97, 3) := by decide +kernel
theorem dX7_state_81 : decode cX7_state 81 = .ok (.getfield 112, 3) := by decide +kernel
theorem dX7_state_84 : decode cX7_state 84 = .ok (.ireturn, 1) := by decide +kernel
theorem dX7_state_85 : decode cX7_state 85 = .ok (.aload_n 0, 1) := by decide +kernel
theorem dX7_state_86 : decode cX7_state 86 = .ok (.getfield 19, 3) := by decide +kernel
theorem dX7_state_89 : decode cX7_state 89 = .ok (.getfield 97, 3) := by decide +kernel
theorem dX7_state_92 : decode cX7_state 92 = .ok (.invokevirtual 115, 3) := by decide +kernel
theorem dX7_state_95 : decode cX7_state 95 = .ok (.ireturn, 1) := by decide +kernel
theorem dX7_state_96 : decode cX7_state 96 = .ok (.aload_n 0, 1) := by decide +kernel
theorem dX7_state_97 : decode cX7_state 97 = .ok (.getfield 19, 3) := by decide +kernel
theorem dX7_state_100 : decode cX7_state 100 = .ok (.getfield 97, 3) := by decide +kernel
theorem dX7_state_103 : decode cX7_state 103 = .ok (.getfield 119, 3) := by decide +kernel
theorem dX7_state_106 : decode cX7_state 106 = .ok (.ireturn, 1) := by decide +kernel
theorem dX7_state_107 : decode cX7_state 107 = .ok (.aload_n 0, 1) := by decide +kernel
theorem dX7_state_108 : decode cX7_state 108 = .ok (.getfield 19, 3) := by decide +kernel
theorem dX7_state_111 : decode cX7_state 111 = .ok (.getfield 122, 3) := by decide +kernel
theorem dX7_state_114 : decode cX7_state 114 = .ok (.getfield 126, 3) := by decide +kernel
theorem dX7_state_117 : decode cX7_state 117 = .ok (.ireturn, 1) := by decide +kernel
theorem dX7_state_118 : decode cX7_state 118 = .ok (.aload_n 0, 1) := by decide +kernel
theorem dX7_state_119 : decode cX7_state 119 = .ok (.getfield 19, 3) := by decide +kernel
theorem dX7_state_122 : decode cX7_state 122 = .ok (.getfield 122, 3) := by decide +kernel
theorem dX7_state_125 : decode cX7_state 125 = .ok (.invokevirtual 131, 3) := by decide +kernel
theorem dX7_state_128 : decode cX7_state 128 = .ok (.ireturn, 1) := by decide +kernel
theorem dX7_state_129 : decode cX7_state 129 = .ok (.aload_n 0, 1) := by decide +kernel
theorem dX7_state_130 : decode cX7_state 130 = .ok (.invokevirtual 134, 3) := by decide +kernel
theorem dX7_state_133 : decode cX7_state 133 = .ok (.invokestatic 138, 3) := by decide +kernel
theorem dX7_state_136 : decode cX7_state 136 = .ok (.ireturn, 1) := by decide +kernel
theorem dX7_state_137 : decode cX7_state 137 = .ok (.aload_n 0, 1) := by decide +kernel
theorem dX7_state_138 : decode cX7_state 138 = .ok (.getfield 19, 3) := by decide +kernel
theorem dX7_state_141 : decode cX7_state 141 = .ok (.getfield 97, 3) := by decide +kernel
theorem dX7_state_144 : decode cX7_state 144 = .ok (.invokevirtual 144, 3) := by decide +kernel
theorem dX7_state_147 : decode cX7_state 147 = .ok (.ireturn, 1) := by decide +kernel
theorem dX7_state_148 : decode cX7_state 148 = .ok (.new 73, 3) := by decide +kernel
theorem dX7_state_151 : decode cX7_state 151 = .ok (.dup, 1) := by decide +kernel
theorem dX7_state_152 : decode cX7_state 152 = .ok (.ldc 147, 2) := by decide +kernel
theorem dX7_state_154 : decode cX7_state 154 = .ok (.invokespecial 77, 3) := by decide +kernel
theorem dX7_state_157 : decode cX7_state 157 = .ok (.athrow, 1) := by decide +kernel
set_option maxRecDepth 20000 in
theorem ggX7_wire_X7_checkWire : GoodIn wsX7_wire wsX7_checkWire := goodIn_ca (goodIn_r _ [13, 14, 15, 3, 4, 16, 24, 25, 26, 27, 28, 29, 30, 31, 32, 33, 34, 35, 36, 37, 38, 39, 40, 41, 42, 43, 44, 45, 46, 47, 48, 49, 50, 51] (by decide +kernel) (by decide +kernel)) (goodIn_sub (fun _ h => List.mem_cons_of_mem _ (List.mem_append_right _ h)) (by decide +kernel))
set_option maxRecDepth 20000 in
theorem gX7_wire_X7_checkWire : GoodIn wsX7_wire (wsV RX7 149 RX7 yX7_checkWire wsX7_checkWire) := goodIn_app (goodIn_of _ (by decide +kernel)) ggX7_wire_X7_checkWire
set_option maxRecDepth 20000 in
theorem ggX7_wire_X0_outputOf : GoodIn wsX7_wire wsX0_outputOf := goodIn_r _ [21, 22, 23, 38, 39, 40, 41, 42, 43, 44, 45, 46, 47, 48, 49, 50, 51] (by decide +kernel) (by decide +kernel)
set_option maxRecDepth 20000 in
theorem gX7_wire_X0_outputOf : GoodIn wsX7_wire (wsV RX7 164 RX0 yX0_outputOf wsX0_outputOf) := goodIn_app (goodIn_of _ (by decide +kernel)) ggX7_wire_X0_outputOf
