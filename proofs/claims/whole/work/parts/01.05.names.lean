theorem dX8_here_4 : decode cX8_here 4 = .ok (.aload_n 0, 1) := by decide +kernel
theorem dX8_here_5 : decode cX8_here 5 = .ok (.getfield 155, 3) := by decide +kernel
theorem dX8_here_8 : decode cX8_here 8 = .ok (.if_icmp .ge 30, 3) := by decide +kernel
theorem dX8_here_11 : decode cX8_here 11 = .ok (.aload_n 0, 1) := by decide +kernel
theorem dX8_here_12 : decode cX8_here 12 = .ok (.getfield 34, 3) := by decide +kernel
theorem dX8_here_15 : decode cX8_here 15 = .ok (.aload_n 0, 1) := by decide +kernel
theorem dX8_here_16 : decode cX8_here 16 = .ok (.getfield 152, 3) := by decide +kernel
theorem dX8_here_19 : decode cX8_here 19 = .ok (.iaload, 1) := by decide +kernel
theorem dX8_here_20 : decode cX8_here 20 = .ok (.bipush 32, 2) := by decide +kernel
theorem dX8_here_22 : decode cX8_here 22 = .ok (.if_icmp .ne 16, 3) := by decide +kernel
theorem dX8_here_25 : decode cX8_here 25 = .ok (.aload_n 0, 1) := by decide +kernel
theorem dX8_here_26 : decode cX8_here 26 = .ok (.dup, 1) := by decide +kernel
theorem dX8_here_27 : decode cX8_here 27 = .ok (.getfield 152, 3) := by decide +kernel
theorem dX8_here_30 : decode cX8_here 30 = .ok (.iconst 1, 1) := by decide +kernel
theorem dX8_here_31 : decode cX8_here 31 = .ok (.iadd, 1) := by decide +kernel
theorem dX8_here_32 : decode cX8_here 32 = .ok (.putfield 152, 3) := by decide +kernel
theorem dX8_here_35 : decode cX8_here 35 = .ok (.goto (-35), 3) := by decide +kernel
theorem dX8_here_38 : decode cX8_here 38 = .ok (.aload_n 0, 1) := by decide +kernel
theorem dX8_here_39 : decode cX8_here 39 = .ok (.getfield 152, 3) := by decide +kernel
theorem dX8_here_42 : decode cX8_here 42 = .ok (.aload_n 0, 1) := by decide +kernel
theorem dX8_here_43 : decode cX8_here 43 = .ok (.getfield 155, 3) := by decide +kernel
theorem dX8_here_46 : decode cX8_here 46 = .ok (.if_icmp .ge 15, 3) := by decide +kernel
theorem dX8_here_49 : decode cX8_here 49 = .ok (.aload_n 0, 1) := by decide +kernel
theorem dX8_here_50 : decode cX8_here 50 = .ok (.getfield 34, 3) := by decide +kernel
theorem dX8_here_53 : decode cX8_here 53 = .ok (.aload_n 0, 1) := by decide +kernel
theorem dX8_here_54 : decode cX8_here 54 = .ok (.getfield 152, 3) := by decide +kernel
theorem dX8_here_57 : decode cX8_here 57 = .ok (.iaload, 1) := by decide +kernel
theorem dX8_here_58 : decode cX8_here 58 = .ok (.goto 4, 3) := by decide +kernel
theorem dX8_here_61 : decode cX8_here 61 = .ok (.iconst (-1), 1) := by decide +kernel
theorem dX8_here_62 : decode cX8_here 62 = .ok (.ireturn, 1) := by decide +kernel
theorem dX8_isLetter_0 : decode cX8_isLetter 0 = .ok (.iload_n 0, 1) := by decide +kernel
theorem dX8_isLetter_1 : decode cX8_isLetter 1 = .ok (.bipush 97, 2) := by decide +kernel
theorem dX8_isLetter_3 : decode cX8_isLetter 3 = .ok (.if_icmp .lt 13, 3) := by decide +kernel
theorem dX8_isLetter_6 : decode cX8_isLetter 6 = .ok (.iload_n 0, 1) := by decide +kernel
theorem dX8_isLetter_7 : decode cX8_isLetter 7 = .ok (.bipush 122, 2) := by decide +kernel
theorem dX8_isLetter_9 : decode cX8_isLetter 9 = .ok (.if_icmp .gt 7, 3) := by decide +kernel
theorem dX8_isLetter_12 : decode cX8_isLetter 12 = .ok (.iconst 1, 1) := by decide +kernel
theorem dX8_isLetter_13 : decode cX8_isLetter 13 = .ok (.goto 4, 3) := by decide +kernel
theorem dX8_isLetter_16 : decode cX8_isLetter 16 = .ok (.iconst 0, 1) := by decide +kernel
theorem dX8_isLetter_17 : decode cX8_isLetter 17 = .ok (.ireturn, 1) := by decide +kernel
theorem dX8_isDigit_0 : decode cX8_isDigit 0 = .ok (.iload_n 0, 1) := by decide +kernel
theorem dX8_isDigit_1 : decode cX8_isDigit 1 = .ok (.bipush 48, 2) := by decide +kernel
theorem dX8_isDigit_3 : decode cX8_isDigit 3 = .ok (.if_icmp .lt 13, 3) := by decide +kernel
theorem dX8_isDigit_6 : decode cX8_isDigit 6 = .ok (.iload_n 0, 1) := by decide +kernel
theorem dX8_isDigit_7 : decode cX8_isDigit 7 = .ok (.bipush 57, 2) := by decide +kernel
theorem dX8_isDigit_9 : decode cX8_isDigit 9 = .ok (.if_icmp .gt 7, 3) := by decide +kernel
theorem dX8_isDigit_12 : decode cX8_isDigit 12 = .ok (.iconst 1, 1) := by decide +kernel
theorem dX8_isDigit_13 : decode cX8_isDigit 13 = .ok (.goto 4, 3) := by decide +kernel
theorem dX8_isDigit_16 : decode cX8_isDigit 16 = .ok (.iconst 0, 1) := by decide +kernel
theorem dX8_isDigit_17 : decode cX8_isDigit 17 = .ok (.ireturn, 1) := by decide +kernel
set_option maxRecDepth 20000 in
theorem ggX8_takes_X8_here : GoodIn wsX8_takes wsX8_here := goodIn_r _ [8, 1, 2, 3, 61, 62, 63, 64, 65, 66, 67, 68, 69, 70, 71, 72, 73, 74, 75, 76, 77, 78, 79, 80, 81, 82, 83] (by decide +kernel) (by decide +kernel)
set_option maxRecDepth 20000 in
theorem gX8_takes_X8_here : GoodIn wsX8_takes (wsV RX8 158 RX8 yX8_here wsX8_here) := goodIn_app (goodIn_of _ (by decide +kernel)) ggX8_takes_X8_here
set_option maxRecDepth 20000 in
theorem ggX8_takes_X8_isLetter : GoodIn wsX8_takes wsX8_isLetter := goodIn_r _ [11] (by decide +kernel) (by decide +kernel)
set_option maxRecDepth 20000 in
theorem gX8_takes_X8_isLetter : GoodIn wsX8_takes (va_wsS RX8 161 yX8_isLetter wsX8_isLetter) := goodIn_app (goodIn_of _ (by decide +kernel)) ggX8_takes_X8_isLetter
set_option maxRecDepth 20000 in
theorem ggX8_takes_J0_length_8abf5 : GoodIn wsX8_takes wsJ0_length_8abf5 := goodIn_r _ [16, 17, 18, 19, 20, 15, 21, 22, 23] (by decide +kernel) (by decide +kernel)
set_option maxRecDepth 20000 in
theorem gX8_takes_J0_length_8abf5 : GoodIn wsX8_takes (wsV RX8 165 RJ0 yJ0_length_8abf5 wsJ0_length_8abf5) := goodIn_app (goodIn_of _ (by decide +kernel)) ggX8_takes_J0_length_8abf5
set_option maxRecDepth 20000 in
theorem ggX8_takes_J0_charAt_5068e : GoodIn wsX8_takes wsJ0_charAt_5068e := goodIn_r _ [27, 17, 28, 29, 30, 15, 31, 22, 23, 32, 33, 34, 35, 36, 37, 38, 39, 40, 41, 42, 43, 44, 45, 46, 47, 48, 49, 50, 51, 52, 53, 54, 55, 56, 57, 58, 59, 60] (by decide +kernel) (by decide +kernel)
set_option maxRecDepth 20000 in
theorem gX8_takes_J0_charAt_5068e : GoodIn wsX8_takes (wsV RX8 169 RJ0 yJ0_charAt_5068e wsJ0_charAt_5068e) := goodIn_app (goodIn_of _ (by decide +kernel)) ggX8_takes_J0_charAt_5068e
theorem dX8_takes_0 : decode cX8_takes 0 = .ok (.aload_n 0, 1) := by decide +kernel
theorem dX8_takes_1 : decode cX8_takes 1 = .ok (.invokevirtual 158, 3) := by decide +kernel
theorem dX8_takes_4 : decode cX8_takes 4 = .ok (.pop, 1) := by decide +kernel
theorem dX8_takes_5 : decode cX8_takes 5 = .ok (.iconst 0, 1) := by decide +kernel
theorem dX8_takes_6 : decode cX8_takes 6 = .ok (.istore_n 2, 1) := by decide +kernel
theorem dX8_takes_7 : decode cX8_takes 7 = .ok (.aload_n 0, 1) := by decide +kernel
theorem dX8_takes_8 : decode cX8_takes 8 = .ok (.getfield 152, 3) := by decide +kernel
theorem dX8_takes_11 : decode cX8_takes 11 = .ok (.iload_n 2, 1) := by decide +kernel
theorem dX8_takes_12 : decode cX8_takes 12 = .ok (.iadd, 1) := by decide +kernel
theorem dX8_takes_13 : decode cX8_takes 13 = .ok (.aload_n 0, 1) := by decide +kernel
theorem dX8_takes_14 : decode cX8_takes 14 = .ok (.getfield 155, 3) := by decide +kernel
theorem dX8_takes_17 : decode cX8_takes 17 = .ok (.if_icmp .ge 26, 3) := by decide +kernel
theorem dX8_takes_20 : decode cX8_takes 20 = .ok (.aload_n 0, 1) := by decide +kernel
theorem dX8_takes_21 : decode cX8_takes 21 = .ok (.getfield 34, 3) := by decide +kernel
theorem dX8_takes_24 : decode cX8_takes 24 = .ok (.aload_n 0, 1) := by decide +kernel
theorem dX8_takes_25 : decode cX8_takes 25 = .ok (.getfield 152, 3) := by decide +kernel
theorem dX8_takes_28 : decode cX8_takes 28 = .ok (.iload_n 2, 1) := by decide +kernel
theorem dX8_takes_29 : decode cX8_takes 29 = .ok (.iadd, 1) := by decide +kernel
theorem dX8_takes_30 : decode cX8_takes 30 = .ok (.iaload, 1) := by decide +kernel
theorem dX8_takes_31 : decode cX8_takes 31 = .ok (.invokestatic 161, 3) := by decide +kernel
theorem dX8_takes_34 : decode cX8_takes 34 = .ok (.ifCond .eq 9, 3) := by decide +kernel
theorem dX8_takes_37 : decode cX8_takes 37 = .ok (.iinc 2 1, 3) := by decide +kernel
theorem dX8_takes_40 : decode cX8_takes 40 = .ok (.goto (-33), 3) := by decide +kernel
theorem dX8_takes_43 : decode cX8_takes 43 = .ok (.iload_n 2, 1) := by decide +kernel
theorem dX8_takes_44 : decode cX8_takes 44 = .ok (.aload_n 1, 1) := by decide +kernel
theorem dX8_takes_45 : decode cX8_takes 45 = .ok (.invokevirtual 165, 3) := by decide +kernel
theorem dX8_takes_48 : decode cX8_takes 48 = .ok (.if_icmp .eq 5, 3) := by decide +kernel
theorem dX8_takes_51 : decode cX8_takes 51 = .ok (.iconst 0, 1) := by decide +kernel
theorem dX8_takes_52 : decode cX8_takes 52 = .ok (.ireturn, 1) := by decide +kernel
theorem dX8_takes_53 : decode cX8_takes 53 = .ok (.iconst 0, 1) := by decide +kernel
theorem dX8_takes_54 : decode cX8_takes 54 = .ok (.istore_n 3, 1) := by decide +kernel
theorem dX8_takes_55 : decode cX8_takes 55 = .ok (.iload_n 3, 1) := by decide +kernel
theorem dX8_takes_56 : decode cX8_takes 56 = .ok (.iload_n 2, 1) := by decide +kernel
theorem dX8_takes_57 : decode cX8_takes 57 = .ok (.if_icmp .ge 30, 3) := by decide +kernel
theorem dX8_takes_60 : decode cX8_takes 60 = .ok (.aload_n 0, 1) := by decide +kernel
theorem dX8_takes_61 : decode cX8_takes 61 = .ok (.getfield 34, 3) := by decide +kernel
theorem dX8_takes_64 : decode cX8_takes 64 = .ok (.aload_n 0, 1) := by decide +kernel
theorem dX8_takes_65 : decode cX8_takes 65 = .ok (.getfield 152, 3) := by decide +kernel
theorem dX8_takes_68 : decode cX8_takes 68 = .ok (.iload_n 3, 1) := by decide +kernel
theorem dX8_takes_69 : decode cX8_takes 69 = .ok (.iadd, 1) := by decide +kernel
theorem dX8_takes_70 : decode cX8_takes 70 = .ok (.iaload, 1) := by decide +kernel
theorem dX8_takes_71 : decode cX8_takes 71 = .ok (.aload_n 1, 1) := by decide +kernel
theorem dX8_takes_72 : decode cX8_takes 72 = .ok (.iload_n 3, 1) := by decide +kernel
theorem dX8_takes_73 : decode cX8_takes 73 = .ok (.invokevirtual 169, 3) := by decide +kernel
theorem dX8_takes_76 : decode cX8_takes 76 = .ok (.if_icmp .eq 5, 3) := by decide +kernel
theorem dX8_takes_79 : decode cX8_takes 79 = .ok (.iconst 0, 1) := by decide +kernel
theorem dX8_takes_80 : decode cX8_takes 80 = .ok (.ireturn, 1) := by decide +kernel
theorem dX8_takes_81 : decode cX8_takes 81 = .ok (.iinc 3 1, 3) := by decide +kernel
theorem dX8_takes_84 : decode cX8_takes 84 = .ok (.goto (-29), 3) := by decide +kernel
theorem dX8_takes_87 : decode cX8_takes 87 = .ok (.aload_n 0, 1) := by decide +kernel
theorem dX8_takes_88 : decode cX8_takes 88 = .ok (.dup, 1) := by decide +kernel
theorem dX8_takes_89 : decode cX8_takes 89 = .ok (.getfield 152, 3) := by decide +kernel
theorem dX8_takes_92 : decode cX8_takes 92 = .ok (.iload_n 2, 1) := by decide +kernel
theorem dX8_takes_93 : decode cX8_takes 93 = .ok (.iadd, 1) := by decide +kernel
theorem dX8_takes_94 : decode cX8_takes 94 = .ok (.putfield 152, 3) := by decide +kernel
theorem dX8_takes_97 : decode cX8_takes 97 = .ok (.iconst 1, 1) := by decide +kernel
theorem dX8_takes_98 : decode cX8_takes 98 = .ok (.ireturn, 1) := by decide +kernel
set_option maxRecDepth 20000 in
theorem ggX8_sign_X8_here : GoodIn wsX8_sign wsX8_here := goodIn_r _ [6, 1, 7, 8, 15, 16, 17, 18, 19, 20, 21, 22, 23, 24, 25, 26, 27, 28, 29, 30, 31, 32, 33, 34, 35, 36, 37] (by decide +kernel) (by decide +kernel)
set_option maxRecDepth 20000 in
theorem gX8_sign_X8_here : GoodIn wsX8_sign (wsV RX8 158 RX8 yX8_here wsX8_here) := goodIn_app (goodIn_of _ (by decide +kernel)) ggX8_sign_X8_here
set_option maxRecDepth 20000 in
theorem ggX8_sign_X8_fails : GoodIn wsX8_sign wsX8_fails := goodIn_r _ [12, 13, 14, 15, 16, 17, 18, 19, 20, 21, 22, 23, 24, 25, 26, 27, 28, 29, 30, 31, 32, 33, 34, 35, 36, 37] (by decide +kernel) (by decide +kernel)
set_option maxRecDepth 20000 in
theorem gX8_sign_X8_fails : GoodIn wsX8_sign (wsV RX8 173 RX8 yX8_fails wsX8_fails) := goodIn_app (goodIn_of _ (by decide +kernel)) ggX8_sign_X8_fails
theorem dX8_sign_0 : decode cX8_sign 0 = .ok (.aload_n 0, 1) := by decide +kernel
theorem dX8_sign_1 : decode cX8_sign 1 = .ok (.invokevirtual 158, 3) := by decide +kernel
theorem dX8_sign_4 : decode cX8_sign 4 = .ok (.iload_n 1, 1) := by decide +kernel
theorem dX8_sign_5 : decode cX8_sign 5 = .ok (.if_icmp .eq 14, 3) := by decide +kernel
theorem dX8_sign_8 : decode cX8_sign 8 = .ok (.aload_n 0, 1) := by decide +kernel
theorem dX8_sign_9 : decode cX8_sign 9 = .ok (.bipush (-2), 2) := by decide +kernel
theorem dX8_sign_11 : decode cX8_sign 11 = .ok (.aload_n 0, 1) := by decide +kernel
theorem dX8_sign_12 : decode cX8_sign 12 = .ok (.getfield 152, 3) := by decide +kernel
theorem dX8_sign_15 : decode cX8_sign 15 = .ok (.invokevirtual 173, 3) := by decide +kernel
theorem dX8_sign_18 : decode cX8_sign 18 = .ok (.ireturn, 1) := by decide +kernel
theorem dX8_sign_19 : decode cX8_sign 19 = .ok (.aload_n 0, 1) := by decide +kernel
theorem dX8_sign_20 : decode cX8_sign 20 = .ok (.dup, 1) := by decide +kernel
theorem dX8_sign_21 : decode cX8_sign 21 = .ok (.getfield 152, 3) := by decide +kernel
theorem dX8_sign_24 : decode cX8_sign 24 = .ok (.iconst 1, 1) := by decide +kernel
theorem dX8_sign_25 : decode cX8_sign 25 = .ok (.iadd, 1) := by decide +kernel
theorem dX8_sign_26 : decode cX8_sign 26 = .ok (.putfield 152, 3) := by decide +kernel
theorem dX8_sign_29 : decode cX8_sign 29 = .ok (.iconst 1, 1) := by decide +kernel
theorem dX8_sign_30 : decode cX8_sign 30 = .ok (.ireturn, 1) := by decide +kernel
set_option maxRecDepth 20000 in
theorem ggX8_reads_X8_here : GoodIn wsX8_reads wsX8_here := goodIn_r _ [11, 1, 4, 5, 24, 25, 26, 27, 28, 29, 30, 31, 32, 33, 34, 35, 36, 37, 38, 39, 40, 41, 42, 43, 44, 45, 46] (by decide +kernel) (by decide +kernel)
set_option maxRecDepth 20000 in
theorem gX8_reads_X8_here : GoodIn wsX8_reads (wsV RX8 158 RX8 yX8_here wsX8_here) := goodIn_app (goodIn_of _ (by decide +kernel)) ggX8_reads_X8_here
set_option maxRecDepth 20000 in
theorem ggX8_reads_X8_isDigit : GoodIn wsX8_reads wsX8_isDigit := goodIn_r _ [14] (by decide +kernel) (by decide +kernel)
set_option maxRecDepth 20000 in
theorem gX8_reads_X8_isDigit : GoodIn wsX8_reads (va_wsS RX8 177 yX8_isDigit wsX8_isDigit) := goodIn_app (goodIn_of _ (by decide +kernel)) ggX8_reads_X8_isDigit
set_option maxRecDepth 20000 in
theorem ggX8_reads_X8_fails : GoodIn wsX8_reads wsX8_fails := goodIn_r _ [18, 19, 20, 24, 25, 26, 27, 28, 29, 30, 31, 32, 33, 34, 35, 36, 37, 38, 39, 40, 41, 42, 43, 44, 45, 46] (by decide +kernel) (by decide +kernel)
set_option maxRecDepth 20000 in
theorem gX8_reads_X8_fails : GoodIn wsX8_reads (wsV RX8 173 RX8 yX8_fails wsX8_fails) := goodIn_app (goodIn_of _ (by decide +kernel)) ggX8_reads_X8_fails
set_option maxRecDepth 20000 in
theorem ggX8_reads_X8_isIn : GoodIn wsX8_reads wsX8_isIn := goodIn_r _ [23] (by decide +kernel) (by decide +kernel)
set_option maxRecDepth 20000 in
theorem gX8_reads_X8_isIn : GoodIn wsX8_reads (va_wsS RX8 187 yX8_isIn wsX8_isIn) := goodIn_app (goodIn_of _ (by decide +kernel)) ggX8_reads_X8_isIn
theorem dX8_reads_0 : decode cX8_reads 0 = .ok (.aload_n 0, 1) := by decide +kernel
theorem dX8_reads_1 : decode cX8_reads 1 = .ok (.invokevirtual 158, 3) := by decide +kernel
theorem dX8_reads_4 : decode cX8_reads 4 = .ok (.invokestatic 177, 3) := by decide +kernel
theorem dX8_reads_7 : decode cX8_reads 7 = .ok (.ifCond .ne 14, 3) := by decide +kernel
theorem dX8_reads_10 : decode cX8_reads 10 = .ok (.aload_n 0, 1) := by decide +kernel
theorem dX8_reads_11 : decode cX8_reads 11 = .ok (.bipush (-2), 2) := by decide +kernel
theorem dX8_reads_13 : decode cX8_reads 13 = .ok (.aload_n 0, 1) := by decide +kernel
theorem dX8_reads_14 : decode cX8_reads 14 = .ok (.getfield 152, 3) := by decide +kernel
theorem dX8_reads_17 : decode cX8_reads 17 = .ok (.invokevirtual 173, 3) := by decide +kernel
theorem dX8_reads_20 : decode cX8_reads 20 = .ok (.ireturn, 1) := by decide +kernel
theorem dX8_reads_21 : decode cX8_reads 21 = .ok (.aload_n 0, 1) := by decide +kernel
theorem dX8_reads_22 : decode cX8_reads 22 = .ok (.aload_n 0, 1) := by decide +kernel
theorem dX8_reads_23 : decode cX8_reads 23 = .ok (.getfield 152, 3) := by decide +kernel
theorem dX8_reads_26 : decode cX8_reads 26 = .ok (.putfield 180, 3) := by decide +kernel
theorem dX8_reads_29 : decode cX8_reads 29 = .ok (.aload_n 0, 1) := by decide +kernel
theorem dX8_reads_30 : decode cX8_reads 30 = .ok (.iconst 0, 1) := by decide +kernel
theorem dX8_reads_31 : decode cX8_reads 31 = .ok (.putfield 183, 3) := by decide +kernel
theorem dX8_reads_34 : decode cX8_reads 34 = .ok (.aload_n 0, 1) := by decide +kernel
theorem dX8_reads_35 : decode cX8_reads 35 = .ok (.getfield 152, 3) := by decide +kernel
theorem dX8_reads_38 : decode cX8_reads 38 = .ok (.aload_n 0, 1) := by decide +kernel
theorem dX8_reads_39 : decode cX8_reads 39 = .ok (.getfield 155, 3) := by decide +kernel
theorem dX8_reads_42 : decode cX8_reads 42 = .ok (.if_icmp .ge 71, 3) := by decide +kernel
theorem dX8_reads_45 : decode cX8_reads 45 = .ok (.aload_n 0, 1) := by decide +kernel
theorem dX8_reads_46 : decode cX8_reads 46 = .ok (.getfield 34, 3) := by decide +kernel
theorem dX8_reads_49 : decode cX8_reads 49 = .ok (.aload_n 0, 1) := by decide +kernel
theorem dX8_reads_50 : decode cX8_reads 50 = .ok (.getfield 152, 3) := by decide +kernel
theorem dX8_reads_53 : decode cX8_reads 53 = .ok (.iaload, 1) := by decide +kernel
theorem dX8_reads_54 : decode cX8_reads 54 = .ok (.invokestatic 177, 3) := by decide +kernel
theorem dX8_reads_57 : decode cX8_reads 57 = .ok (.ifCond .eq 56, 3) := by decide +kernel
theorem dX8_reads_60 : decode cX8_reads 60 = .ok (.aload_n 0, 1) := by decide +kernel
theorem dX8_reads_61 : decode cX8_reads 61 = .ok (.aload_n 0, 1) := by decide +kernel
theorem dX8_reads_62 : decode cX8_reads 62 = .ok (.getfield 183, 3) := by decide +kernel
theorem dX8_reads_65 : decode cX8_reads 65 = .ok (.ldc 186, 2) := by decide +kernel
theorem dX8_reads_67 : decode cX8_reads 67 = .ok (.if_icmp .le 10, 3) := by decide +kernel
theorem dX8_reads_70 : decode cX8_reads 70 = .ok (.aload_n 0, 1) := by decide +kernel
theorem dX8_reads_71 : decode cX8_reads 71 = .ok (.getfield 183, 3) := by decide +kernel
theorem dX8_reads_74 : decode cX8_reads 74 = .ok (.goto 23, 3) := by decide +kernel
theorem dX8_reads_77 : decode cX8_reads 77 = .ok (.bipush 10, 2) := by decide +kernel
theorem dX8_reads_79 : decode cX8_reads 79 = .ok (.aload_n 0, 1) := by decide +kernel
theorem dX8_reads_80 : decode cX8_reads 80 = .ok (.getfield 183, 3) := by decide +kernel
theorem dX8_reads_83 : decode cX8_reads 83 = .ok (.imul, 1) := by decide +kernel
theorem dX8_reads_84 : decode cX8_reads 84 = .ok (.aload_n 0, 1) := by decide +kernel
theorem dX8_reads_85 : decode cX8_reads 85 = .ok (.getfield 34, 3) := by decide +kernel
theorem dX8_reads_88 : decode cX8_reads 88 = .ok (.aload_n 0, 1) := by decide +kernel
theorem dX8_reads_89 : decode cX8_reads 89 = .ok (.getfield 152, 3) := by decide +kernel
theorem dX8_reads_92 : decode cX8_reads 92 = .ok (.iaload, 1) := by decide +kernel
theorem dX8_reads_93 : decode cX8_reads 93 = .ok (.iadd, 1) := by decide +kernel
theorem dX8_reads_94 : decode cX8_reads 94 = .ok (.bipush 48, 2) := by decide +kernel
theorem dX8_reads_96 : decode cX8_reads 96 = .ok (.isub, 1) := by decide +kernel
theorem dX8_reads_97 : decode cX8_reads 97 = .ok (.putfield 183, 3) := by decide +kernel
theorem dX8_reads_100 : decode cX8_reads 100 = .ok (.aload_n 0, 1) := by decide +kernel
theorem dX8_reads_101 : decode cX8_reads 101 = .ok (.dup, 1) := by decide +kernel
theorem dX8_reads_102 : decode cX8_reads 102 = .ok (.getfield 152, 3) := by decide +kernel
theorem dX8_reads_105 : decode cX8_reads 105 = .ok (.iconst 1, 1) := by decide +kernel
theorem dX8_reads_106 : decode cX8_reads 106 = .ok (.iadd, 1) := by decide +kernel
theorem dX8_reads_107 : decode cX8_reads 107 = .ok (.putfield 152, 3) := by decide +kernel
theorem dX8_reads_110 : decode cX8_reads 110 = .ok (.goto (-76), 3) := by decide +kernel
theorem dX8_reads_113 : decode cX8_reads 113 = .ok (.aload_n 0, 1) := by decide +kernel
theorem dX8_reads_114 : decode cX8_reads 114 = .ok (.getfield 183, 3) := by decide +kernel
theorem dX8_reads_117 : decode cX8_reads 117 = .ok (.iload_n 1, 1) := by decide +kernel
theorem dX8_reads_118 : decode cX8_reads 118 = .ok (.iload_n 2, 1) := by decide +kernel
theorem dX8_reads_119 : decode cX8_reads 119 = .ok (.invokestatic 187, 3) := by decide +kernel
theorem dX8_reads_122 : decode cX8_reads 122 = .ok (.ifCond .ne 16, 3) := by decide +kernel
theorem dX8_reads_125 : decode cX8_reads 125 = .ok (.aload_n 0, 1) := by decide +kernel
theorem dX8_reads_126 : decode cX8_reads 126 = .ok (.bipush (-3), 2) := by decide +kernel
theorem dX8_reads_128 : decode cX8_reads 128 = .ok (.aload_n 0, 1) := by decide +kernel
theorem dX8_reads_129 : decode cX8_reads 129 = .ok (.getfield 180, 3) := by decide +kernel
theorem dX8_reads_132 : decode cX8_reads 132 = .ok (.invokevirtual 173, 3) := by decide +kernel
theorem dX8_reads_135 : decode cX8_reads 135 = .ok (.ifCond .eq 7, 3) := by decide +kernel
theorem dX8_reads_138 : decode cX8_reads 138 = .ok (.iconst 1, 1) := by decide +kernel
theorem dX8_reads_139 : decode cX8_reads 139 = .ok (.goto 4, 3) := by decide +kernel
theorem dX8_reads_142 : decode cX8_reads 142 = .ok (.iconst 0, 1) := by decide +kernel
theorem dX8_reads_143 : decode cX8_reads 143 = .ok (.ireturn, 1) := by decide +kernel
set_option maxRecDepth 20000 in
theorem ggX8_readsWire_X8_reads : GoodIn wsX8_readsWire wsX8_reads := goodIn_r _ [6, 7, 8, 9, 10, 11, 12, 13, 14, 15, 5, 16, 17, 18, 19, 20, 21, 22, 23, 24, 25, 26, 27, 28, 29, 30, 31, 32, 33, 34, 35, 36, 37, 38, 39, 40, 41, 42, 43, 44, 45, 46, 47, 48, 49, 50, 51] (by decide +kernel) (by decide +kernel)
set_option maxRecDepth 20000 in
theorem gX8_readsWire_X8_reads : GoodIn wsX8_readsWire (wsV RX8 191 RX8 yX8_reads wsX8_reads) := goodIn_app (goodIn_of _ (by decide +kernel)) ggX8_readsWire_X8_reads
theorem dX8_readsWire_0 : decode cX8_readsWire 0 = .ok (.aload_n 0, 1) := by decide +kernel
theorem dX8_readsWire_1 : decode cX8_readsWire 1 = .ok (.iconst 0, 1) := by decide +kernel
theorem dX8_readsWire_2 : decode cX8_readsWire 2 = .ok (.aload_n 0, 1) := by decide +kernel
theorem dX8_readsWire_3 : decode cX8_readsWire 3 = .ok (.getfield 13, 3) := by decide +kernel
theorem dX8_readsWire_6 : decode cX8_readsWire 6 = .ok (.iconst 1, 1) := by decide +kernel
theorem dX8_readsWire_7 : decode cX8_readsWire 7 = .ok (.iaload, 1) := by decide +kernel
theorem dX8_readsWire_8 : decode cX8_readsWire 8 = .ok (.iconst 1, 1) := by decide +kernel
theorem dX8_readsWire_9 : decode cX8_readsWire 9 = .ok (.isub, 1) := by decide +kernel
theorem dX8_readsWire_10 : decode cX8_readsWire 10 = .ok (.invokevirtual 191, 3) := by decide +kernel
theorem dX8_readsWire_13 : decode cX8_readsWire 13 = .ok (.ireturn, 1) := by decide +kernel
set_option maxRecDepth 20000 in
theorem ggX8_kindHere_X8_takes : GoodIn wsX8_kindHere wsX8_takes := goodIn_r _ [5, 6, 7, 8, 9, 10, 11, 4, 12, 13, 14, 15, 16, 17, 18, 19, 20, 21, 22, 23, 24, 25, 26, 27, 28, 29, 30, 31, 32, 33, 34, 35, 36, 37, 38, 39, 40, 41, 42, 43, 44, 45, 46, 47, 48, 49, 50, 51, 52, 53, 54, 55, 56, 57, 58, 59, 60, 61, 62, 63, 64, 65, 66, 67, 68, 69, 70, 71, 72, 73, 74, 75, 76, 77, 78, 79, 80, 81, 82, 83, 84, 85, 86, 87] (by decide +kernel) (by decide +kernel)
set_option maxRecDepth 20000 in
theorem gX8_kindHere_X8_takes : GoodIn wsX8_kindHere (wsV RX8 196 RX8 yX8_takes wsX8_takes) := goodIn_app (goodIn_of _ (by decide +kernel)) ggX8_kindHere_X8_takes
theorem dX8_kindHere_0 : decode cX8_kindHere 0 = .ok (.aload_n 0, 1) := by decide +kernel
theorem dX8_kindHere_1 : decode cX8_kindHere 1 = .ok (.ldc 194, 2) := by decide +kernel
theorem dX8_kindHere_3 : decode cX8_kindHere 3 = .ok (.invokevirtual 196, 3) := by decide +kernel
theorem dX8_kindHere_6 : decode cX8_kindHere 6 = .ok (.ifCond .eq 7, 3) := by decide +kernel
theorem dX8_kindHere_9 : decode cX8_kindHere 9 = .ok (.iconst 0, 1) := by decide +kernel
theorem dX8_kindHere_10 : decode cX8_kindHere 10 = .ok (.goto 111, 3) := by decide +kernel
theorem dX8_kindHere_13 : decode cX8_kindHere 13 = .ok (.aload_n 0, 1) := by decide +kernel
theorem dX8_kindHere_14 : decode cX8_kindHere 14 = .ok (.ldc 200, 2) := by decide +kernel
theorem dX8_kindHere_16 : decode cX8_kindHere 16 = .ok (.invokevirtual 196, 3) := by decide +kernel
theorem dX8_kindHere_19 : decode cX8_kindHere 19 = .ok (.ifCond .eq 7, 3) := by decide +kernel
theorem dX8_kindHere_22 : decode cX8_kindHere 22 = .ok (.iconst 1, 1) := by decide +kernel
theorem dX8_kindHere_23 : decode cX8_kindHere 23 = .ok (.goto 98, 3) := by decide +kernel
theorem dX8_kindHere_26 : decode cX8_kindHere 26 = .ok (.aload_n 0, 1) := by decide +kernel
theorem dX8_kindHere_27 : decode cX8_kindHere 27 = .ok (.ldc 202, 2) := by decide +kernel
theorem dX8_kindHere_29 : decode cX8_kindHere 29 = .ok (.invokevirtual 196, 3) := by decide +kernel
theorem dX8_kindHere_32 : decode cX8_kindHere 32 = .ok (.ifCond .eq 7, 3) := by decide +kernel
theorem dX8_kindHere_35 : decode cX8_kindHere 35 = .ok (.iconst 2, 1) := by decide +kernel
theorem dX8_kindHere_36 : decode cX8_kindHere 36 = .ok (.goto 85, 3) := by decide +kernel
theorem dX8_kindHere_39 : decode cX8_kindHere 39 = .ok (.aload_n 0, 1) := by decide +kernel
theorem dX8_kindHere_40 : decode cX8_kindHere 40 = .ok (.ldc 204, 2) := by decide +kernel
theorem dX8_kindHere_42 : decode cX8_kindHere 42 = .ok (.invokevirtual 196, 3) := by decide +kernel
theorem dX8_kindHere_45 : decode cX8_kindHere 45 = .ok (.ifCond .eq 7, 3) := by decide +kernel
theorem dX8_kindHere_48 : decode cX8_kindHere 48 = .ok (.iconst 3, 1) := by decide +kernel
theorem dX8_kindHere_49 : decode cX8_kindHere 49 = .ok (.goto 72, 3) := by decide +kernel
theorem dX8_kindHere_52 : decode cX8_kindHere 52 = .ok (.aload_n 0, 1) := by decide +kernel
theorem dX8_kindHere_53 : decode cX8_kindHere 53 = .ok (.ldc 206, 2) := by decide +kernel
theorem dX8_kindHere_55 : decode cX8_kindHere 55 = .ok (.invokevirtual 196, 3) := by decide +kernel
theorem dX8_kindHere_58 : decode cX8_kindHere 58 = .ok (.ifCond .eq 7, 3) := by decide +kernel
theorem dX8_kindHere_61 : decode cX8_kindHere 61 = .ok (.iconst 4, 1) := by decide +kernel
theorem dX8_kindHere_62 : decode cX8_kindHere 62 = .ok (.goto 59, 3) := by decide +kernel
theorem dX8_kindHere_65 : decode cX8_kindHere 65 = .ok (.aload_n 0, 1) := by decide +kernel
theorem dX8_kindHere_66 : decode cX8_kindHere 66 = .ok (.ldc 208, 2) := by decide +kernel
theorem dX8_kindHere_68 : decode cX8_kindHere 68 = .ok (.invokevirtual 196, 3) := by decide +kernel
theorem dX8_kindHere_71 : decode cX8_kindHere 71 = .ok (.ifCond .eq 7, 3) := by decide +kernel
theorem dX8_kindHere_74 : decode cX8_kindHere 74 = .ok (.iconst 5, 1) := by decide +kernel
theorem dX8_kindHere_75 : decode cX8_kindHere 75 = .ok (.goto 46, 3) := by decide +kernel
theorem dX8_kindHere_78 : decode cX8_kindHere 78 = .ok (.aload_n 0, 1) := by decide +kernel
theorem dX8_kindHere_79 : decode cX8_kindHere 79 = .ok (.ldc 210, 2) := by decide +kernel
theorem dX8_kindHere_81 : decode cX8_kindHere 81 = .ok (.invokevirtual 196, 3) := by decide +kernel
theorem dX8_kindHere_84 : decode cX8_kindHere 84 = .ok (.ifCond .eq 8, 3) := by decide +kernel
theorem dX8_kindHere_87 : decode cX8_kindHere 87 = .ok (.bipush 6, 2) := by decide +kernel
theorem dX8_kindHere_89 : decode cX8_kindHere 89 = .ok (.goto 32, 3) := by decide +kernel
theorem dX8_kindHere_92 : decode cX8_kindHere 92 = .ok (.aload_n 0, 1) := by decide +kernel
theorem dX8_kindHere_93 : decode cX8_kindHere 93 = .ok (.ldc 212, 2) := by decide +kernel
theorem dX8_kindHere_95 : decode cX8_kindHere 95 = .ok (.invokevirtual 196, 3) := by decide +kernel
theorem dX8_kindHere_98 : decode cX8_kindHere 98 = .ok (.ifCond .eq 8, 3) := by decide +kernel
theorem dX8_kindHere_101 : decode cX8_kindHere 101 = .ok (.bipush 7, 2) := by decide +kernel
theorem dX8_kindHere_103 : decode cX8_kindHere 103 = .ok (.goto 18, 3) := by decide +kernel
theorem dX8_kindHere_106 : decode cX8_kindHere 106 = .ok (.aload_n 0, 1) := by decide +kernel
theorem dX8_kindHere_107 : decode cX8_kindHere 107 = .ok (.ldc 214, 2) := by decide +kernel
theorem dX8_kindHere_109 : decode cX8_kindHere 109 = .ok (.invokevirtual 196, 3) := by decide +kernel
theorem dX8_kindHere_112 : decode cX8_kindHere 112 = .ok (.ifCond .eq 8, 3) := by decide +kernel
theorem dX8_kindHere_115 : decode cX8_kindHere 115 = .ok (.bipush 8, 2) := by decide +kernel
theorem dX8_kindHere_117 : decode cX8_kindHere 117 = .ok (.goto 4, 3) := by decide +kernel
theorem dX8_kindHere_120 : decode cX8_kindHere 120 = .ok (.iconst (-1), 1) := by decide +kernel
theorem dX8_kindHere_121 : decode cX8_kindHere 121 = .ok (.ireturn, 1) := by decide +kernel
theorem dX8_fewest_0 : decode cX8_fewest 0 = .ok (.iload_n 0, 1) := by decide +kernel
theorem dX8_fewest_1 : decode cX8_fewest 1 = .ok (.bipush 8, 2) := by decide +kernel
theorem dX8_fewest_3 : decode cX8_fewest 3 = .ok (.if_icmp .ne 7, 3) := by decide +kernel
theorem dX8_fewest_6 : decode cX8_fewest 6 = .ok (.iconst 3, 1) := by decide +kernel
theorem dX8_fewest_7 : decode cX8_fewest 7 = .ok (.goto 20, 3) := by decide +kernel
theorem dX8_fewest_10 : decode cX8_fewest 10 = .ok (.iload_n 0, 1) := by decide +kernel
theorem dX8_fewest_11 : decode cX8_fewest 11 = .ok (.bipush 6, 2) := by decide +kernel
theorem dX8_fewest_13 : decode cX8_fewest 13 = .ok (.if_icmp .eq 9, 3) := by decide +kernel
theorem dX8_fewest_16 : decode cX8_fewest 16 = .ok (.iload_n 0, 1) := by decide +kernel
theorem dX8_fewest_17 : decode cX8_fewest 17 = .ok (.bipush 7, 2) := by decide +kernel
theorem dX8_fewest_19 : decode cX8_fewest 19 = .ok (.if_icmp .ne 7, 3) := by decide +kernel
theorem dX8_fewest_22 : decode cX8_fewest 22 = .ok (.iconst 1, 1) := by decide +kernel
theorem dX8_fewest_23 : decode cX8_fewest 23 = .ok (.goto 4, 3) := by decide +kernel
theorem dX8_fewest_26 : decode cX8_fewest 26 = .ok (.iconst 2, 1) := by decide +kernel
theorem dX8_fewest_27 : decode cX8_fewest 27 = .ok (.ireturn, 1) := by decide +kernel
theorem dX8_mostOf_0 : decode cX8_mostOf 0 = .ok (.iload_n 0, 1) := by decide +kernel
theorem dX8_mostOf_1 : decode cX8_mostOf 1 = .ok (.bipush 8, 2) := by decide +kernel
theorem dX8_mostOf_3 : decode cX8_mostOf 3 = .ok (.if_icmp .ne 7, 3) := by decide +kernel
theorem dX8_mostOf_6 : decode cX8_mostOf 6 = .ok (.iconst 3, 1) := by decide +kernel
theorem dX8_mostOf_7 : decode cX8_mostOf 7 = .ok (.goto 20, 3) := by decide +kernel
theorem dX8_mostOf_10 : decode cX8_mostOf 10 = .ok (.iload_n 0, 1) := by decide +kernel
theorem dX8_mostOf_11 : decode cX8_mostOf 11 = .ok (.bipush 6, 2) := by decide +kernel
theorem dX8_mostOf_13 : decode cX8_mostOf 13 = .ok (.if_icmp .eq 9, 3) := by decide +kernel
theorem dX8_mostOf_16 : decode cX8_mostOf 16 = .ok (.iload_n 0, 1) := by decide +kernel
theorem dX8_mostOf_17 : decode cX8_mostOf 17 = .ok (.bipush 7, 2) := by decide +kernel
theorem dX8_mostOf_19 : decode cX8_mostOf 19 = .ok (.if_icmp .ne 7, 3) := by decide +kernel
theorem dX8_mostOf_22 : decode cX8_mostOf 22 = .ok (.iconst 1, 1) := by decide +kernel
theorem dX8_mostOf_23 : decode cX8_mostOf 23 = .ok (.goto 4, 3) := by decide +kernel
theorem dX8_mostOf_26 : decode cX8_mostOf 26 = .ok (.iconst 4, 1) := by decide +kernel
theorem dX8_mostOf_27 : decode cX8_mostOf 27 = .ok (.ireturn, 1) := by decide +kernel
set_option maxRecDepth 20000 in
theorem ggX8_readsGate_X8_fails : GoodIn wsX8_readsGate wsX8_fails := goodIn_r _ [8, 9, 10, 99, 100, 101, 102, 103, 104, 105, 106, 107, 108, 109, 110, 111, 112, 113, 114, 115, 116, 117, 118, 119, 120, 121] (by decide +kernel) (by decide +kernel)
set_option maxRecDepth 20000 in
theorem gX8_readsGate_X8_fails : GoodIn wsX8_readsGate (wsV RX8 173 RX8 yX8_fails wsX8_fails) := goodIn_app (goodIn_of _ (by decide +kernel)) ggX8_readsGate_X8_fails
set_option maxRecDepth 20000 in
theorem ggX8_readsGate_X8_here : GoodIn wsX8_readsGate wsX8_here := goodIn_r _ [14, 2, 15, 16, 99, 100, 101, 102, 103, 104, 105, 106, 107, 108, 109, 110, 111, 112, 113, 114, 115, 116, 117, 118, 119, 120, 121] (by decide +kernel) (by decide +kernel)
set_option maxRecDepth 20000 in
theorem gX8_readsGate_X8_here : GoodIn wsX8_readsGate (wsV RX8 158 RX8 yX8_here wsX8_here) := goodIn_app (goodIn_of _ (by decide +kernel)) ggX8_readsGate_X8_here
set_option maxRecDepth 20000 in
theorem ggX8_readsGate_X8_kindHere : GoodIn wsX8_readsGate wsX8_kindHere := goodIn_r _ [20, 21, 22, 23, 7, 24, 2, 15, 16, 11, 12, 13, 14, 25, 26, 27, 28, 29, 30, 31, 32, 33, 34, 35, 36, 37, 38, 39, 40, 41, 42, 43, 44, 45, 46, 47, 48, 49, 50, 51, 52, 53, 54, 55, 56, 57, 58, 59, 60, 61, 62, 63, 64, 65, 66, 67, 68, 69, 70, 71, 72, 73, 74, 75, 76, 99, 100, 101, 102, 103, 104, 105, 106, 107, 108, 109, 110, 111, 112, 113, 114, 115, 116, 117, 118, 119, 120, 121] (by decide +kernel) (by decide +kernel)
set_option maxRecDepth 20000 in
theorem gX8_readsGate_X8_kindHere : GoodIn wsX8_readsGate (wsV RX8 216 RX8 yX8_kindHere wsX8_kindHere) := goodIn_app (goodIn_of _ (by decide +kernel)) ggX8_readsGate_X8_kindHere
set_option maxRecDepth 20000 in
theorem ggX8_readsGate_X8_fewest : GoodIn wsX8_readsGate wsX8_fewest := goodIn_r _ [79] (by decide +kernel) (by decide +kernel)
set_option maxRecDepth 20000 in
theorem gX8_readsGate_X8_fewest : GoodIn wsX8_readsGate (va_wsS RX8 219 yX8_fewest wsX8_fewest) := goodIn_app (goodIn_of _ (by decide +kernel)) ggX8_readsGate_X8_fewest
set_option maxRecDepth 20000 in
theorem ggX8_readsGate_X8_mostOf : GoodIn wsX8_readsGate wsX8_mostOf := goodIn_r _ [82] (by decide +kernel) (by decide +kernel)
set_option maxRecDepth 20000 in
theorem gX8_readsGate_X8_mostOf : GoodIn wsX8_readsGate (va_wsS RX8 222 yX8_mostOf wsX8_mostOf) := goodIn_app (goodIn_of _ (by decide +kernel)) ggX8_readsGate_X8_mostOf
set_option maxRecDepth 20000 in
theorem ggX8_readsGate_X8_isDigit : GoodIn wsX8_readsGate wsX8_isDigit := goodIn_r _ [85] (by decide +kernel) (by decide +kernel)
set_option maxRecDepth 20000 in
theorem gX8_readsGate_X8_isDigit : GoodIn wsX8_readsGate (va_wsS RX8 177 yX8_isDigit wsX8_isDigit) := goodIn_app (goodIn_of _ (by decide +kernel)) ggX8_readsGate_X8_isDigit
set_option maxRecDepth 20000 in
theorem ggX8_readsGate_X8_readsWire : GoodIn wsX8_readsGate wsX8_readsWire := goodIn_r _ [89, 1, 90, 91, 92, 7, 93, 2, 94, 3, 15, 16, 95, 11, 12, 13, 14, 83, 84, 85, 4, 5, 6, 8, 9, 10, 96, 97, 98, 99, 100, 101, 102, 103, 104, 105, 106, 107, 108, 109, 110, 111, 112, 113, 114, 115, 116, 117, 118, 119, 120, 121] (by decide +kernel) (by decide +kernel)
set_option maxRecDepth 20000 in
theorem gX8_readsGate_X8_readsWire : GoodIn wsX8_readsGate (wsV RX8 225 RX8 yX8_readsWire wsX8_readsWire) := goodIn_app (goodIn_of _ (by decide +kernel)) ggX8_readsGate_X8_readsWire
theorem dX8_readsGate_0 : decode cX8_readsGate 0 = .ok (.aload_n 0, 1) := by decide +kernel
theorem dX8_readsGate_1 : decode cX8_readsGate 1 = .ok (.getfield 13, 3) := by decide +kernel
theorem dX8_readsGate_4 : decode cX8_readsGate 4 = .ok (.iconst 1, 1) := by decide +kernel
theorem dX8_readsGate_5 : decode cX8_readsGate 5 = .ok (.iaload, 1) := by decide +kernel
theorem dX8_readsGate_6 : decode cX8_readsGate 6 = .ok (.aload_n 0, 1) := by decide +kernel
theorem dX8_readsGate_7 : decode cX8_readsGate 7 = .ok (.getfield 13, 3) := by decide +kernel
theorem dX8_readsGate_10 : decode cX8_readsGate 10 = .ok (.iconst 0, 1) := by decide +kernel
theorem dX8_readsGate_11 : decode cX8_readsGate 11 = .ok (.iaload, 1) := by decide +kernel
theorem dX8_readsGate_12 : decode cX8_readsGate 12 = .ok (.isub, 1) := by decide +kernel
theorem dX8_readsGate_13 : decode cX8_readsGate 13 = .ok (.bipush 16, 2) := by decide +kernel
theorem dX8_readsGate_15 : decode cX8_readsGate 15 = .ok (.if_icmp .ne 11, 3) := by decide +kernel
theorem dX8_readsGate_18 : decode cX8_readsGate 18 = .ok (.aload_n 0, 1) := by decide +kernel
theorem dX8_readsGate_19 : decode cX8_readsGate 19 = .ok (.bipush (-6), 2) := by decide +kernel
theorem dX8_readsGate_21 : decode cX8_readsGate 21 = .ok (.iload_n 1, 1) := by decide +kernel
theorem dX8_readsGate_22 : decode cX8_readsGate 22 = .ok (.invokevirtual 173, 3) := by decide +kernel
theorem dX8_readsGate_25 : decode cX8_readsGate 25 = .ok (.ireturn, 1) := by decide +kernel
theorem dX8_readsGate_26 : decode cX8_readsGate 26 = .ok (.aload_n 0, 1) := by decide +kernel
theorem dX8_readsGate_27 : decode cX8_readsGate 27 = .ok (.invokevirtual 158, 3) := by decide +kernel
theorem dX8_readsGate_30 : decode cX8_readsGate 30 = .ok (.pop, 1) := by decide +kernel
theorem dX8_readsGate_31 : decode cX8_readsGate 31 = .ok (.aload_n 0, 1) := by decide +kernel
theorem dX8_readsGate_32 : decode cX8_readsGate 32 = .ok (.invokevirtual 216, 3) := by decide +kernel
theorem dX8_readsGate_35 : decode cX8_readsGate 35 = .ok (.istore_n 2, 1) := by decide +kernel
theorem dX8_readsGate_36 : decode cX8_readsGate 36 = .ok (.iload_n 2, 1) := by decide +kernel
theorem dX8_readsGate_37 : decode cX8_readsGate 37 = .ok (.iconst (-1), 1) := by decide +kernel
theorem dX8_readsGate_38 : decode cX8_readsGate 38 = .ok (.if_icmp .ne 14, 3) := by decide +kernel
theorem dX8_readsGate_41 : decode cX8_readsGate 41 = .ok (.aload_n 0, 1) := by decide +kernel
theorem dX8_readsGate_42 : decode cX8_readsGate 42 = .ok (.bipush (-2), 2) := by decide +kernel
theorem dX8_readsGate_44 : decode cX8_readsGate 44 = .ok (.aload_n 0, 1) := by decide +kernel
theorem dX8_readsGate_45 : decode cX8_readsGate 45 = .ok (.getfield 152, 3) := by decide +kernel
theorem dX8_readsGate_48 : decode cX8_readsGate 48 = .ok (.invokevirtual 173, 3) := by decide +kernel
theorem dX8_readsGate_51 : decode cX8_readsGate 51 = .ok (.ireturn, 1) := by decide +kernel
theorem dX8_readsGate_52 : decode cX8_readsGate 52 = .ok (.aload_n 0, 1) := by decide +kernel
theorem dX8_readsGate_53 : decode cX8_readsGate 53 = .ok (.getfield 13, 3) := by decide +kernel
theorem dX8_readsGate_56 : decode cX8_readsGate 56 = .ok (.iconst 1, 1) := by decide +kernel
theorem dX8_readsGate_57 : decode cX8_readsGate 57 = .ok (.iaload, 1) := by decide +kernel
theorem dX8_readsGate_58 : decode cX8_readsGate 58 = .ok (.istore_n 3, 1) := by decide +kernel
theorem dX8_readsGate_59 : decode cX8_readsGate 59 = .ok (.iconst 0, 1) := by decide +kernel
theorem dX8_readsGate_60 : decode cX8_readsGate 60 = .ok (.istore 4, 2) := by decide +kernel
theorem dX8_readsGate_62 : decode cX8_readsGate 62 = .ok (.iload 4, 2) := by decide +kernel
theorem dX8_readsGate_64 : decode cX8_readsGate 64 = .ok (.iload_n 2, 1) := by decide +kernel
theorem dX8_readsGate_65 : decode cX8_readsGate 65 = .ok (.invokestatic 219, 3) := by decide +kernel
theorem dX8_readsGate_68 : decode cX8_readsGate 68 = .ok (.if_icmp .lt 22, 3) := by decide +kernel
theorem dX8_readsGate_71 : decode cX8_readsGate 71 = .ok (.iload 4, 2) := by decide +kernel
theorem dX8_readsGate_73 : decode cX8_readsGate 73 = .ok (.iload_n 2, 1) := by decide +kernel
theorem dX8_readsGate_74 : decode cX8_readsGate 74 = .ok (.invokestatic 222, 3) := by decide +kernel
theorem dX8_readsGate_77 : decode cX8_readsGate 77 = .ok (.if_icmp .ge 46, 3) := by decide +kernel
theorem dX8_readsGate_80 : decode cX8_readsGate 80 = .ok (.aload_n 0, 1) := by decide +kernel
theorem dX8_readsGate_81 : decode cX8_readsGate 81 = .ok (.invokevirtual 158, 3) := by decide +kernel
theorem dX8_readsGate_84 : decode cX8_readsGate 84 = .ok (.invokestatic 177, 3) := by decide +kernel
theorem dX8_readsGate_87 : decode cX8_readsGate 87 = .ok (.ifCond .eq 36, 3) := by decide +kernel
theorem dX8_readsGate_90 : decode cX8_readsGate 90 = .ok (.aload_n 0, 1) := by decide +kernel
theorem dX8_readsGate_91 : decode cX8_readsGate 91 = .ok (.invokevirtual 225, 3) := by decide +kernel
theorem dX8_readsGate_94 : decode cX8_readsGate 94 = .ok (.ifCond .ne 5, 3) := by decide +kernel
theorem dX8_readsGate_97 : decode cX8_readsGate 97 = .ok (.iconst 0, 1) := by decide +kernel
theorem dX8_readsGate_98 : decode cX8_readsGate 98 = .ok (.ireturn, 1) := by decide +kernel
theorem dX8_readsGate_99 : decode cX8_readsGate 99 = .ok (.aload_n 0, 1) := by decide +kernel
theorem dX8_readsGate_100 : decode cX8_readsGate 100 = .ok (.getfield 13, 3) := by decide +kernel
theorem dX8_readsGate_103 : decode cX8_readsGate 103 = .ok (.bipush 56, 2) := by decide +kernel
theorem dX8_readsGate_105 : decode cX8_readsGate 105 = .ok (.iconst 4, 1) := by decide +kernel
theorem dX8_readsGate_106 : decode cX8_readsGate 106 = .ok (.iload_n 3, 1) := by decide +kernel
theorem dX8_readsGate_107 : decode cX8_readsGate 107 = .ok (.imul, 1) := by decide +kernel
theorem dX8_readsGate_108 : decode cX8_readsGate 108 = .ok (.iadd, 1) := by decide +kernel
theorem dX8_readsGate_109 : decode cX8_readsGate 109 = .ok (.iload 4, 2) := by decide +kernel
theorem dX8_readsGate_111 : decode cX8_readsGate 111 = .ok (.iadd, 1) := by decide +kernel
theorem dX8_readsGate_112 : decode cX8_readsGate 112 = .ok (.aload_n 0, 1) := by decide +kernel
theorem dX8_readsGate_113 : decode cX8_readsGate 113 = .ok (.getfield 183, 3) := by decide +kernel
theorem dX8_readsGate_116 : decode cX8_readsGate 116 = .ok (.iastore, 1) := by decide +kernel
theorem dX8_readsGate_117 : decode cX8_readsGate 117 = .ok (.iinc 4 1, 3) := by decide +kernel
theorem dX8_readsGate_120 : decode cX8_readsGate 120 = .ok (.goto (-58), 3) := by decide +kernel
theorem dX8_readsGate_123 : decode cX8_readsGate 123 = .ok (.aload_n 0, 1) := by decide +kernel
theorem dX8_readsGate_124 : decode cX8_readsGate 124 = .ok (.getfield 13, 3) := by decide +kernel
theorem dX8_readsGate_127 : decode cX8_readsGate 127 = .ok (.bipush 8, 2) := by decide +kernel
theorem dX8_readsGate_129 : decode cX8_readsGate 129 = .ok (.iload_n 3, 1) := by decide +kernel
theorem dX8_readsGate_130 : decode cX8_readsGate 130 = .ok (.iadd, 1) := by decide +kernel
theorem dX8_readsGate_131 : decode cX8_readsGate 131 = .ok (.iload_n 2, 1) := by decide +kernel
theorem dX8_readsGate_132 : decode cX8_readsGate 132 = .ok (.iastore, 1) := by decide +kernel
theorem dX8_readsGate_133 : decode cX8_readsGate 133 = .ok (.aload_n 0, 1) := by decide +kernel
theorem dX8_readsGate_134 : decode cX8_readsGate 134 = .ok (.getfield 13, 3) := by decide +kernel
theorem dX8_readsGate_137 : decode cX8_readsGate 137 = .ok (.bipush 32, 2) := by decide +kernel
theorem dX8_readsGate_139 : decode cX8_readsGate 139 = .ok (.iload_n 3, 1) := by decide +kernel
theorem dX8_readsGate_140 : decode cX8_readsGate 140 = .ok (.iadd, 1) := by decide +kernel
theorem dX8_readsGate_141 : decode cX8_readsGate 141 = .ok (.iload 4, 2) := by decide +kernel
theorem dX8_readsGate_143 : decode cX8_readsGate 143 = .ok (.iastore, 1) := by decide +kernel
theorem dX8_readsGate_144 : decode cX8_readsGate 144 = .ok (.aload_n 0, 1) := by decide +kernel
theorem dX8_readsGate_145 : decode cX8_readsGate 145 = .ok (.getfield 13, 3) := by decide +kernel
theorem dX8_readsGate_148 : decode cX8_readsGate 148 = .ok (.iconst 1, 1) := by decide +kernel
theorem dX8_readsGate_149 : decode cX8_readsGate 149 = .ok (.dup2, 1) := by decide +kernel
theorem dX8_readsGate_150 : decode cX8_readsGate 150 = .ok (.iaload, 1) := by decide +kernel
theorem dX8_readsGate_151 : decode cX8_readsGate 151 = .ok (.iconst 1, 1) := by decide +kernel
theorem dX8_readsGate_152 : decode cX8_readsGate 152 = .ok (.iadd, 1) := by decide +kernel
theorem dX8_readsGate_153 : decode cX8_readsGate 153 = .ok (.iastore, 1) := by decide +kernel
theorem dX8_readsGate_154 : decode cX8_readsGate 154 = .ok (.iconst 1, 1) := by decide +kernel
theorem dX8_readsGate_155 : decode cX8_readsGate 155 = .ok (.ireturn, 1) := by decide +kernel
set_option maxRecDepth 20000 in
theorem ggX8_readsOutputs_X8_readsWire : GoodIn wsX8_readsOutputs wsX8_readsWire := goodIn_r _ [8, 1, 9, 10, 11, 7, 12, 13, 3, 2, 14, 15, 16, 17, 18, 19, 20, 21, 22, 23, 24, 25, 26, 27, 28, 29, 30, 31, 32, 33, 34, 35, 36, 37, 38, 39, 40, 41, 42, 43, 44, 45, 46, 47, 48, 49, 50, 51, 52, 53, 54, 55] (by decide +kernel) (by decide +kernel)
set_option maxRecDepth 20000 in
theorem gX8_readsOutputs_X8_readsWire : GoodIn wsX8_readsOutputs (wsV RX8 225 RX8 yX8_readsWire wsX8_readsWire) := goodIn_app (goodIn_of _ (by decide +kernel)) ggX8_readsOutputs_X8_readsWire
set_option maxRecDepth 20000 in
theorem ggX8_readsOutputs_X8_fails : GoodIn wsX8_readsOutputs wsX8_fails := goodIn_r _ [27, 28, 29, 33, 34, 35, 36, 37, 38, 39, 40, 41, 42, 43, 44, 45, 46, 47, 48, 49, 50, 51, 52, 53, 54, 55] (by decide +kernel) (by decide +kernel)
set_option maxRecDepth 20000 in
theorem gX8_readsOutputs_X8_fails : GoodIn wsX8_readsOutputs (wsV RX8 173 RX8 yX8_fails wsX8_fails) := goodIn_app (goodIn_of _ (by decide +kernel)) ggX8_readsOutputs_X8_fails
set_option maxRecDepth 20000 in
theorem ggX8_readsOutputs_X8_here : GoodIn wsX8_readsOutputs wsX8_here := goodIn_r _ [20, 13, 14, 15, 33, 34, 35, 36, 37, 38, 39, 40, 41, 42, 43, 44, 45, 46, 47, 48, 49, 50, 51, 52, 53, 54, 55] (by decide +kernel) (by decide +kernel)
set_option maxRecDepth 20000 in
theorem gX8_readsOutputs_X8_here : GoodIn wsX8_readsOutputs (wsV RX8 158 RX8 yX8_here wsX8_here) := goodIn_app (goodIn_of _ (by decide +kernel)) ggX8_readsOutputs_X8_here
set_option maxRecDepth 20000 in
theorem ggX8_readsOutputs_X8_isDigit : GoodIn wsX8_readsOutputs wsX8_isDigit := goodIn_r _ [23] (by decide +kernel) (by decide +kernel)
set_option maxRecDepth 20000 in
theorem gX8_readsOutputs_X8_isDigit : GoodIn wsX8_readsOutputs (va_wsS RX8 177 yX8_isDigit wsX8_isDigit) := goodIn_app (goodIn_of _ (by decide +kernel)) ggX8_readsOutputs_X8_isDigit
theorem dX8_readsOutputs_0 : decode cX8_readsOutputs 0 = .ok (.iconst 1, 1) := by decide +kernel
theorem dX8_readsOutputs_1 : decode cX8_readsOutputs 1 = .ok (.istore_n 1, 1) := by decide +kernel
theorem dX8_readsOutputs_2 : decode cX8_readsOutputs 2 = .ok (.iload_n 1, 1) := by decide +kernel
theorem dX8_readsOutputs_3 : decode cX8_readsOutputs 3 = .ok (.ifCond .eq 120, 3) := by decide +kernel
theorem dX8_readsOutputs_6 : decode cX8_readsOutputs 6 = .ok (.aload_n 0, 1) := by decide +kernel
theorem dX8_readsOutputs_7 : decode cX8_readsOutputs 7 = .ok (.invokevirtual 225, 3) := by decide +kernel
theorem dX8_readsOutputs_10 : decode cX8_readsOutputs 10 = .ok (.ifCond .ne 5, 3) := by decide +kernel
theorem dX8_readsOutputs_13 : decode cX8_readsOutputs 13 = .ok (.iconst 0, 1) := by decide +kernel
theorem dX8_readsOutputs_14 : decode cX8_readsOutputs 14 = .ok (.ireturn, 1) := by decide +kernel
theorem dX8_readsOutputs_15 : decode cX8_readsOutputs 15 = .ok (.iconst 0, 1) := by decide +kernel
theorem dX8_readsOutputs_16 : decode cX8_readsOutputs 16 = .ok (.istore_n 2, 1) := by decide +kernel
theorem dX8_readsOutputs_17 : decode cX8_readsOutputs 17 = .ok (.iload_n 2, 1) := by decide +kernel
theorem dX8_readsOutputs_18 : decode cX8_readsOutputs 18 = .ok (.aload_n 0, 1) := by decide +kernel
theorem dX8_readsOutputs_19 : decode cX8_readsOutputs 19 = .ok (.getfield 13, 3) := by decide +kernel
theorem dX8_readsOutputs_22 : decode cX8_readsOutputs 22 = .ok (.iconst 2, 1) := by decide +kernel
theorem dX8_readsOutputs_23 : decode cX8_readsOutputs 23 = .ok (.iaload, 1) := by decide +kernel
theorem dX8_readsOutputs_24 : decode cX8_readsOutputs 24 = .ok (.if_icmp .ge 37, 3) := by decide +kernel
theorem dX8_readsOutputs_27 : decode cX8_readsOutputs 27 = .ok (.aload_n 0, 1) := by decide +kernel
theorem dX8_readsOutputs_28 : decode cX8_readsOutputs 28 = .ok (.getfield 13, 3) := by decide +kernel
theorem dX8_readsOutputs_31 : decode cX8_readsOutputs 31 = .ok (.sipush 152, 3) := by decide +kernel
theorem dX8_readsOutputs_34 : decode cX8_readsOutputs 34 = .ok (.iload_n 2, 1) := by decide +kernel
theorem dX8_readsOutputs_35 : decode cX8_readsOutputs 35 = .ok (.iadd, 1) := by decide +kernel
theorem dX8_readsOutputs_36 : decode cX8_readsOutputs 36 = .ok (.iaload, 1) := by decide +kernel
theorem dX8_readsOutputs_37 : decode cX8_readsOutputs 37 = .ok (.aload_n 0, 1) := by decide +kernel
theorem dX8_readsOutputs_38 : decode cX8_readsOutputs 38 = .ok (.getfield 183, 3) := by decide +kernel
theorem dX8_readsOutputs_41 : decode cX8_readsOutputs 41 = .ok (.if_icmp .ne 14, 3) := by decide +kernel
theorem dX8_readsOutputs_44 : decode cX8_readsOutputs 44 = .ok (.aload_n 0, 1) := by decide +kernel
theorem dX8_readsOutputs_45 : decode cX8_readsOutputs 45 = .ok (.bipush (-4), 2) := by decide +kernel
theorem dX8_readsOutputs_47 : decode cX8_readsOutputs 47 = .ok (.aload_n 0, 1) := by decide +kernel
theorem dX8_readsOutputs_48 : decode cX8_readsOutputs 48 = .ok (.getfield 180, 3) := by decide +kernel
theorem dX8_readsOutputs_51 : decode cX8_readsOutputs 51 = .ok (.invokevirtual 173, 3) := by decide +kernel
theorem dX8_readsOutputs_54 : decode cX8_readsOutputs 54 = .ok (.ireturn, 1) := by decide +kernel
theorem dX8_readsOutputs_55 : decode cX8_readsOutputs 55 = .ok (.iinc 2 1, 3) := by decide +kernel
theorem dX8_readsOutputs_58 : decode cX8_readsOutputs 58 = .ok (.goto (-41), 3) := by decide +kernel
theorem dX8_readsOutputs_61 : decode cX8_readsOutputs 61 = .ok (.aload_n 0, 1) := by decide +kernel
theorem dX8_readsOutputs_62 : decode cX8_readsOutputs 62 = .ok (.getfield 13, 3) := by decide +kernel
theorem dX8_readsOutputs_65 : decode cX8_readsOutputs 65 = .ok (.iconst 2, 1) := by decide +kernel
theorem dX8_readsOutputs_66 : decode cX8_readsOutputs 66 = .ok (.iaload, 1) := by decide +kernel
theorem dX8_readsOutputs_67 : decode cX8_readsOutputs 67 = .ok (.bipush 6, 2) := by decide +kernel
theorem dX8_readsOutputs_69 : decode cX8_readsOutputs 69 = .ok (.if_icmp .ne 14, 3) := by decide +kernel
theorem dX8_readsOutputs_72 : decode cX8_readsOutputs 72 = .ok (.aload_n 0, 1) := by decide +kernel
theorem dX8_readsOutputs_73 : decode cX8_readsOutputs 73 = .ok (.bipush (-6), 2) := by decide +kernel
theorem dX8_readsOutputs_75 : decode cX8_readsOutputs 75 = .ok (.aload_n 0, 1) := by decide +kernel
theorem dX8_readsOutputs_76 : decode cX8_readsOutputs 76 = .ok (.getfield 180, 3) := by decide +kernel
theorem dX8_readsOutputs_79 : decode cX8_readsOutputs 79 = .ok (.invokevirtual 173, 3) := by decide +kernel
theorem dX8_readsOutputs_82 : decode cX8_readsOutputs 82 = .ok (.ireturn, 1) := by decide +kernel
theorem dX8_readsOutputs_83 : decode cX8_readsOutputs 83 = .ok (.aload_n 0, 1) := by decide +kernel
theorem dX8_readsOutputs_84 : decode cX8_readsOutputs 84 = .ok (.getfield 13, 3) := by decide +kernel
theorem dX8_readsOutputs_87 : decode cX8_readsOutputs 87 = .ok (.sipush 152, 3) := by decide +kernel
theorem dX8_readsOutputs_90 : decode cX8_readsOutputs 90 = .ok (.aload_n 0, 1) := by decide +kernel
theorem dX8_readsOutputs_91 : decode cX8_readsOutputs 91 = .ok (.getfield 13, 3) := by decide +kernel
theorem dX8_readsOutputs_94 : decode cX8_readsOutputs 94 = .ok (.iconst 2, 1) := by decide +kernel
theorem dX8_readsOutputs_95 : decode cX8_readsOutputs 95 = .ok (.iaload, 1) := by decide +kernel
theorem dX8_readsOutputs_96 : decode cX8_readsOutputs 96 = .ok (.iadd, 1) := by decide +kernel
theorem dX8_readsOutputs_97 : decode cX8_readsOutputs 97 = .ok (.aload_n 0, 1) := by decide +kernel
theorem dX8_readsOutputs_98 : decode cX8_readsOutputs 98 = .ok (.getfield 183, 3) := by decide +kernel
theorem dX8_readsOutputs_101 : decode cX8_readsOutputs 101 = .ok (.iastore, 1) := by decide +kernel
theorem dX8_readsOutputs_102 : decode cX8_readsOutputs 102 = .ok (.aload_n 0, 1) := by decide +kernel
theorem dX8_readsOutputs_103 : decode cX8_readsOutputs 103 = .ok (.getfield 13, 3) := by decide +kernel
theorem dX8_readsOutputs_106 : decode cX8_readsOutputs 106 = .ok (.iconst 2, 1) := by decide +kernel
theorem dX8_readsOutputs_107 : decode cX8_readsOutputs 107 = .ok (.dup2, 1) := by decide +kernel
theorem dX8_readsOutputs_108 : decode cX8_readsOutputs 108 = .ok (.iaload, 1) := by decide +kernel
theorem dX8_readsOutputs_109 : decode cX8_readsOutputs 109 = .ok (.iconst 1, 1) := by decide +kernel
theorem dX8_readsOutputs_110 : decode cX8_readsOutputs 110 = .ok (.iadd, 1) := by decide +kernel
theorem dX8_readsOutputs_111 : decode cX8_readsOutputs 111 = .ok (.iastore, 1) := by decide +kernel
theorem dX8_readsOutputs_112 : decode cX8_readsOutputs 112 = .ok (.aload_n 0, 1) := by decide +kernel
theorem dX8_readsOutputs_113 : decode cX8_readsOutputs 113 = .ok (.invokevirtual 158, 3) := by decide +kernel
theorem dX8_readsOutputs_116 : decode cX8_readsOutputs 116 = .ok (.invokestatic 177, 3) := by decide +kernel
theorem dX8_readsOutputs_119 : decode cX8_readsOutputs 119 = .ok (.istore_n 1, 1) := by decide +kernel
theorem dX8_readsOutputs_120 : decode cX8_readsOutputs 120 = .ok (.goto (-118), 3) := by decide +kernel
theorem dX8_readsOutputs_123 : decode cX8_readsOutputs 123 = .ok (.iconst 1, 1) := by decide +kernel
theorem dX8_readsOutputs_124 : decode cX8_readsOutputs 124 = .ok (.ireturn, 1) := by decide +kernel
theorem dX8_dependsOn_0 : decode cX8_dependsOn 0 = .ok (.iconst 0, 1) := by decide +kernel
theorem dX8_dependsOn_1 : decode cX8_dependsOn 1 = .ok (.istore_n 3, 1) := by decide +kernel
theorem dX8_dependsOn_2 : decode cX8_dependsOn 2 = .ok (.iload_n 3, 1) := by decide +kernel
theorem dX8_dependsOn_3 : decode cX8_dependsOn 3 = .ok (.iload_n 1, 1) := by decide +kernel
theorem dX8_dependsOn_4 : decode cX8_dependsOn 4 = .ok (.if_icmp .gt 90, 3) := by decide +kernel
theorem dX8_dependsOn_7 : decode cX8_dependsOn 7 = .ok (.aload_n 0, 1) := by decide +kernel
theorem dX8_dependsOn_8 : decode cX8_dependsOn 8 = .ok (.getfield 41, 3) := by decide +kernel
theorem dX8_dependsOn_11 : decode cX8_dependsOn 11 = .ok (.iload_n 3, 1) := by decide +kernel
theorem dX8_dependsOn_12 : decode cX8_dependsOn 12 = .ok (.iload_n 3, 1) := by decide +kernel
theorem dX8_dependsOn_13 : decode cX8_dependsOn 13 = .ok (.iload_n 2, 1) := by decide +kernel
theorem dX8_dependsOn_14 : decode cX8_dependsOn 14 = .ok (.if_icmp .ne 7, 3) := by decide +kernel
theorem dX8_dependsOn_17 : decode cX8_dependsOn 17 = .ok (.iconst 1, 1) := by decide +kernel
theorem dX8_dependsOn_18 : decode cX8_dependsOn 18 = .ok (.goto 4, 3) := by decide +kernel
theorem dX8_dependsOn_21 : decode cX8_dependsOn 21 = .ok (.iconst 0, 1) := by decide +kernel
theorem dX8_dependsOn_22 : decode cX8_dependsOn 22 = .ok (.bastore, 1) := by decide +kernel
theorem dX8_dependsOn_23 : decode cX8_dependsOn 23 = .ok (.iconst 0, 1) := by decide +kernel
theorem dX8_dependsOn_24 : decode cX8_dependsOn 24 = .ok (.istore 4, 2) := by decide +kernel
theorem dX8_dependsOn_26 : decode cX8_dependsOn 26 = .ok (.iload 4, 2) := by decide +kernel
theorem dX8_dependsOn_28 : decode cX8_dependsOn 28 = .ok (.aload_n 0, 1) := by decide +kernel
theorem dX8_dependsOn_29 : decode cX8_dependsOn 29 = .ok (.getfield 13, 3) := by decide +kernel
theorem dX8_dependsOn_32 : decode cX8_dependsOn 32 = .ok (.bipush 32, 2) := by decide +kernel
theorem dX8_dependsOn_34 : decode cX8_dependsOn 34 = .ok (.iload_n 3, 1) := by decide +kernel
theorem dX8_dependsOn_35 : decode cX8_dependsOn 35 = .ok (.iadd, 1) := by decide +kernel
theorem dX8_dependsOn_36 : decode cX8_dependsOn 36 = .ok (.iaload, 1) := by decide +kernel
theorem dX8_dependsOn_37 : decode cX8_dependsOn 37 = .ok (.if_icmp .ge 51, 3) := by decide +kernel
theorem dX8_dependsOn_40 : decode cX8_dependsOn 40 = .ok (.aload_n 0, 1) := by decide +kernel
theorem dX8_dependsOn_41 : decode cX8_dependsOn 41 = .ok (.getfield 41, 3) := by decide +kernel
theorem dX8_dependsOn_44 : decode cX8_dependsOn 44 = .ok (.iload_n 3, 1) := by decide +kernel
theorem dX8_dependsOn_45 : decode cX8_dependsOn 45 = .ok (.aload_n 0, 1) := by decide +kernel
theorem dX8_dependsOn_46 : decode cX8_dependsOn 46 = .ok (.getfield 41, 3) := by decide +kernel
theorem dX8_dependsOn_49 : decode cX8_dependsOn 49 = .ok (.iload_n 3, 1) := by decide +kernel
theorem dX8_dependsOn_50 : decode cX8_dependsOn 50 = .ok (.baload, 1) := by decide +kernel
theorem dX8_dependsOn_51 : decode cX8_dependsOn 51 = .ok (.ifCond .ne 25, 3) := by decide +kernel
theorem dX8_dependsOn_54 : decode cX8_dependsOn 54 = .ok (.aload_n 0, 1) := by decide +kernel
theorem dX8_dependsOn_55 : decode cX8_dependsOn 55 = .ok (.getfield 41, 3) := by decide +kernel
theorem dX8_dependsOn_58 : decode cX8_dependsOn 58 = .ok (.aload_n 0, 1) := by decide +kernel
theorem dX8_dependsOn_59 : decode cX8_dependsOn 59 = .ok (.getfield 13, 3) := by decide +kernel
theorem dX8_dependsOn_62 : decode cX8_dependsOn 62 = .ok (.bipush 56, 2) := by decide +kernel
theorem dX8_dependsOn_64 : decode cX8_dependsOn 64 = .ok (.iconst 4, 1) := by decide +kernel
theorem dX8_dependsOn_65 : decode cX8_dependsOn 65 = .ok (.iload_n 3, 1) := by decide +kernel
theorem dX8_dependsOn_66 : decode cX8_dependsOn 66 = .ok (.imul, 1) := by decide +kernel
theorem dX8_dependsOn_67 : decode cX8_dependsOn 67 = .ok (.iadd, 1) := by decide +kernel
theorem dX8_dependsOn_68 : decode cX8_dependsOn 68 = .ok (.iload 4, 2) := by decide +kernel
theorem dX8_dependsOn_70 : decode cX8_dependsOn 70 = .ok (.iadd, 1) := by decide +kernel
theorem dX8_dependsOn_71 : decode cX8_dependsOn 71 = .ok (.iaload, 1) := by decide +kernel
theorem dX8_dependsOn_72 : decode cX8_dependsOn 72 = .ok (.baload, 1) := by decide +kernel
theorem dX8_dependsOn_73 : decode cX8_dependsOn 73 = .ok (.ifCond .eq 7, 3) := by decide +kernel
theorem dX8_dependsOn_76 : decode cX8_dependsOn 76 = .ok (.iconst 1, 1) := by decide +kernel
theorem dX8_dependsOn_77 : decode cX8_dependsOn 77 = .ok (.goto 4, 3) := by decide +kernel
theorem dX8_dependsOn_80 : decode cX8_dependsOn 80 = .ok (.iconst 0, 1) := by decide +kernel
theorem dX8_dependsOn_81 : decode cX8_dependsOn 81 = .ok (.bastore, 1) := by decide +kernel
theorem dX8_dependsOn_82 : decode cX8_dependsOn 82 = .ok (.iinc 4 1, 3) := by decide +kernel
theorem dX8_dependsOn_85 : decode cX8_dependsOn 85 = .ok (.goto (-59), 3) := by decide +kernel
theorem dX8_dependsOn_88 : decode cX8_dependsOn 88 = .ok (.iinc 3 1, 3) := by decide +kernel
theorem dX8_dependsOn_91 : decode cX8_dependsOn 91 = .ok (.goto (-89), 3) := by decide +kernel
theorem dX8_dependsOn_94 : decode cX8_dependsOn 94 = .ok (.iload_n 1, 1) := by decide +kernel
theorem dX8_dependsOn_95 : decode cX8_dependsOn 95 = .ok (.iload_n 2, 1) := by decide +kernel
theorem dX8_dependsOn_96 : decode cX8_dependsOn 96 = .ok (.if_icmp .eq 16, 3) := by decide +kernel
theorem dX8_dependsOn_99 : decode cX8_dependsOn 99 = .ok (.aload_n 0, 1) := by decide +kernel
theorem dX8_dependsOn_100 : decode cX8_dependsOn 100 = .ok (.getfield 41, 3) := by decide +kernel
theorem dX8_dependsOn_103 : decode cX8_dependsOn 103 = .ok (.iload_n 1, 1) := by decide +kernel
theorem dX8_dependsOn_104 : decode cX8_dependsOn 104 = .ok (.baload, 1) := by decide +kernel
theorem dX8_dependsOn_105 : decode cX8_dependsOn 105 = .ok (.ifCond .eq 7, 3) := by decide +kernel
theorem dX8_dependsOn_108 : decode cX8_dependsOn 108 = .ok (.iconst 1, 1) := by decide +kernel
theorem dX8_dependsOn_109 : decode cX8_dependsOn 109 = .ok (.goto 4, 3) := by decide +kernel
theorem dX8_dependsOn_112 : decode cX8_dependsOn 112 = .ok (.iconst 0, 1) := by decide +kernel
theorem dX8_dependsOn_113 : decode cX8_dependsOn 113 = .ok (.ireturn, 1) := by decide +kernel
set_option maxRecDepth 20000 in
theorem ggX8_readsBridge_X8_fails : GoodIn wsX8_readsBridge wsX8_fails := goodIn_r _ [9, 10, 11, 94, 95, 96, 97, 98, 99, 100, 101, 102, 103, 104, 105, 106, 107, 108, 109, 110, 111, 112, 113, 114, 115, 116] (by decide +kernel) (by decide +kernel)
set_option maxRecDepth 20000 in
theorem gX8_readsBridge_X8_fails : GoodIn wsX8_readsBridge (wsV RX8 173 RX8 yX8_fails wsX8_fails) := goodIn_app (goodIn_of _ (by decide +kernel)) ggX8_readsBridge_X8_fails
set_option maxRecDepth 20000 in
theorem ggX8_readsBridge_X8_takes : GoodIn wsX8_readsBridge wsX8_takes := goodIn_r _ [15, 2, 16, 17, 18, 19, 20, 8, 21, 22, 23, 24, 25, 26, 27, 28, 29, 30, 31, 32, 33, 34, 35, 36, 37, 38, 39, 40, 41, 42, 43, 44, 45, 46, 47, 48, 49, 50, 51, 52, 53, 54, 55, 56, 57, 58, 59, 60, 61, 62, 63, 64, 65, 66, 67, 68, 69, 70, 71, 72, 73, 94, 95, 96, 97, 98, 99, 100, 101, 102, 103, 104, 105, 106, 107, 108, 109, 110, 111, 112, 113, 114, 115, 116] (by decide +kernel) (by decide +kernel)
set_option maxRecDepth 20000 in
theorem gX8_readsBridge_X8_takes : GoodIn wsX8_readsBridge (wsV RX8 196 RX8 yX8_takes wsX8_takes) := goodIn_app (goodIn_of _ (by decide +kernel)) ggX8_readsBridge_X8_takes
set_option maxRecDepth 20000 in
theorem ggX8_readsBridge_X8_readsWire : GoodIn wsX8_readsBridge wsX8_readsWire := goodIn_r _ [77, 1, 78, 79, 80, 8, 81, 2, 4, 3, 16, 17, 82, 18, 19, 20, 21, 83, 84, 85, 5, 6, 7, 9, 10, 11, 86, 87, 88, 94, 95, 96, 97, 98, 99, 100, 101, 102, 103, 104, 105, 106, 107, 108, 109, 110, 111, 112, 113, 114, 115, 116] (by decide +kernel) (by decide +kernel)
set_option maxRecDepth 20000 in
theorem gX8_readsBridge_X8_readsWire : GoodIn wsX8_readsBridge (wsV RX8 225 RX8 yX8_readsWire wsX8_readsWire) := goodIn_app (goodIn_of _ (by decide +kernel)) ggX8_readsBridge_X8_readsWire
set_option maxRecDepth 20000 in
theorem ggX8_readsBridge_X8_dependsOn : GoodIn wsX8_readsBridge wsX8_dependsOn := goodIn_r _ [92, 93, 1, 94, 95, 96, 97, 98, 99, 100, 101, 102, 103, 104, 105, 106, 107, 108, 109, 110, 111, 112, 113, 114, 115, 116] (by decide +kernel) (by decide +kernel)
set_option maxRecDepth 20000 in
theorem gX8_readsBridge_X8_dependsOn : GoodIn wsX8_readsBridge (wsV RX8 229 RX8 yX8_dependsOn wsX8_dependsOn) := goodIn_app (goodIn_of _ (by decide +kernel)) ggX8_readsBridge_X8_dependsOn
theorem dX8_readsBridge_0 : decode cX8_readsBridge 0 = .ok (.aload_n 0, 1) := by decide +kernel
theorem dX8_readsBridge_1 : decode cX8_readsBridge 1 = .ok (.getfield 13, 3) := by decide +kernel
theorem dX8_readsBridge_4 : decode cX8_readsBridge 4 = .ok (.iconst 3, 1) := by decide +kernel
theorem dX8_readsBridge_5 : decode cX8_readsBridge 5 = .ok (.iaload, 1) := by decide +kernel
theorem dX8_readsBridge_6 : decode cX8_readsBridge 6 = .ok (.bipush 8, 2) := by decide +kernel
theorem dX8_readsBridge_8 : decode cX8_readsBridge 8 = .ok (.if_icmp .ne 11, 3) := by decide +kernel
theorem dX8_readsBridge_11 : decode cX8_readsBridge 11 = .ok (.aload_n 0, 1) := by decide +kernel
theorem dX8_readsBridge_12 : decode cX8_readsBridge 12 = .ok (.bipush (-6), 2) := by decide +kernel
theorem dX8_readsBridge_14 : decode cX8_readsBridge 14 = .ok (.iload_n 1, 1) := by decide +kernel
theorem dX8_readsBridge_15 : decode cX8_readsBridge 15 = .ok (.invokevirtual 173, 3) := by decide +kernel
theorem dX8_readsBridge_18 : decode cX8_readsBridge 18 = .ok (.ireturn, 1) := by decide +kernel
theorem dX8_readsBridge_19 : decode cX8_readsBridge 19 = .ok (.aload_n 0, 1) := by decide +kernel
theorem dX8_readsBridge_20 : decode cX8_readsBridge 20 = .ok (.ldc 194, 2) := by decide +kernel
theorem dX8_readsBridge_22 : decode cX8_readsBridge 22 = .ok (.invokevirtual 196, 3) := by decide +kernel
theorem dX8_readsBridge_25 : decode cX8_readsBridge 25 = .ok (.ifCond .eq 7, 3) := by decide +kernel
theorem dX8_readsBridge_28 : decode cX8_readsBridge 28 = .ok (.iconst 0, 1) := by decide +kernel
theorem dX8_readsBridge_29 : decode cX8_readsBridge 29 = .ok (.goto 17, 3) := by decide +kernel
theorem dX8_readsBridge_32 : decode cX8_readsBridge 32 = .ok (.aload_n 0, 1) := by decide +kernel
theorem dX8_readsBridge_33 : decode cX8_readsBridge 33 = .ok (.ldc 200, 2) := by decide +kernel
theorem dX8_readsBridge_35 : decode cX8_readsBridge 35 = .ok (.invokevirtual 196, 3) := by decide +kernel
theorem dX8_readsBridge_38 : decode cX8_readsBridge 38 = .ok (.ifCond .eq 7, 3) := by decide +kernel
theorem dX8_readsBridge_41 : decode cX8_readsBridge 41 = .ok (.iconst 1, 1) := by decide +kernel
theorem dX8_readsBridge_42 : decode cX8_readsBridge 42 = .ok (.goto 4, 3) := by decide +kernel
theorem dX8_readsBridge_45 : decode cX8_readsBridge 45 = .ok (.iconst (-1), 1) := by decide +kernel
theorem dX8_readsBridge_46 : decode cX8_readsBridge 46 = .ok (.istore_n 2, 1) := by decide +kernel
theorem dX8_readsBridge_47 : decode cX8_readsBridge 47 = .ok (.iload_n 2, 1) := by decide +kernel
theorem dX8_readsBridge_48 : decode cX8_readsBridge 48 = .ok (.iconst (-1), 1) := by decide +kernel
theorem dX8_readsBridge_49 : decode cX8_readsBridge 49 = .ok (.if_icmp .ne 14, 3) := by decide +kernel
theorem dX8_readsBridge_52 : decode cX8_readsBridge 52 = .ok (.aload_n 0, 1) := by decide +kernel
theorem dX8_readsBridge_53 : decode cX8_readsBridge 53 = .ok (.bipush (-2), 2) := by decide +kernel
theorem dX8_readsBridge_55 : decode cX8_readsBridge 55 = .ok (.aload_n 0, 1) := by decide +kernel
theorem dX8_readsBridge_56 : decode cX8_readsBridge 56 = .ok (.getfield 152, 3) := by decide +kernel
theorem dX8_readsBridge_59 : decode cX8_readsBridge 59 = .ok (.invokevirtual 173, 3) := by decide +kernel
theorem dX8_readsBridge_62 : decode cX8_readsBridge 62 = .ok (.ireturn, 1) := by decide +kernel
theorem dX8_readsBridge_63 : decode cX8_readsBridge 63 = .ok (.aload_n 0, 1) := by decide +kernel
theorem dX8_readsBridge_64 : decode cX8_readsBridge 64 = .ok (.invokevirtual 225, 3) := by decide +kernel
theorem dX8_readsBridge_67 : decode cX8_readsBridge 67 = .ok (.ifCond .ne 5, 3) := by decide +kernel
theorem dX8_readsBridge_70 : decode cX8_readsBridge 70 = .ok (.iconst 0, 1) := by decide +kernel
theorem dX8_readsBridge_71 : decode cX8_readsBridge 71 = .ok (.ireturn, 1) := by decide +kernel
theorem dX8_readsBridge_72 : decode cX8_readsBridge 72 = .ok (.aload_n 0, 1) := by decide +kernel
theorem dX8_readsBridge_73 : decode cX8_readsBridge 73 = .ok (.getfield 183, 3) := by decide +kernel
theorem dX8_readsBridge_76 : decode cX8_readsBridge 76 = .ok (.istore_n 3, 1) := by decide +kernel
theorem dX8_readsBridge_77 : decode cX8_readsBridge 77 = .ok (.aload_n 0, 1) := by decide +kernel
theorem dX8_readsBridge_78 : decode cX8_readsBridge 78 = .ok (.invokevirtual 225, 3) := by decide +kernel
theorem dX8_readsBridge_81 : decode cX8_readsBridge 81 = .ok (.ifCond .ne 5, 3) := by decide +kernel
theorem dX8_readsBridge_84 : decode cX8_readsBridge 84 = .ok (.iconst 0, 1) := by decide +kernel
theorem dX8_readsBridge_85 : decode cX8_readsBridge 85 = .ok (.ireturn, 1) := by decide +kernel
theorem dX8_readsBridge_86 : decode cX8_readsBridge 86 = .ok (.iload_n 3, 1) := by decide +kernel
theorem dX8_readsBridge_87 : decode cX8_readsBridge 87 = .ok (.aload_n 0, 1) := by decide +kernel
theorem dX8_readsBridge_88 : decode cX8_readsBridge 88 = .ok (.getfield 183, 3) := by decide +kernel
theorem dX8_readsBridge_91 : decode cX8_readsBridge 91 = .ok (.if_icmp .eq 27, 3) := by decide +kernel
theorem dX8_readsBridge_94 : decode cX8_readsBridge 94 = .ok (.aload_n 0, 1) := by decide +kernel
theorem dX8_readsBridge_95 : decode cX8_readsBridge 95 = .ok (.iload_n 3, 1) := by decide +kernel
theorem dX8_readsBridge_96 : decode cX8_readsBridge 96 = .ok (.aload_n 0, 1) := by decide +kernel
theorem dX8_readsBridge_97 : decode cX8_readsBridge 97 = .ok (.getfield 183, 3) := by decide +kernel
theorem dX8_readsBridge_100 : decode cX8_readsBridge 100 = .ok (.invokevirtual 229, 3) := by decide +kernel
theorem dX8_readsBridge_103 : decode cX8_readsBridge 103 = .ok (.ifCond .ne 15, 3) := by decide +kernel
theorem dX8_readsBridge_106 : decode cX8_readsBridge 106 = .ok (.aload_n 0, 1) := by decide +kernel
theorem dX8_readsBridge_107 : decode cX8_readsBridge 107 = .ok (.aload_n 0, 1) := by decide +kernel
theorem dX8_readsBridge_108 : decode cX8_readsBridge 108 = .ok (.getfield 183, 3) := by decide +kernel
theorem dX8_readsBridge_111 : decode cX8_readsBridge 111 = .ok (.iload_n 3, 1) := by decide +kernel
theorem dX8_readsBridge_112 : decode cX8_readsBridge 112 = .ok (.invokevirtual 229, 3) := by decide +kernel
theorem dX8_readsBridge_115 : decode cX8_readsBridge 115 = .ok (.ifCond .eq 14, 3) := by decide +kernel
theorem dX8_readsBridge_118 : decode cX8_readsBridge 118 = .ok (.aload_n 0, 1) := by decide +kernel
theorem dX8_readsBridge_119 : decode cX8_readsBridge 119 = .ok (.bipush (-5), 2) := by decide +kernel
theorem dX8_readsBridge_121 : decode cX8_readsBridge 121 = .ok (.aload_n 0, 1) := by decide +kernel
theorem dX8_readsBridge_122 : decode cX8_readsBridge 122 = .ok (.getfield 180, 3) := by decide +kernel
theorem dX8_readsBridge_125 : decode cX8_readsBridge 125 = .ok (.invokevirtual 173, 3) := by decide +kernel
theorem dX8_readsBridge_128 : decode cX8_readsBridge 128 = .ok (.ireturn, 1) := by decide +kernel
theorem dX8_readsBridge_129 : decode cX8_readsBridge 129 = .ok (.sipush 158, 3) := by decide +kernel
theorem dX8_readsBridge_132 : decode cX8_readsBridge 132 = .ok (.iconst 3, 1) := by decide +kernel
theorem dX8_readsBridge_133 : decode cX8_readsBridge 133 = .ok (.aload_n 0, 1) := by decide +kernel
theorem dX8_readsBridge_134 : decode cX8_readsBridge 134 = .ok (.getfield 13, 3) := by decide +kernel
theorem dX8_readsBridge_137 : decode cX8_readsBridge 137 = .ok (.iconst 3, 1) := by decide +kernel
theorem dX8_readsBridge_138 : decode cX8_readsBridge 138 = .ok (.iaload, 1) := by decide +kernel
theorem dX8_readsBridge_139 : decode cX8_readsBridge 139 = .ok (.imul, 1) := by decide +kernel
theorem dX8_readsBridge_140 : decode cX8_readsBridge 140 = .ok (.iadd, 1) := by decide +kernel
theorem dX8_readsBridge_141 : decode cX8_readsBridge 141 = .ok (.istore 4, 2) := by decide +kernel
theorem dX8_readsBridge_143 : decode cX8_readsBridge 143 = .ok (.aload_n 0, 1) := by decide +kernel
theorem dX8_readsBridge_144 : decode cX8_readsBridge 144 = .ok (.getfield 13, 3) := by decide +kernel
theorem dX8_readsBridge_147 : decode cX8_readsBridge 147 = .ok (.iload 4, 2) := by decide +kernel
theorem dX8_readsBridge_149 : decode cX8_readsBridge 149 = .ok (.iload_n 2, 1) := by decide +kernel
theorem dX8_readsBridge_150 : decode cX8_readsBridge 150 = .ok (.iastore, 1) := by decide +kernel
theorem dX8_readsBridge_151 : decode cX8_readsBridge 151 = .ok (.aload_n 0, 1) := by decide +kernel
theorem dX8_readsBridge_152 : decode cX8_readsBridge 152 = .ok (.getfield 13, 3) := by decide +kernel
theorem dX8_readsBridge_155 : decode cX8_readsBridge 155 = .ok (.iload 4, 2) := by decide +kernel
theorem dX8_readsBridge_157 : decode cX8_readsBridge 157 = .ok (.iconst 1, 1) := by decide +kernel
theorem dX8_readsBridge_158 : decode cX8_readsBridge 158 = .ok (.iadd, 1) := by decide +kernel
theorem dX8_readsBridge_159 : decode cX8_readsBridge 159 = .ok (.iload_n 3, 1) := by decide +kernel
theorem dX8_readsBridge_160 : decode cX8_readsBridge 160 = .ok (.iastore, 1) := by decide +kernel
theorem dX8_readsBridge_161 : decode cX8_readsBridge 161 = .ok (.aload_n 0, 1) := by decide +kernel
theorem dX8_readsBridge_162 : decode cX8_readsBridge 162 = .ok (.getfield 13, 3) := by decide +kernel
theorem dX8_readsBridge_165 : decode cX8_readsBridge 165 = .ok (.iload 4, 2) := by decide +kernel
theorem dX8_readsBridge_167 : decode cX8_readsBridge 167 = .ok (.iconst 2, 1) := by decide +kernel
theorem dX8_readsBridge_168 : decode cX8_readsBridge 168 = .ok (.iadd, 1) := by decide +kernel
theorem dX8_readsBridge_169 : decode cX8_readsBridge 169 = .ok (.aload_n 0, 1) := by decide +kernel
theorem dX8_readsBridge_170 : decode cX8_readsBridge 170 = .ok (.getfield 183, 3) := by decide +kernel
theorem dX8_readsBridge_173 : decode cX8_readsBridge 173 = .ok (.iastore, 1) := by decide +kernel
theorem dX8_readsBridge_174 : decode cX8_readsBridge 174 = .ok (.aload_n 0, 1) := by decide +kernel
theorem dX8_readsBridge_175 : decode cX8_readsBridge 175 = .ok (.getfield 13, 3) := by decide +kernel
theorem dX8_readsBridge_178 : decode cX8_readsBridge 178 = .ok (.iconst 3, 1) := by decide +kernel
theorem dX8_readsBridge_179 : decode cX8_readsBridge 179 = .ok (.dup2, 1) := by decide +kernel
theorem dX8_readsBridge_180 : decode cX8_readsBridge 180 = .ok (.iaload, 1) := by decide +kernel
theorem dX8_readsBridge_181 : decode cX8_readsBridge 181 = .ok (.iconst 1, 1) := by decide +kernel
theorem dX8_readsBridge_182 : decode cX8_readsBridge 182 = .ok (.iadd, 1) := by decide +kernel
theorem dX8_readsBridge_183 : decode cX8_readsBridge 183 = .ok (.iastore, 1) := by decide +kernel
theorem dX8_readsBridge_184 : decode cX8_readsBridge 184 = .ok (.iconst 1, 1) := by decide +kernel
theorem dX8_readsBridge_185 : decode cX8_readsBridge 185 = .ok (.ireturn, 1) := by decide +kernel
set_option maxRecDepth 20000 in
theorem ggX8_readsTest_X8_fails : GoodIn wsX8_readsTest wsX8_fails := goodIn_r _ [7, 8, 9, 85, 86, 87, 88, 89, 90, 91, 92, 93, 94, 95, 96, 97, 98, 99, 100, 101, 102, 103, 104, 105, 106, 107] (by decide +kernel) (by decide +kernel)
set_option maxRecDepth 20000 in
theorem gX8_readsTest_X8_fails : GoodIn wsX8_readsTest (wsV RX8 173 RX8 yX8_fails wsX8_fails) := goodIn_app (goodIn_of _ (by decide +kernel)) ggX8_readsTest_X8_fails
set_option maxRecDepth 20000 in
theorem ggX8_readsTest_X8_takes : GoodIn wsX8_readsTest wsX8_takes := goodIn_r _ [13, 14, 15, 16, 17, 18, 19, 6, 20, 21, 22, 23, 24, 25, 26, 27, 28, 29, 30, 31, 32, 33, 34, 35, 36, 37, 38, 39, 40, 41, 42, 43, 44, 45, 46, 47, 48, 49, 50, 51, 52, 53, 54, 55, 56, 57, 58, 59, 60, 61, 62, 63, 64, 65, 66, 67, 68, 69, 70, 71, 72, 85, 86, 87, 88, 89, 90, 91, 92, 93, 94, 95, 96, 97, 98, 99, 100, 101, 102, 103, 104, 105, 106, 107] (by decide +kernel) (by decide +kernel)
set_option maxRecDepth 20000 in
theorem gX8_readsTest_X8_takes : GoodIn wsX8_readsTest (wsV RX8 196 RX8 yX8_takes wsX8_takes) := goodIn_app (goodIn_of _ (by decide +kernel)) ggX8_readsTest_X8_takes
set_option maxRecDepth 20000 in
theorem ggX8_readsTest_X8_reads : GoodIn wsX8_readsTest wsX8_reads := goodIn_r _ [76, 14, 77, 2, 15, 16, 78, 17, 18, 19, 6, 20, 79, 80, 81, 3, 4, 5, 7, 8, 9, 82, 83, 84, 85, 86, 87, 88, 89, 90, 91, 92, 93, 94, 95, 96, 97, 98, 99, 100, 101, 102, 103, 104, 105, 106, 107] (by decide +kernel) (by decide +kernel)
set_option maxRecDepth 20000 in
theorem gX8_readsTest_X8_reads : GoodIn wsX8_readsTest (wsV RX8 191 RX8 yX8_reads wsX8_reads) := goodIn_app (goodIn_of _ (by decide +kernel)) ggX8_readsTest_X8_reads
theorem dX8_readsTest_0 : decode cX8_readsTest 0 = .ok (.aload_n 0, 1) := by decide +kernel
theorem dX8_readsTest_1 : decode cX8_readsTest 1 = .ok (.getfield 13, 3) := by decide +kernel
theorem dX8_readsTest_4 : decode cX8_readsTest 4 = .ok (.iconst 4, 1) := by decide +kernel
theorem dX8_readsTest_5 : decode cX8_readsTest 5 = .ok (.iaload, 1) := by decide +kernel
theorem dX8_readsTest_6 : decode cX8_readsTest 6 = .ok (.bipush 16, 2) := by decide +kernel
theorem dX8_readsTest_8 : decode cX8_readsTest 8 = .ok (.if_icmp .ne 11, 3) := by decide +kernel
theorem dX8_readsTest_11 : decode cX8_readsTest 11 = .ok (.aload_n 0, 1) := by decide +kernel
theorem dX8_readsTest_12 : decode cX8_readsTest 12 = .ok (.bipush (-6), 2) := by decide +kernel
theorem dX8_readsTest_14 : decode cX8_readsTest 14 = .ok (.iload_n 1, 1) := by decide +kernel
theorem dX8_readsTest_15 : decode cX8_readsTest 15 = .ok (.invokevirtual 173, 3) := by decide +kernel
theorem dX8_readsTest_18 : decode cX8_readsTest 18 = .ok (.ireturn, 1) := by decide +kernel
theorem dX8_readsTest_19 : decode cX8_readsTest 19 = .ok (.sipush 182, 3) := by decide +kernel
theorem dX8_readsTest_22 : decode cX8_readsTest 22 = .ok (.bipush 8, 2) := by decide +kernel
theorem dX8_readsTest_24 : decode cX8_readsTest 24 = .ok (.aload_n 0, 1) := by decide +kernel
theorem dX8_readsTest_25 : decode cX8_readsTest 25 = .ok (.getfield 13, 3) := by decide +kernel
theorem dX8_readsTest_28 : decode cX8_readsTest 28 = .ok (.iconst 4, 1) := by decide +kernel
theorem dX8_readsTest_29 : decode cX8_readsTest 29 = .ok (.iaload, 1) := by decide +kernel
theorem dX8_readsTest_30 : decode cX8_readsTest 30 = .ok (.imul, 1) := by decide +kernel
theorem dX8_readsTest_31 : decode cX8_readsTest 31 = .ok (.iadd, 1) := by decide +kernel
theorem dX8_readsTest_32 : decode cX8_readsTest 32 = .ok (.istore_n 2, 1) := by decide +kernel
theorem dX8_readsTest_33 : decode cX8_readsTest 33 = .ok (.iconst 0, 1) := by decide +kernel
theorem dX8_readsTest_34 : decode cX8_readsTest 34 = .ok (.istore_n 3, 1) := by decide +kernel
theorem dX8_readsTest_35 : decode cX8_readsTest 35 = .ok (.iload_n 3, 1) := by decide +kernel
theorem dX8_readsTest_36 : decode cX8_readsTest 36 = .ok (.aload_n 0, 1) := by decide +kernel
theorem dX8_readsTest_37 : decode cX8_readsTest 37 = .ok (.getfield 13, 3) := by decide +kernel
theorem dX8_readsTest_40 : decode cX8_readsTest 40 = .ok (.iconst 0, 1) := by decide +kernel
theorem dX8_readsTest_41 : decode cX8_readsTest 41 = .ok (.iaload, 1) := by decide +kernel
theorem dX8_readsTest_42 : decode cX8_readsTest 42 = .ok (.if_icmp .ge 54, 3) := by decide +kernel
theorem dX8_readsTest_45 : decode cX8_readsTest 45 = .ok (.aload_n 0, 1) := by decide +kernel
theorem dX8_readsTest_46 : decode cX8_readsTest 46 = .ok (.ldc 232, 2) := by decide +kernel
theorem dX8_readsTest_48 : decode cX8_readsTest 48 = .ok (.invokevirtual 196, 3) := by decide +kernel
theorem dX8_readsTest_51 : decode cX8_readsTest 51 = .ok (.istore 4, 2) := by decide +kernel
theorem dX8_readsTest_53 : decode cX8_readsTest 53 = .ok (.iload 4, 2) := by decide +kernel
theorem dX8_readsTest_55 : decode cX8_readsTest 55 = .ok (.ifCond .ne 14, 3) := by decide +kernel
theorem dX8_readsTest_58 : decode cX8_readsTest 58 = .ok (.aload_n 0, 1) := by decide +kernel
theorem dX8_readsTest_59 : decode cX8_readsTest 59 = .ok (.iconst 0, 1) := by decide +kernel
theorem dX8_readsTest_60 : decode cX8_readsTest 60 = .ok (.iconst 1, 1) := by decide +kernel
theorem dX8_readsTest_61 : decode cX8_readsTest 61 = .ok (.invokevirtual 191, 3) := by decide +kernel
theorem dX8_readsTest_64 : decode cX8_readsTest 64 = .ok (.ifCond .ne 5, 3) := by decide +kernel
theorem dX8_readsTest_67 : decode cX8_readsTest 67 = .ok (.iconst 0, 1) := by decide +kernel
theorem dX8_readsTest_68 : decode cX8_readsTest 68 = .ok (.ireturn, 1) := by decide +kernel
theorem dX8_readsTest_69 : decode cX8_readsTest 69 = .ok (.aload_n 0, 1) := by decide +kernel
theorem dX8_readsTest_70 : decode cX8_readsTest 70 = .ok (.getfield 13, 3) := by decide +kernel
theorem dX8_readsTest_73 : decode cX8_readsTest 73 = .ok (.iload_n 2, 1) := by decide +kernel
theorem dX8_readsTest_74 : decode cX8_readsTest 74 = .ok (.iload_n 3, 1) := by decide +kernel
theorem dX8_readsTest_75 : decode cX8_readsTest 75 = .ok (.iadd, 1) := by decide +kernel
theorem dX8_readsTest_76 : decode cX8_readsTest 76 = .ok (.iload 4, 2) := by decide +kernel
theorem dX8_readsTest_78 : decode cX8_readsTest 78 = .ok (.ifCond .eq 7, 3) := by decide +kernel
theorem dX8_readsTest_81 : decode cX8_readsTest 81 = .ok (.iconst 2, 1) := by decide +kernel
theorem dX8_readsTest_82 : decode cX8_readsTest 82 = .ok (.goto 7, 3) := by decide +kernel
theorem dX8_readsTest_85 : decode cX8_readsTest 85 = .ok (.aload_n 0, 1) := by decide +kernel
theorem dX8_readsTest_86 : decode cX8_readsTest 86 = .ok (.getfield 183, 3) := by decide +kernel
theorem dX8_readsTest_89 : decode cX8_readsTest 89 = .ok (.iastore, 1) := by decide +kernel
theorem dX8_readsTest_90 : decode cX8_readsTest 90 = .ok (.iinc 3 1, 3) := by decide +kernel
theorem dX8_readsTest_93 : decode cX8_readsTest 93 = .ok (.goto (-58), 3) := by decide +kernel
theorem dX8_readsTest_96 : decode cX8_readsTest 96 = .ok (.aload_n 0, 1) := by decide +kernel
theorem dX8_readsTest_97 : decode cX8_readsTest 97 = .ok (.getfield 13, 3) := by decide +kernel
theorem dX8_readsTest_100 : decode cX8_readsTest 100 = .ok (.iconst 4, 1) := by decide +kernel
theorem dX8_readsTest_101 : decode cX8_readsTest 101 = .ok (.dup2, 1) := by decide +kernel
theorem dX8_readsTest_102 : decode cX8_readsTest 102 = .ok (.iaload, 1) := by decide +kernel
theorem dX8_readsTest_103 : decode cX8_readsTest 103 = .ok (.iconst 1, 1) := by decide +kernel
theorem dX8_readsTest_104 : decode cX8_readsTest 104 = .ok (.iadd, 1) := by decide +kernel
theorem dX8_readsTest_105 : decode cX8_readsTest 105 = .ok (.iastore, 1) := by decide +kernel
theorem dX8_readsTest_106 : decode cX8_readsTest 106 = .ok (.iconst 1, 1) := by decide +kernel
theorem dX8_readsTest_107 : decode cX8_readsTest 107 = .ok (.ireturn, 1) := by decide +kernel
set_option maxRecDepth 20000 in
theorem ggX8_readsLine_X8_takes : GoodIn wsX8_readsLine wsX8_takes := goodIn_r _ [6, 1, 7, 8, 9, 10, 11, 5, 12, 13, 14, 15, 16, 17, 18, 19, 20, 21, 22, 23, 24, 25, 26, 27, 28, 29, 30, 31, 32, 33, 34, 35, 36, 37, 38, 39, 40, 41, 42, 43, 44, 45, 46, 47, 48, 49, 50, 51, 52, 53, 54, 55, 56, 57, 58, 59, 60, 61, 62, 63, 64, 124, 125, 126, 127, 128, 129, 130, 131, 132, 133, 134, 135, 136, 137, 138, 139, 140, 141, 142, 143, 144, 145, 146] (by decide +kernel) (by decide +kernel)
set_option maxRecDepth 20000 in
theorem gX8_readsLine_X8_takes : GoodIn wsX8_readsLine (wsV RX8 196 RX8 yX8_takes wsX8_takes) := goodIn_app (goodIn_of _ (by decide +kernel)) ggX8_readsLine_X8_takes
set_option maxRecDepth 20000 in
theorem ggX8_readsLine_X8_readsGate : GoodIn wsX8_readsLine wsX8_readsGate := goodIn_r _ [68, 69, 1, 70, 71, 72, 73, 5, 74, 75, 76, 9, 10, 11, 12, 7, 8, 77, 78, 79, 80, 2, 3, 4, 6, 13, 14, 15, 16, 17, 18, 19, 20, 21, 22, 23, 24, 25, 26, 27, 28, 29, 30, 31, 32, 33, 34, 35, 36, 37, 38, 39, 40, 41, 42, 43, 44, 45, 46, 47, 48, 49, 50, 51, 52, 53, 54, 55, 56, 57, 58, 59, 60, 61, 62, 63, 64, 81, 82, 83, 84, 85, 86, 87, 88, 89, 90, 91, 92, 93, 94, 95, 96, 97, 98, 99, 100, 101, 102, 124, 125, 126, 127, 128, 129, 130, 131, 132, 133, 134, 135, 136, 137, 138, 139, 140, 141, 142, 143, 144, 145, 146] (by decide +kernel) (by decide +kernel)
set_option maxRecDepth 20000 in
theorem gX8_readsLine_X8_readsGate : GoodIn wsX8_readsLine (wsV RX8 235 RX8 yX8_readsGate wsX8_readsGate) := goodIn_app (goodIn_of _ (by decide +kernel)) ggX8_readsLine_X8_readsGate
set_option maxRecDepth 20000 in
theorem ggX8_readsLine_X8_readsOutputs : GoodIn wsX8_readsLine wsX8_readsOutputs := goodIn_r _ [106, 69, 70, 98, 90, 91, 92, 5, 93, 94, 95, 96, 97, 1, 7, 8, 99, 9, 10, 11, 12, 87, 88, 89, 71, 72, 73, 74, 75, 76, 100, 101, 102, 124, 125, 126, 127, 128, 129, 130, 131, 132, 133, 134, 135, 136, 137, 138, 139, 140, 141, 142, 143, 144, 145, 146] (by decide +kernel) (by decide +kernel)
set_option maxRecDepth 20000 in
theorem gX8_readsLine_X8_readsOutputs : GoodIn wsX8_readsLine (wsV RX8 240 RX8 yX8_readsOutputs wsX8_readsOutputs) := goodIn_app (goodIn_of _ (by decide +kernel)) ggX8_readsLine_X8_readsOutputs
set_option maxRecDepth 20000 in
theorem ggX8_readsLine_X8_readsBridge : GoodIn wsX8_readsLine wsX8_readsBridge := goodIn_r _ [110, 69, 1, 70, 98, 71, 72, 73, 5, 74, 75, 76, 2, 3, 4, 6, 7, 8, 9, 10, 11, 12, 13, 14, 15, 16, 17, 18, 19, 20, 21, 22, 23, 24, 25, 26, 27, 28, 29, 30, 31, 32, 33, 34, 35, 36, 37, 38, 39, 40, 41, 42, 43, 44, 45, 46, 47, 48, 49, 50, 51, 52, 53, 54, 55, 56, 57, 58, 59, 60, 61, 62, 63, 64, 90, 91, 92, 93, 94, 95, 96, 97, 99, 87, 88, 89, 100, 101, 102, 111, 112, 113, 114, 115, 124, 125, 126, 127, 128, 129, 130, 131, 132, 133, 134, 135, 136, 137, 138, 139, 140, 141, 142, 143, 144, 145, 146] (by decide +kernel) (by decide +kernel)
set_option maxRecDepth 20000 in
theorem gX8_readsLine_X8_readsBridge : GoodIn wsX8_readsLine (wsV RX8 245 RX8 yX8_readsBridge wsX8_readsBridge) := goodIn_app (goodIn_of _ (by decide +kernel)) ggX8_readsLine_X8_readsBridge
set_option maxRecDepth 20000 in
theorem ggX8_readsLine_X8_readsTest : GoodIn wsX8_readsLine wsX8_readsTest := goodIn_r _ [119, 69, 70, 71, 72, 73, 5, 74, 75, 76, 2, 3, 4, 6, 1, 7, 8, 9, 10, 11, 12, 13, 14, 15, 16, 17, 18, 19, 20, 21, 22, 23, 24, 25, 26, 27, 28, 29, 30, 31, 32, 33, 34, 35, 36, 37, 38, 39, 40, 41, 42, 43, 44, 45, 46, 47, 48, 49, 50, 51, 52, 53, 54, 55, 56, 57, 58, 59, 60, 61, 62, 63, 64, 94, 95, 96, 97, 98, 99, 87, 88, 89, 100, 101, 102, 124, 125, 126, 127, 128, 129, 130, 131, 132, 133, 134, 135, 136, 137, 138, 139, 140, 141, 142, 143, 144, 145, 146] (by decide +kernel) (by decide +kernel)
set_option maxRecDepth 20000 in
theorem gX8_readsLine_X8_readsTest : GoodIn wsX8_readsLine (wsV RX8 250 RX8 yX8_readsTest wsX8_readsTest) := goodIn_app (goodIn_of _ (by decide +kernel)) ggX8_readsLine_X8_readsTest
set_option maxRecDepth 20000 in
theorem ggX8_readsLine_X8_fails : GoodIn wsX8_readsLine wsX8_fails := goodIn_r _ [74, 75, 76, 124, 125, 126, 127, 128, 129, 130, 131, 132, 133, 134, 135, 136, 137, 138, 139, 140, 141, 142, 143, 144, 145, 146] (by decide +kernel) (by decide +kernel)
set_option maxRecDepth 20000 in
theorem gX8_readsLine_X8_fails : GoodIn wsX8_readsLine (wsV RX8 173 RX8 yX8_fails wsX8_fails) := goodIn_app (goodIn_of _ (by decide +kernel)) ggX8_readsLine_X8_fails
set_option maxRecDepth 20000 in
theorem ggX8_readsLine_X8_sign : GoodIn wsX8_readsLine wsX8_sign := goodIn_r _ [123, 1, 9, 10, 11, 5, 12, 7, 8, 71, 72, 73, 74, 75, 76, 124, 125, 126, 127, 128, 129, 130, 131, 132, 133, 134, 135, 136, 137, 138, 139, 140, 141, 142, 143, 144, 145, 146] (by decide +kernel) (by decide +kernel)
set_option maxRecDepth 20000 in
theorem gX8_readsLine_X8_sign : GoodIn wsX8_readsLine (wsV RX8 253 RX8 yX8_sign wsX8_sign) := goodIn_app (goodIn_of _ (by decide +kernel)) ggX8_readsLine_X8_sign
theorem dX8_readsLine_0 : decode cX8_readsLine 0 = .ok (.aload_n 0, 1) := by decide +kernel
theorem dX8_readsLine_1 : decode cX8_readsLine 1 = .ok (.getfield 152, 3) := by decide +kernel
theorem dX8_readsLine_4 : decode cX8_readsLine 4 = .ok (.istore_n 1, 1) := by decide +kernel
theorem dX8_readsLine_5 : decode cX8_readsLine 5 = .ok (.aload_n 0, 1) := by decide +kernel
theorem dX8_readsLine_6 : decode cX8_readsLine 6 = .ok (.ldc 234, 2) := by decide +kernel
theorem dX8_readsLine_8 : decode cX8_readsLine 8 = .ok (.invokevirtual 196, 3) := by decide +kernel
theorem dX8_readsLine_11 : decode cX8_readsLine 11 = .ok (.ifCond .eq 11, 3) := by decide +kernel
theorem dX8_readsLine_14 : decode cX8_readsLine 14 = .ok (.aload_n 0, 1) := by decide +kernel
theorem dX8_readsLine_15 : decode cX8_readsLine 15 = .ok (.iload_n 1, 1) := by decide +kernel
theorem dX8_readsLine_16 : decode cX8_readsLine 16 = .ok (.invokevirtual 235, 3) := by decide +kernel
theorem dX8_readsLine_19 : decode cX8_readsLine 19 = .ok (.goto 63, 3) := by decide +kernel
theorem dX8_readsLine_22 : decode cX8_readsLine 22 = .ok (.aload_n 0, 1) := by decide +kernel
theorem dX8_readsLine_23 : decode cX8_readsLine 23 = .ok (.ldc 238, 2) := by decide +kernel
theorem dX8_readsLine_25 : decode cX8_readsLine 25 = .ok (.invokevirtual 196, 3) := by decide +kernel
theorem dX8_readsLine_28 : decode cX8_readsLine 28 = .ok (.ifCond .eq 10, 3) := by decide +kernel
theorem dX8_readsLine_31 : decode cX8_readsLine 31 = .ok (.aload_n 0, 1) := by decide +kernel
theorem dX8_readsLine_32 : decode cX8_readsLine 32 = .ok (.invokevirtual 240, 3) := by decide +kernel
theorem dX8_readsLine_35 : decode cX8_readsLine 35 = .ok (.goto 47, 3) := by decide +kernel
theorem dX8_readsLine_38 : decode cX8_readsLine 38 = .ok (.aload_n 0, 1) := by decide +kernel
theorem dX8_readsLine_39 : decode cX8_readsLine 39 = .ok (.ldc 243, 2) := by decide +kernel
theorem dX8_readsLine_41 : decode cX8_readsLine 41 = .ok (.invokevirtual 196, 3) := by decide +kernel
theorem dX8_readsLine_44 : decode cX8_readsLine 44 = .ok (.ifCond .eq 11, 3) := by decide +kernel
theorem dX8_readsLine_47 : decode cX8_readsLine 47 = .ok (.aload_n 0, 1) := by decide +kernel
theorem dX8_readsLine_48 : decode cX8_readsLine 48 = .ok (.iload_n 1, 1) := by decide +kernel
theorem dX8_readsLine_49 : decode cX8_readsLine 49 = .ok (.invokevirtual 245, 3) := by decide +kernel
theorem dX8_readsLine_52 : decode cX8_readsLine 52 = .ok (.goto 30, 3) := by decide +kernel
theorem dX8_readsLine_55 : decode cX8_readsLine 55 = .ok (.aload_n 0, 1) := by decide +kernel
theorem dX8_readsLine_56 : decode cX8_readsLine 56 = .ok (.ldc 248, 2) := by decide +kernel
theorem dX8_readsLine_58 : decode cX8_readsLine 58 = .ok (.invokevirtual 196, 3) := by decide +kernel
theorem dX8_readsLine_61 : decode cX8_readsLine 61 = .ok (.ifCond .eq 11, 3) := by decide +kernel
theorem dX8_readsLine_64 : decode cX8_readsLine 64 = .ok (.aload_n 0, 1) := by decide +kernel
theorem dX8_readsLine_65 : decode cX8_readsLine 65 = .ok (.iload_n 1, 1) := by decide +kernel
theorem dX8_readsLine_66 : decode cX8_readsLine 66 = .ok (.invokevirtual 250, 3) := by decide +kernel
theorem dX8_readsLine_69 : decode cX8_readsLine 69 = .ok (.goto 13, 3) := by decide +kernel
theorem dX8_readsLine_72 : decode cX8_readsLine 72 = .ok (.aload_n 0, 1) := by decide +kernel
theorem dX8_readsLine_73 : decode cX8_readsLine 73 = .ok (.bipush (-2), 2) := by decide +kernel
theorem dX8_readsLine_75 : decode cX8_readsLine 75 = .ok (.aload_n 0, 1) := by decide +kernel
theorem dX8_readsLine_76 : decode cX8_readsLine 76 = .ok (.getfield 152, 3) := by decide +kernel
theorem dX8_readsLine_79 : decode cX8_readsLine 79 = .ok (.invokevirtual 173, 3) := by decide +kernel
theorem dX8_readsLine_82 : decode cX8_readsLine 82 = .ok (.istore_n 2, 1) := by decide +kernel
theorem dX8_readsLine_83 : decode cX8_readsLine 83 = .ok (.iload_n 2, 1) := by decide +kernel
theorem dX8_readsLine_84 : decode cX8_readsLine 84 = .ok (.ifCond .eq 16, 3) := by decide +kernel
theorem dX8_readsLine_87 : decode cX8_readsLine 87 = .ok (.aload_n 0, 1) := by decide +kernel
theorem dX8_readsLine_88 : decode cX8_readsLine 88 = .ok (.bipush 59, 2) := by decide +kernel
theorem dX8_readsLine_90 : decode cX8_readsLine 90 = .ok (.invokevirtual 253, 3) := by decide +kernel
theorem dX8_readsLine_93 : decode cX8_readsLine 93 = .ok (.ifCond .eq 7, 3) := by decide +kernel
theorem dX8_readsLine_96 : decode cX8_readsLine 96 = .ok (.iconst 1, 1) := by decide +kernel
theorem dX8_readsLine_97 : decode cX8_readsLine 97 = .ok (.goto 4, 3) := by decide +kernel
theorem dX8_readsLine_100 : decode cX8_readsLine 100 = .ok (.iconst 0, 1) := by decide +kernel
theorem dX8_readsLine_101 : decode cX8_readsLine 101 = .ok (.ireturn, 1) := by decide +kernel
set_option maxRecDepth 20000 in
theorem ggX8_readsAll_X8_plain : GoodIn wsX8_readsAll wsX8_plain := goodIn_r _ [8, 2, 132, 133, 134, 135, 136, 137, 138, 139, 140, 141, 142, 143, 144, 145, 146, 147, 148, 149, 150, 151, 152, 153, 154] (by decide +kernel) (by decide +kernel)
set_option maxRecDepth 20000 in
theorem gX8_readsAll_X8_plain : GoodIn wsX8_readsAll (wsV RX8 54 RX8 yX8_plain wsX8_plain) := goodIn_app (goodIn_of _ (by decide +kernel)) ggX8_readsAll_X8_plain
set_option maxRecDepth 20000 in
theorem ggX8_readsAll_X8_takes : GoodIn wsX8_readsAll wsX8_takes := goodIn_r _ [12, 1, 13, 14, 15, 16, 17, 7, 18, 19, 20, 21, 22, 23, 24, 25, 26, 27, 28, 29, 30, 31, 32, 33, 34, 35, 36, 37, 38, 39, 40, 41, 42, 43, 44, 45, 46, 47, 48, 49, 50, 51, 52, 53, 54, 55, 56, 57, 58, 59, 60, 61, 62, 63, 64, 65, 66, 67, 68, 69, 70, 132, 133, 134, 135, 136, 137, 138, 139, 140, 141, 142, 143, 144, 145, 146, 147, 148, 149, 150, 151, 152, 153, 154] (by decide +kernel) (by decide +kernel)
set_option maxRecDepth 20000 in
theorem gX8_readsAll_X8_takes : GoodIn wsX8_readsAll (wsV RX8 196 RX8 yX8_takes wsX8_takes) := goodIn_app (goodIn_of _ (by decide +kernel)) ggX8_readsAll_X8_takes
set_option maxRecDepth 20000 in
theorem ggX8_readsAll_X8_fails : GoodIn wsX8_readsAll wsX8_fails := goodIn_r _ [74, 75, 76, 132, 133, 134, 135, 136, 137, 138, 139, 140, 141, 142, 143, 144, 145, 146, 147, 148, 149, 150, 151, 152, 153, 154] (by decide +kernel) (by decide +kernel)
set_option maxRecDepth 20000 in
theorem gX8_readsAll_X8_fails : GoodIn wsX8_readsAll (wsV RX8 173 RX8 yX8_fails wsX8_fails) := goodIn_app (goodIn_of _ (by decide +kernel)) ggX8_readsAll_X8_fails
set_option maxRecDepth 20000 in
theorem ggX8_readsAll_X8_reads : GoodIn wsX8_readsAll wsX8_reads := goodIn_r _ [80, 1, 81, 3, 13, 14, 82, 15, 16, 17, 7, 18, 83, 84, 85, 71, 72, 73, 74, 75, 76, 86, 87, 88, 132, 133, 134, 135, 136, 137, 138, 139, 140, 141, 142, 143, 144, 145, 146, 147, 148, 149, 150, 151, 152, 153, 154] (by decide +kernel) (by decide +kernel)
set_option maxRecDepth 20000 in
theorem gX8_readsAll_X8_reads : GoodIn wsX8_readsAll (wsV RX8 191 RX8 yX8_reads wsX8_reads) := goodIn_app (goodIn_of _ (by decide +kernel)) ggX8_readsAll_X8_reads
set_option maxRecDepth 20000 in
theorem ggX8_readsAll_X8_sign : GoodIn wsX8_readsAll wsX8_sign := goodIn_r _ [92, 1, 15, 16, 17, 7, 18, 13, 14, 71, 72, 73, 74, 75, 76, 132, 133, 134, 135, 136, 137, 138, 139, 140, 141, 142, 143, 144, 145, 146, 147, 148, 149, 150, 151, 152, 153, 154] (by decide +kernel) (by decide +kernel)
set_option maxRecDepth 20000 in
theorem gX8_readsAll_X8_sign : GoodIn wsX8_readsAll (wsV RX8 253 RX8 yX8_sign wsX8_sign) := goodIn_app (goodIn_of _ (by decide +kernel)) ggX8_readsAll_X8_sign
set_option maxRecDepth 20000 in
theorem ggX8_readsAll_X8_here : GoodIn wsX8_readsAll wsX8_here := goodIn_r _ [18, 1, 13, 14, 132, 133, 134, 135, 136, 137, 138, 139, 140, 141, 142, 143, 144, 145, 146, 147, 148, 149, 150, 151, 152, 153, 154] (by decide +kernel) (by decide +kernel)
set_option maxRecDepth 20000 in
theorem gX8_readsAll_X8_here : GoodIn wsX8_readsAll (wsV RX8 158 RX8 yX8_here wsX8_here) := goodIn_app (goodIn_of _ (by decide +kernel)) ggX8_readsAll_X8_here
set_option maxRecDepth 20000 in
theorem ggX8_readsAll_X8_readsLine : GoodIn wsX8_readsAll wsX8_readsLine := goodIn_r _ [96, 1, 9, 10, 11, 7, 12, 13, 14, 15, 16, 17, 18, 19, 20, 21, 22, 23, 24, 25, 26, 27, 28, 29, 30, 31, 32, 33, 34, 35, 36, 37, 38, 39, 40, 41, 42, 43, 44, 45, 46, 47, 48, 49, 50, 51, 52, 53, 54, 55, 56, 57, 58, 59, 60, 61, 62, 63, 64, 65, 66, 67, 68, 69, 70, 97, 98, 99, 100, 2, 3, 71, 72, 73, 74, 75, 76, 101, 102, 103, 104, 105, 106, 107, 108, 109, 110, 83, 84, 85, 111, 112, 113, 114, 77, 78, 79, 80, 81, 82, 86, 87, 88, 115, 116, 117, 118, 119, 120, 121, 122, 123, 124, 125, 126, 127, 128, 129, 130, 131, 89, 90, 91, 92, 132, 133, 134, 135, 136, 137, 138, 139, 140, 141, 142, 143, 144, 145, 146, 147, 148, 149, 150, 151, 152, 153, 154] (by decide +kernel) (by decide +kernel)
set_option maxRecDepth 20000 in
theorem gX8_readsAll_X8_readsLine : GoodIn wsX8_readsAll (wsV RX8 258 RX8 yX8_readsLine wsX8_readsLine) := goodIn_app (goodIn_of _ (by decide +kernel)) ggX8_readsAll_X8_readsLine
theorem dX8_readsAll_0 : decode cX8_readsAll 0 = .ok (.aload_n 0, 1) := by decide +kernel
theorem dX8_readsAll_1 : decode cX8_readsAll 1 = .ok (.invokevirtual 54, 3) := by decide +kernel
theorem dX8_readsAll_4 : decode cX8_readsAll 4 = .ok (.aload_n 0, 1) := by decide +kernel
theorem dX8_readsAll_5 : decode cX8_readsAll 5 = .ok (.ldc_w 256, 3) := by decide +kernel
theorem dX8_readsAll_8 : decode cX8_readsAll 8 = .ok (.invokevirtual 196, 3) := by decide +kernel
theorem dX8_readsAll_11 : decode cX8_readsAll 11 = .ok (.ifCond .ne 14, 3) := by decide +kernel
theorem dX8_readsAll_14 : decode cX8_readsAll 14 = .ok (.aload_n 0, 1) := by decide +kernel
theorem dX8_readsAll_15 : decode cX8_readsAll 15 = .ok (.bipush (-2), 2) := by decide +kernel
theorem dX8_readsAll_17 : decode cX8_readsAll 17 = .ok (.aload_n 0, 1) := by decide +kernel
theorem dX8_readsAll_18 : decode cX8_readsAll 18 = .ok (.getfield 152, 3) := by decide +kernel
theorem dX8_readsAll_21 : decode cX8_readsAll 21 = .ok (.invokevirtual 173, 3) := by decide +kernel
theorem dX8_readsAll_24 : decode cX8_readsAll 24 = .ok (.ireturn, 1) := by decide +kernel
theorem dX8_readsAll_25 : decode cX8_readsAll 25 = .ok (.aload_n 0, 1) := by decide +kernel
theorem dX8_readsAll_26 : decode cX8_readsAll 26 = .ok (.iconst 1, 1) := by decide +kernel
theorem dX8_readsAll_27 : decode cX8_readsAll 27 = .ok (.bipush 8, 2) := by decide +kernel
theorem dX8_readsAll_29 : decode cX8_readsAll 29 = .ok (.invokevirtual 191, 3) := by decide +kernel
theorem dX8_readsAll_32 : decode cX8_readsAll 32 = .ok (.ifCond .ne 5, 3) := by decide +kernel
theorem dX8_readsAll_35 : decode cX8_readsAll 35 = .ok (.iconst 0, 1) := by decide +kernel
theorem dX8_readsAll_36 : decode cX8_readsAll 36 = .ok (.ireturn, 1) := by decide +kernel
theorem dX8_readsAll_37 : decode cX8_readsAll 37 = .ok (.aload_n 0, 1) := by decide +kernel
theorem dX8_readsAll_38 : decode cX8_readsAll 38 = .ok (.getfield 13, 3) := by decide +kernel
theorem dX8_readsAll_41 : decode cX8_readsAll 41 = .ok (.iconst 0, 1) := by decide +kernel
theorem dX8_readsAll_42 : decode cX8_readsAll 42 = .ok (.aload_n 0, 1) := by decide +kernel
theorem dX8_readsAll_43 : decode cX8_readsAll 43 = .ok (.getfield 183, 3) := by decide +kernel
theorem dX8_readsAll_46 : decode cX8_readsAll 46 = .ok (.iastore, 1) := by decide +kernel
theorem dX8_readsAll_47 : decode cX8_readsAll 47 = .ok (.aload_n 0, 1) := by decide +kernel
theorem dX8_readsAll_48 : decode cX8_readsAll 48 = .ok (.getfield 13, 3) := by decide +kernel
theorem dX8_readsAll_51 : decode cX8_readsAll 51 = .ok (.iconst 1, 1) := by decide +kernel
theorem dX8_readsAll_52 : decode cX8_readsAll 52 = .ok (.aload_n 0, 1) := by decide +kernel
theorem dX8_readsAll_53 : decode cX8_readsAll 53 = .ok (.getfield 183, 3) := by decide +kernel
theorem dX8_readsAll_56 : decode cX8_readsAll 56 = .ok (.iastore, 1) := by decide +kernel
theorem dX8_readsAll_57 : decode cX8_readsAll 57 = .ok (.aload_n 0, 1) := by decide +kernel
theorem dX8_readsAll_58 : decode cX8_readsAll 58 = .ok (.bipush 59, 2) := by decide +kernel
theorem dX8_readsAll_60 : decode cX8_readsAll 60 = .ok (.invokevirtual 253, 3) := by decide +kernel
theorem dX8_readsAll_63 : decode cX8_readsAll 63 = .ok (.ifCond .ne 5, 3) := by decide +kernel
theorem dX8_readsAll_66 : decode cX8_readsAll 66 = .ok (.iconst 0, 1) := by decide +kernel
theorem dX8_readsAll_67 : decode cX8_readsAll 67 = .ok (.ireturn, 1) := by decide +kernel
theorem dX8_readsAll_68 : decode cX8_readsAll 68 = .ok (.aload_n 0, 1) := by decide +kernel
theorem dX8_readsAll_69 : decode cX8_readsAll 69 = .ok (.invokevirtual 158, 3) := by decide +kernel
theorem dX8_readsAll_72 : decode cX8_readsAll 72 = .ok (.iconst (-1), 1) := by decide +kernel
theorem dX8_readsAll_73 : decode cX8_readsAll 73 = .ok (.if_icmp .eq 12, 3) := by decide +kernel
theorem dX8_readsAll_76 : decode cX8_readsAll 76 = .ok (.aload_n 0, 1) := by decide +kernel
theorem dX8_readsAll_77 : decode cX8_readsAll 77 = .ok (.invokevirtual 258, 3) := by decide +kernel
theorem dX8_readsAll_80 : decode cX8_readsAll 80 = .ok (.ifCond .ne (-12), 3) := by decide +kernel
theorem dX8_readsAll_83 : decode cX8_readsAll 83 = .ok (.iconst 0, 1) := by decide +kernel
theorem dX8_readsAll_84 : decode cX8_readsAll 84 = .ok (.ireturn, 1) := by decide +kernel
theorem dX8_readsAll_85 : decode cX8_readsAll 85 = .ok (.iconst 1, 1) := by decide +kernel
theorem dX8_readsAll_86 : decode cX8_readsAll 86 = .ok (.ireturn, 1) := by decide +kernel
set_option maxRecDepth 20000 in
theorem ggX8_load_X8_isIn : GoodIn wsX8_load wsX8_isIn := goodIn_r _ [11] (by decide +kernel) (by decide +kernel)
set_option maxRecDepth 20000 in
theorem gX8_load_X8_isIn : GoodIn wsX8_load (va_wsS RX8 187 yX8_isIn wsX8_isIn) := goodIn_app (goodIn_of _ (by decide +kernel)) ggX8_load_X8_isIn
set_option maxRecDepth 20000 in
theorem ggX8_load_X8_right : GoodIn wsX8_load wsX8_right := goodIn_r _ [15, 1, 161, 162, 163, 164, 165, 166, 167, 168, 169, 170, 171, 172, 173, 174, 175, 176, 177, 178, 179, 180, 181, 182, 183] (by decide +kernel) (by decide +kernel)
set_option maxRecDepth 20000 in
theorem gX8_load_X8_right : GoodIn wsX8_load (wsV RX8 261 RX8 yX8_right wsX8_right) := goodIn_app (goodIn_of _ (by decide +kernel)) ggX8_load_X8_right
set_option maxRecDepth 20000 in
theorem ggX8_load_X8_readsAll : GoodIn wsX8_load wsX8_readsAll := goodIn_r _ [19, 4, 7, 20, 21, 22, 23, 10, 24, 25, 26, 27, 28, 3, 29, 30, 31, 32, 33, 34, 35, 36, 37, 38, 39, 40, 41, 42, 43, 44, 45, 46, 47, 48, 49, 50, 51, 52, 53, 54, 55, 56, 57, 58, 59, 60, 61, 62, 63, 64, 65, 66, 67, 68, 69, 70, 71, 72, 73, 74, 75, 76, 77, 78, 79, 80, 81, 82, 83, 84, 85, 86, 87, 88, 89, 5, 6, 90, 91, 92, 93, 94, 95, 96, 97, 98, 8, 9, 11, 99, 100, 101, 102, 103, 104, 105, 106, 107, 108, 109, 110, 111, 112, 113, 114, 115, 116, 117, 118, 119, 120, 121, 122, 123, 124, 125, 126, 127, 128, 129, 130, 131, 132, 133, 134, 135, 136, 137, 138, 139, 140, 141, 161, 162, 163, 164, 165, 166, 167, 168, 169, 170, 171, 172, 173, 174, 175, 176, 177, 178, 179, 180, 181, 182, 183] (by decide +kernel) (by decide +kernel)
set_option maxRecDepth 20000 in
theorem gX8_load_X8_readsAll : GoodIn wsX8_load (wsV RX8 265 RX8 yX8_readsAll wsX8_readsAll) := goodIn_app (goodIn_of _ (by decide +kernel)) ggX8_load_X8_readsAll
set_option maxRecDepth 20000 in
theorem ggX8_load_X8_change : GoodIn wsX8_load wsX8_change := goodIn_r _ [145, 146, 147, 148, 149, 150, 151, 10, 152, 161, 162, 163, 164, 165, 166, 167, 168, 169, 170, 171, 172, 173, 174, 175, 176, 177, 178, 179, 180, 181, 182, 183] (by decide +kernel) (by decide +kernel)
set_option maxRecDepth 20000 in
theorem gX8_load_X8_change : GoodIn wsX8_load (wsV RX8 268 RX8 yX8_change wsX8_change) := goodIn_app (goodIn_of _ (by decide +kernel)) ggX8_load_X8_change
set_option maxRecDepth 20000 in
theorem ggX8_load_X8_put : GoodIn wsX8_load wsX8_put := goodIn_r _ [156, 147, 146, 161, 162, 163, 164, 165, 166, 167, 168, 169, 170, 171, 172, 173, 174, 175, 176, 177, 178, 179, 180, 181, 182, 183] (by decide +kernel) (by decide +kernel)
set_option maxRecDepth 20000 in
theorem gX8_load_X8_put : GoodIn wsX8_load (wsV RX8 57 RX8 yX8_put wsX8_put) := goodIn_app (goodIn_of _ (by decide +kernel)) ggX8_load_X8_put
set_option maxRecDepth 20000 in
theorem ggX8_load_X8_wires : GoodIn wsX8_load wsX8_wires := goodIn_r _ [160, 149, 150, 151, 10, 152, 147, 146, 161, 162, 163, 164, 165, 166, 167, 168, 169, 170, 171, 172, 173, 174, 175, 176, 177, 178, 179, 180, 181, 182, 183] (by decide +kernel) (by decide +kernel)
set_option maxRecDepth 20000 in
theorem gX8_load_X8_wires : GoodIn wsX8_load (wsV RX8 74 RX8 yX8_wires wsX8_wires) := goodIn_app (goodIn_of _ (by decide +kernel)) ggX8_load_X8_wires
theorem dX8_load_0 : decode cX8_load 0 = .ok (.aload_n 0, 1) := by decide +kernel
theorem dX8_load_1 : decode cX8_load 1 = .ok (.iconst 0, 1) := by decide +kernel
theorem dX8_load_2 : decode cX8_load 2 = .ok (.putfield 61, 3) := by decide +kernel
theorem dX8_load_5 : decode cX8_load 5 = .ok (.aload_n 0, 1) := by decide +kernel
theorem dX8_load_6 : decode cX8_load 6 = .ok (.iload_n 1, 1) := by decide +kernel
theorem dX8_load_7 : decode cX8_load 7 = .ok (.iconst 0, 1) := by decide +kernel
theorem dX8_load_8 : decode cX8_load 8 = .ok (.aload_n 0, 1) := by decide +kernel
theorem dX8_load_9 : decode cX8_load 9 = .ok (.getfield 143, 3) := by decide +kernel
theorem dX8_load_12 : decode cX8_load 12 = .ok (.invokestatic 187, 3) := by decide +kernel
theorem dX8_load_15 : decode cX8_load 15 = .ok (.iconst 1, 1) := by decide +kernel
theorem dX8_load_16 : decode cX8_load 16 = .ok (.invokevirtual 261, 3) := by decide +kernel
theorem dX8_load_19 : decode cX8_load 19 = .ok (.ifCond .ne 5, 3) := by decide +kernel
theorem dX8_load_22 : decode cX8_load 22 = .ok (.iconst 0, 1) := by decide +kernel
theorem dX8_load_23 : decode cX8_load 23 = .ok (.ireturn, 1) := by decide +kernel
theorem dX8_load_24 : decode cX8_load 24 = .ok (.aload_n 0, 1) := by decide +kernel
theorem dX8_load_25 : decode cX8_load 25 = .ok (.iload_n 1, 1) := by decide +kernel
theorem dX8_load_26 : decode cX8_load 26 = .ok (.putfield 155, 3) := by decide +kernel
theorem dX8_load_29 : decode cX8_load 29 = .ok (.aload_n 0, 1) := by decide +kernel
theorem dX8_load_30 : decode cX8_load 30 = .ok (.iconst 0, 1) := by decide +kernel
theorem dX8_load_31 : decode cX8_load 31 = .ok (.putfield 152, 3) := by decide +kernel
theorem dX8_load_34 : decode cX8_load 34 = .ok (.aload_n 0, 1) := by decide +kernel
theorem dX8_load_35 : decode cX8_load 35 = .ok (.iconst 0, 1) := by decide +kernel
theorem dX8_load_36 : decode cX8_load 36 = .ok (.putfield 143, 3) := by decide +kernel
theorem dX8_load_39 : decode cX8_load 39 = .ok (.aload_n 0, 1) := by decide +kernel
theorem dX8_load_40 : decode cX8_load 40 = .ok (.iconst 0, 1) := by decide +kernel
theorem dX8_load_41 : decode cX8_load 41 = .ok (.putfield 149, 3) := by decide +kernel
theorem dX8_load_44 : decode cX8_load 44 = .ok (.aload_n 0, 1) := by decide +kernel
theorem dX8_load_45 : decode cX8_load 45 = .ok (.iconst (-1), 1) := by decide +kernel
theorem dX8_load_46 : decode cX8_load 46 = .ok (.putfield 37, 3) := by decide +kernel
theorem dX8_load_49 : decode cX8_load 49 = .ok (.aload_n 0, 1) := by decide +kernel
theorem dX8_load_50 : decode cX8_load 50 = .ok (.invokevirtual 265, 3) := by decide +kernel
theorem dX8_load_53 : decode cX8_load 53 = .ok (.ifCond .ne 8, 3) := by decide +kernel
theorem dX8_load_56 : decode cX8_load 56 = .ok (.aload_n 0, 1) := by decide +kernel
theorem dX8_load_57 : decode cX8_load 57 = .ok (.getfield 149, 3) := by decide +kernel
theorem dX8_load_60 : decode cX8_load 60 = .ok (.ireturn, 1) := by decide +kernel
theorem dX8_load_61 : decode cX8_load 61 = .ok (.aload_n 0, 1) := by decide +kernel
theorem dX8_load_62 : decode cX8_load 62 = .ok (.invokevirtual 268, 3) := by decide +kernel
theorem dX8_load_65 : decode cX8_load 65 = .ok (.iconst 0, 1) := by decide +kernel
theorem dX8_load_66 : decode cX8_load 66 = .ok (.istore_n 2, 1) := by decide +kernel
theorem dX8_load_67 : decode cX8_load 67 = .ok (.iload_n 2, 1) := by decide +kernel
theorem dX8_load_68 : decode cX8_load 68 = .ok (.sipush 440, 3) := by decide +kernel
theorem dX8_load_71 : decode cX8_load 71 = .ok (.if_icmp .ge 20, 3) := by decide +kernel
theorem dX8_load_74 : decode cX8_load 74 = .ok (.aload_n 0, 1) := by decide +kernel
theorem dX8_load_75 : decode cX8_load 75 = .ok (.iload_n 2, 1) := by decide +kernel
theorem dX8_load_76 : decode cX8_load 76 = .ok (.aload_n 0, 1) := by decide +kernel
theorem dX8_load_77 : decode cX8_load 77 = .ok (.getfield 13, 3) := by decide +kernel
theorem dX8_load_80 : decode cX8_load 80 = .ok (.iload_n 2, 1) := by decide +kernel
theorem dX8_load_81 : decode cX8_load 81 = .ok (.iaload, 1) := by decide +kernel
theorem dX8_load_82 : decode cX8_load 82 = .ok (.invokevirtual 57, 3) := by decide +kernel
theorem dX8_load_85 : decode cX8_load 85 = .ok (.iinc 2 1, 3) := by decide +kernel
theorem dX8_load_88 : decode cX8_load 88 = .ok (.goto (-21), 3) := by decide +kernel
theorem dX8_load_91 : decode cX8_load 91 = .ok (.aload_n 0, 1) := by decide +kernel
theorem dX8_load_92 : decode cX8_load 92 = .ok (.invokevirtual 74, 3) := by decide +kernel
theorem dX8_load_95 : decode cX8_load 95 = .ok (.ireturn, 1) := by decide +kernel
set_option maxRecDepth 20000 in
theorem ggX8_isWire_X8_wires : GoodIn wsX8_isWire wsX8_wires := goodIn_r _ [5, 6, 7, 8, 4, 9, 10, 11, 20, 21, 22, 23, 24, 25, 26, 27, 28, 29, 30, 31, 32, 33, 34, 35, 36, 37, 38, 39, 40, 41, 42] (by decide +kernel) (by decide +kernel)
set_option maxRecDepth 20000 in
theorem gX8_isWire_X8_wires : GoodIn wsX8_isWire (wsV RX8 74 RX8 yX8_wires wsX8_wires) := goodIn_app (goodIn_of _ (by decide +kernel)) ggX8_isWire_X8_wires
set_option maxRecDepth 20000 in
theorem ggX8_isWire_X8_isIn : GoodIn wsX8_isWire wsX8_isIn := goodIn_r _ [14] (by decide +kernel) (by decide +kernel)
set_option maxRecDepth 20000 in
theorem gX8_isWire_X8_isIn : GoodIn wsX8_isWire (va_wsS RX8 187 yX8_isIn wsX8_isIn) := goodIn_app (goodIn_of _ (by decide +kernel)) ggX8_isWire_X8_isIn
set_option maxRecDepth 20000 in
theorem ggX8_isWire_X8_right : GoodIn wsX8_isWire wsX8_right := goodIn_r _ [18, 19, 20, 21, 22, 23, 24, 25, 26, 27, 28, 29, 30, 31, 32, 33, 34, 35, 36, 37, 38, 39, 40, 41, 42] (by decide +kernel) (by decide +kernel)
set_option maxRecDepth 20000 in
theorem gX8_isWire_X8_right : GoodIn wsX8_isWire (wsV RX8 261 RX8 yX8_right wsX8_right) := goodIn_app (goodIn_of _ (by decide +kernel)) ggX8_isWire_X8_right
theorem dX8_isWire_0 : decode cX8_isWire 0 = .ok (.aload_n 0, 1) := by decide +kernel
theorem dX8_isWire_1 : decode cX8_isWire 1 = .ok (.iload_n 1, 1) := by decide +kernel
theorem dX8_isWire_2 : decode cX8_isWire 2 = .ok (.iconst 0, 1) := by decide +kernel
theorem dX8_isWire_3 : decode cX8_isWire 3 = .ok (.aload_n 0, 1) := by decide +kernel
theorem dX8_isWire_4 : decode cX8_isWire 4 = .ok (.invokevirtual 74, 3) := by decide +kernel
theorem dX8_isWire_7 : decode cX8_isWire 7 = .ok (.iconst 1, 1) := by decide +kernel
theorem dX8_isWire_8 : decode cX8_isWire 8 = .ok (.isub, 1) := by decide +kernel
theorem dX8_isWire_9 : decode cX8_isWire 9 = .ok (.invokestatic 187, 3) := by decide +kernel
theorem dX8_isWire_12 : decode cX8_isWire 12 = .ok (.iconst 1, 1) := by decide +kernel
theorem dX8_isWire_13 : decode cX8_isWire 13 = .ok (.invokevirtual 261, 3) := by decide +kernel
theorem dX8_isWire_16 : decode cX8_isWire 16 = .ok (.ireturn, 1) := by decide +kernel
set_option maxRecDepth 20000 in
theorem ggX8_isFault_X8_faults : GoodIn wsX8_isFault wsX8_faults := goodIn_r _ [5, 6, 7, 8, 4, 9, 10, 11, 12, 13, 14, 15, 24, 25, 26, 27, 28, 29, 30, 31, 32, 33, 34, 35, 36, 37, 38, 39, 40, 41, 42, 43, 44, 45, 46] (by decide +kernel) (by decide +kernel)
set_option maxRecDepth 20000 in
theorem gX8_isFault_X8_faults : GoodIn wsX8_isFault (wsV RX8 118 RX8 yX8_faults wsX8_faults) := goodIn_app (goodIn_of _ (by decide +kernel)) ggX8_isFault_X8_faults
set_option maxRecDepth 20000 in
theorem ggX8_isFault_X8_isIn : GoodIn wsX8_isFault wsX8_isIn := goodIn_r _ [18] (by decide +kernel) (by decide +kernel)
set_option maxRecDepth 20000 in
theorem gX8_isFault_X8_isIn : GoodIn wsX8_isFault (va_wsS RX8 187 yX8_isIn wsX8_isIn) := goodIn_app (goodIn_of _ (by decide +kernel)) ggX8_isFault_X8_isIn
set_option maxRecDepth 20000 in
theorem ggX8_isFault_X8_right : GoodIn wsX8_isFault wsX8_right := goodIn_r _ [22, 23, 24, 25, 26, 27, 28, 29, 30, 31, 32, 33, 34, 35, 36, 37, 38, 39, 40, 41, 42, 43, 44, 45, 46] (by decide +kernel) (by decide +kernel)
set_option maxRecDepth 20000 in
theorem gX8_isFault_X8_right : GoodIn wsX8_isFault (wsV RX8 261 RX8 yX8_right wsX8_right) := goodIn_app (goodIn_of _ (by decide +kernel)) ggX8_isFault_X8_right
theorem dX8_isFault_0 : decode cX8_isFault 0 = .ok (.aload_n 0, 1) := by decide +kernel
theorem dX8_isFault_1 : decode cX8_isFault 1 = .ok (.iload_n 1, 1) := by decide +kernel
theorem dX8_isFault_2 : decode cX8_isFault 2 = .ok (.iconst 0, 1) := by decide +kernel
theorem dX8_isFault_3 : decode cX8_isFault 3 = .ok (.aload_n 0, 1) := by decide +kernel
theorem dX8_isFault_4 : decode cX8_isFault 4 = .ok (.invokevirtual 118, 3) := by decide +kernel
theorem dX8_isFault_7 : decode cX8_isFault 7 = .ok (.iconst 1, 1) := by decide +kernel
theorem dX8_isFault_8 : decode cX8_isFault 8 = .ok (.isub, 1) := by decide +kernel
theorem dX8_isFault_9 : decode cX8_isFault 9 = .ok (.invokestatic 187, 3) := by decide +kernel
theorem dX8_isFault_12 : decode cX8_isFault 12 = .ok (.iconst 1, 1) := by decide +kernel
theorem dX8_isFault_13 : decode cX8_isFault 13 = .ok (.invokevirtual 261, 3) := by decide +kernel
theorem dX8_isFault_16 : decode cX8_isFault 16 = .ok (.ireturn, 1) := by decide +kernel
set_option maxRecDepth 20000 in
theorem ggX8_isTest_X8_tests : GoodIn wsX8_isTest wsX8_tests := goodIn_r _ [5, 6, 7, 8, 4, 9, 10, 11, 20, 21, 22, 23, 24, 25, 26, 27, 28, 29, 30, 31, 32, 33, 34, 35, 36, 37, 38, 39, 40, 41, 42] (by decide +kernel) (by decide +kernel)
set_option maxRecDepth 20000 in
theorem gX8_isTest_X8_tests : GoodIn wsX8_isTest (wsV RX8 124 RX8 yX8_tests wsX8_tests) := goodIn_app (goodIn_of _ (by decide +kernel)) ggX8_isTest_X8_tests
set_option maxRecDepth 20000 in
theorem ggX8_isTest_X8_isIn : GoodIn wsX8_isTest wsX8_isIn := goodIn_r _ [14] (by decide +kernel) (by decide +kernel)
set_option maxRecDepth 20000 in
theorem gX8_isTest_X8_isIn : GoodIn wsX8_isTest (va_wsS RX8 187 yX8_isIn wsX8_isIn) := goodIn_app (goodIn_of _ (by decide +kernel)) ggX8_isTest_X8_isIn
set_option maxRecDepth 20000 in
theorem ggX8_isTest_X8_right : GoodIn wsX8_isTest wsX8_right := goodIn_r _ [18, 19, 20, 21, 22, 23, 24, 25, 26, 27, 28, 29, 30, 31, 32, 33, 34, 35, 36, 37, 38, 39, 40, 41, 42] (by decide +kernel) (by decide +kernel)
set_option maxRecDepth 20000 in
theorem gX8_isTest_X8_right : GoodIn wsX8_isTest (wsV RX8 261 RX8 yX8_right wsX8_right) := goodIn_app (goodIn_of _ (by decide +kernel)) ggX8_isTest_X8_right
theorem dX8_isTest_0 : decode cX8_isTest 0 = .ok (.aload_n 0, 1) := by decide +kernel
theorem dX8_isTest_1 : decode cX8_isTest 1 = .ok (.iload_n 1, 1) := by decide +kernel
theorem dX8_isTest_2 : decode cX8_isTest 2 = .ok (.iconst 0, 1) := by decide +kernel
theorem dX8_isTest_3 : decode cX8_isTest 3 = .ok (.aload_n 0, 1) := by decide +kernel
theorem dX8_isTest_4 : decode cX8_isTest 4 = .ok (.invokevirtual 124, 3) := by decide +kernel
theorem dX8_isTest_7 : decode cX8_isTest 7 = .ok (.iconst 1, 1) := by decide +kernel
theorem dX8_isTest_8 : decode cX8_isTest 8 = .ok (.isub, 1) := by decide +kernel
theorem dX8_isTest_9 : decode cX8_isTest 9 = .ok (.invokestatic 187, 3) := by decide +kernel
theorem dX8_isTest_12 : decode cX8_isTest 12 = .ok (.iconst 1, 1) := by decide +kernel
theorem dX8_isTest_13 : decode cX8_isTest 13 = .ok (.invokevirtual 261, 3) := by decide +kernel
theorem dX8_isTest_16 : decode cX8_isTest 16 = .ok (.ireturn, 1) := by decide +kernel
set_option maxRecDepth 20000 in
theorem ggX8_told_X8_inputs : GoodIn wsX8_told wsX8_inputs := goodIn_r _ [5, 6, 7, 8, 4, 9, 10, 11, 95, 96, 97, 98, 99, 100, 101, 102, 103, 104, 105, 106, 107, 108, 109, 110, 111, 112, 113, 114, 115, 116, 117] (by decide +kernel) (by decide +kernel)
set_option maxRecDepth 20000 in
theorem gX8_told_X8_inputs : GoodIn wsX8_told (wsV RX8 78 RX8 yX8_inputs wsX8_inputs) := goodIn_app (goodIn_of _ (by decide +kernel)) ggX8_told_X8_inputs
set_option maxRecDepth 20000 in
theorem ggX8_told_X8_wires : GoodIn wsX8_told wsX8_wires := goodIn_r _ [15, 6, 7, 8, 4, 9, 10, 11, 95, 96, 97, 98, 99, 100, 101, 102, 103, 104, 105, 106, 107, 108, 109, 110, 111, 112, 113, 114, 115, 116, 117] (by decide +kernel) (by decide +kernel)
set_option maxRecDepth 20000 in
theorem gX8_told_X8_wires : GoodIn wsX8_told (wsV RX8 74 RX8 yX8_wires wsX8_wires) := goodIn_app (goodIn_of _ (by decide +kernel)) ggX8_told_X8_wires
set_option maxRecDepth 20000 in
theorem ggX8_told_X8_outputs : GoodIn wsX8_told wsX8_outputs := goodIn_r _ [19, 6, 7, 8, 4, 9, 10, 11, 95, 96, 97, 98, 99, 100, 101, 102, 103, 104, 105, 106, 107, 108, 109, 110, 111, 112, 113, 114, 115, 116, 117] (by decide +kernel) (by decide +kernel)
set_option maxRecDepth 20000 in
theorem gX8_told_X8_outputs : GoodIn wsX8_told (wsV RX8 109 RX8 yX8_outputs wsX8_outputs) := goodIn_app (goodIn_of _ (by decide +kernel)) ggX8_told_X8_outputs
set_option maxRecDepth 20000 in
theorem ggX8_told_X8_faults : GoodIn wsX8_told wsX8_faults := goodIn_r _ [23, 12, 13, 14, 4, 15, 6, 7, 8, 9, 10, 11, 95, 96, 97, 98, 99, 100, 101, 102, 103, 104, 105, 106, 107, 108, 109, 110, 111, 112, 113, 114, 115, 116, 117] (by decide +kernel) (by decide +kernel)
set_option maxRecDepth 20000 in
theorem gX8_told_X8_faults : GoodIn wsX8_told (wsV RX8 118 RX8 yX8_faults wsX8_faults) := goodIn_app (goodIn_of _ (by decide +kernel)) ggX8_told_X8_faults
set_option maxRecDepth 20000 in
theorem ggX8_told_X8_get : GoodIn wsX8_told wsX8_get := goodIn_r _ [9, 10, 11, 95, 96, 97, 98, 99, 100, 101, 102, 103, 104, 105, 106, 107, 108, 109, 110, 111, 112, 113, 114, 115, 116, 117] (by decide +kernel) (by decide +kernel)
set_option maxRecDepth 20000 in
theorem gX8_told_X8_get : GoodIn wsX8_told (wsV RX8 67 RX8 yX8_get wsX8_get) := goodIn_app (goodIn_of _ (by decide +kernel)) ggX8_told_X8_get
set_option maxRecDepth 20000 in
theorem ggX8_told_X8_tests : GoodIn wsX8_told wsX8_tests := goodIn_r _ [27, 6, 7, 8, 4, 9, 10, 11, 95, 96, 97, 98, 99, 100, 101, 102, 103, 104, 105, 106, 107, 108, 109, 110, 111, 112, 113, 114, 115, 116, 117] (by decide +kernel) (by decide +kernel)
set_option maxRecDepth 20000 in
theorem gX8_told_X8_tests : GoodIn wsX8_told (wsV RX8 124 RX8 yX8_tests wsX8_tests) := goodIn_app (goodIn_of _ (by decide +kernel)) ggX8_told_X8_tests
set_option maxRecDepth 20000 in
theorem ggX8_told_X8_seenMany : GoodIn wsX8_told wsX8_seenMany := goodIn_r _ [31, 24, 25, 26, 4, 27, 6, 7, 8, 9, 10, 11, 16, 17, 18, 19, 32, 33, 34, 35, 95, 96, 97, 98, 99, 100, 101, 102, 103, 104, 105, 106, 107, 108, 109, 110, 111, 112, 113, 114, 115, 116, 117] (by decide +kernel) (by decide +kernel)
set_option maxRecDepth 20000 in
theorem gX8_told_X8_seenMany : GoodIn wsX8_told (wsV RX8 271 RX8 yX8_seenMany wsX8_seenMany) := goodIn_app (goodIn_of _ (by decide +kernel)) ggX8_told_X8_seenMany
set_option maxRecDepth 20000 in
theorem ggX8_told_X8_foundMany : GoodIn wsX8_told wsX8_foundMany := goodIn_r _ [39, 40, 41, 42, 43, 4, 44, 20, 21, 22, 23, 12, 13, 14, 15, 6, 7, 8, 9, 10, 11, 24, 25, 26, 27, 45, 46, 47, 48, 49, 1, 2, 3, 5, 50, 51, 52, 53, 54, 55, 56, 57, 58, 59, 60, 61, 62, 63, 64, 65, 66, 67, 68, 69, 70, 71, 72, 73, 74, 75, 76, 77, 78, 79, 80, 81, 82, 83, 84, 85, 16, 17, 18, 19, 86, 87, 88, 89, 95, 96, 97, 98, 99, 100, 101, 102, 103, 104, 105, 106, 107, 108, 109, 110, 111, 112, 113, 114, 115, 116, 117] (by decide +kernel) (by decide +kernel)
set_option maxRecDepth 20000 in
theorem gX8_told_X8_foundMany : GoodIn wsX8_told (wsV RX8 274 RX8 yX8_foundMany wsX8_foundMany) := goodIn_app (goodIn_of _ (by decide +kernel)) ggX8_told_X8_foundMany
set_option maxRecDepth 20000 in
theorem ggX8_told_X8_levelOf : GoodIn wsX8_told wsX8_levelOf := goodIn_r _ [93, 94, 1, 2, 3, 4, 5, 6, 7, 8, 9, 10, 11, 70, 71, 72, 73, 63, 64, 65, 66, 95, 96, 97, 98, 99, 100, 101, 102, 103, 104, 105, 106, 107, 108, 109, 110, 111, 112, 113, 114, 115, 116, 117] (by decide +kernel) (by decide +kernel)
set_option maxRecDepth 20000 in
theorem gX8_told_X8_levelOf : GoodIn wsX8_told (wsV RX8 277 RX8 yX8_levelOf wsX8_levelOf) := goodIn_app (goodIn_of _ (by decide +kernel)) ggX8_told_X8_levelOf
theorem dX8_told_0 : decode cX8_told 0 = .ok (.iconst 0, 1) := by decide +kernel
theorem dX8_told_1 : decode cX8_told 1 = .ok (.istore_n 2, 1) := by decide +kernel
theorem dX8_told_2 : decode cX8_told 2 = .ok (.iload_n 1, 1) := by decide +kernel
theorem dX8_told_3 : decode cX8_told 3 = .ok (.tableswitch 86 0 7 #[45, 50, 55, 60, 65, 71, 76, 81], 45) := by decide +kernel
theorem dX8_told_48 : decode cX8_told 48 = .ok (.aload_n 0, 1) := by decide +kernel
theorem dX8_told_49 : decode cX8_told 49 = .ok (.invokevirtual 78, 3) := by decide +kernel
theorem dX8_told_52 : decode cX8_told 52 = .ok (.ireturn, 1) := by decide +kernel
theorem dX8_told_53 : decode cX8_told 53 = .ok (.aload_n 0, 1) := by decide +kernel
theorem dX8_told_54 : decode cX8_told 54 = .ok (.invokevirtual 74, 3) := by decide +kernel
theorem dX8_told_57 : decode cX8_told 57 = .ok (.ireturn, 1) := by decide +kernel
theorem dX8_told_58 : decode cX8_told 58 = .ok (.aload_n 0, 1) := by decide +kernel
theorem dX8_told_59 : decode cX8_told 59 = .ok (.invokevirtual 109, 3) := by decide +kernel
theorem dX8_told_62 : decode cX8_told 62 = .ok (.ireturn, 1) := by decide +kernel
theorem dX8_told_63 : decode cX8_told 63 = .ok (.aload_n 0, 1) := by decide +kernel
theorem dX8_told_64 : decode cX8_told 64 = .ok (.invokevirtual 118, 3) := by decide +kernel
theorem dX8_told_67 : decode cX8_told 67 = .ok (.ireturn, 1) := by decide +kernel
theorem dX8_told_68 : decode cX8_told 68 = .ok (.aload_n 0, 1) := by decide +kernel
theorem dX8_told_69 : decode cX8_told 69 = .ok (.iconst 3, 1) := by decide +kernel
theorem dX8_told_70 : decode cX8_told 70 = .ok (.invokevirtual 67, 3) := by decide +kernel
theorem dX8_told_73 : decode cX8_told 73 = .ok (.ireturn, 1) := by decide +kernel
theorem dX8_told_74 : decode cX8_told 74 = .ok (.aload_n 0, 1) := by decide +kernel
theorem dX8_told_75 : decode cX8_told 75 = .ok (.invokevirtual 124, 3) := by decide +kernel
theorem dX8_told_78 : decode cX8_told 78 = .ok (.ireturn, 1) := by decide +kernel
theorem dX8_told_79 : decode cX8_told 79 = .ok (.aload_n 0, 1) := by decide +kernel
theorem dX8_told_80 : decode cX8_told 80 = .ok (.invokevirtual 271, 3) := by decide +kernel
theorem dX8_told_83 : decode cX8_told 83 = .ok (.ireturn, 1) := by decide +kernel
theorem dX8_told_84 : decode cX8_told 84 = .ok (.aload_n 0, 1) := by decide +kernel
theorem dX8_told_85 : decode cX8_told 85 = .ok (.invokevirtual 274, 3) := by decide +kernel
theorem dX8_told_88 : decode cX8_told 88 = .ok (.ireturn, 1) := by decide +kernel
theorem dX8_told_89 : decode cX8_told 89 = .ok (.iconst 0, 1) := by decide +kernel
theorem dX8_told_90 : decode cX8_told 90 = .ok (.istore_n 3, 1) := by decide +kernel
theorem dX8_told_91 : decode cX8_told 91 = .ok (.iload_n 3, 1) := by decide +kernel
theorem dX8_told_92 : decode cX8_told 92 = .ok (.aload_n 0, 1) := by decide +kernel
theorem dX8_told_93 : decode cX8_told 93 = .ok (.invokevirtual 74, 3) := by decide +kernel
theorem dX8_told_96 : decode cX8_told 96 = .ok (.if_icmp .ge 28, 3) := by decide +kernel
theorem dX8_told_99 : decode cX8_told 99 = .ok (.aload_n 0, 1) := by decide +kernel
theorem dX8_told_100 : decode cX8_told 100 = .ok (.iload_n 3, 1) := by decide +kernel
theorem dX8_told_101 : decode cX8_told 101 = .ok (.invokevirtual 277, 3) := by decide +kernel
theorem dX8_told_104 : decode cX8_told 104 = .ok (.iload_n 2, 1) := by decide +kernel
theorem dX8_told_105 : decode cX8_told 105 = .ok (.if_icmp .le 11, 3) := by decide +kernel
theorem dX8_told_108 : decode cX8_told 108 = .ok (.aload_n 0, 1) := by decide +kernel
theorem dX8_told_109 : decode cX8_told 109 = .ok (.iload_n 3, 1) := by decide +kernel
theorem dX8_told_110 : decode cX8_told 110 = .ok (.invokevirtual 277, 3) := by decide +kernel
theorem dX8_told_113 : decode cX8_told 113 = .ok (.goto 4, 3) := by decide +kernel
theorem dX8_told_116 : decode cX8_told 116 = .ok (.iload_n 2, 1) := by decide +kernel
theorem dX8_told_117 : decode cX8_told 117 = .ok (.istore_n 2, 1) := by decide +kernel
theorem dX8_told_118 : decode cX8_told 118 = .ok (.iinc 3 1, 3) := by decide +kernel
theorem dX8_told_121 : decode cX8_told 121 = .ok (.goto (-30), 3) := by decide +kernel
theorem dX8_told_124 : decode cX8_told 124 = .ok (.iload_n 2, 1) := by decide +kernel
theorem dX8_told_125 : decode cX8_told 125 = .ok (.ireturn, 1) := by decide +kernel
set_option maxRecDepth 20000 in
theorem ggX8_state_X8_isIn : GoodIn wsX8_state wsX8_isIn := goodIn_r _ [5] (by decide +kernel) (by decide +kernel)
set_option maxRecDepth 20000 in
theorem gX8_state_X8_isIn : GoodIn wsX8_state (va_wsS RX8 187 yX8_isIn wsX8_isIn) := goodIn_app (goodIn_of _ (by decide +kernel)) ggX8_state_X8_isIn
set_option maxRecDepth 20000 in
theorem ggX8_state_X8_right : GoodIn wsX8_state wsX8_right := goodIn_r _ [9, 1, 107, 108, 109, 110, 111, 112, 113, 114, 115, 116, 117, 118, 119, 120, 121, 122, 123, 124, 125, 126, 127, 128, 129] (by decide +kernel) (by decide +kernel)
set_option maxRecDepth 20000 in
theorem gX8_state_X8_right : GoodIn wsX8_state (wsV RX8 261 RX8 yX8_right wsX8_right) := goodIn_app (goodIn_of _ (by decide +kernel)) ggX8_state_X8_right
set_option maxRecDepth 20000 in
theorem ggX8_state_X8_told : GoodIn wsX8_state wsX8_told := goodIn_r _ [13, 14, 15, 16, 4, 17, 18, 19, 20, 21, 22, 23, 24, 25, 26, 27, 28, 29, 30, 31, 32, 33, 34, 35, 36, 37, 38, 39, 40, 41, 42, 43, 44, 45, 46, 47, 48, 49, 50, 51, 52, 53, 54, 55, 56, 57, 58, 59, 60, 61, 62, 63, 64, 65, 66, 67, 68, 69, 70, 71, 72, 73, 74, 75, 76, 77, 78, 79, 80, 81, 82, 83, 84, 85, 86, 87, 88, 89, 90, 91, 92, 93, 94, 95, 96, 97, 98, 99, 100, 101, 102, 103, 104, 105, 106, 107, 108, 109, 110, 111, 112, 113, 114, 115, 116, 117, 118, 119, 120, 121, 122, 123, 124, 125, 126, 127, 128, 129] (by decide +kernel) (by decide +kernel)
set_option maxRecDepth 20000 in
theorem gX8_state_X8_told : GoodIn wsX8_state (wsV RX8 280 RX8 yX8_told wsX8_told) := goodIn_app (goodIn_of _ (by decide +kernel)) ggX8_state_X8_told
theorem dX8_state_0 : decode cX8_state 0 = .ok (.aload_n 0, 1) := by decide +kernel
theorem dX8_state_1 : decode cX8_state 1 = .ok (.iconst 0, 1) := by decide +kernel
theorem dX8_state_2 : decode cX8_state 2 = .ok (.putfield 61, 3) := by decide +kernel
theorem dX8_state_5 : decode cX8_state 5 = .ok (.aload_n 0, 1) := by decide +kernel
theorem dX8_state_6 : decode cX8_state 6 = .ok (.iload_n 1, 1) := by decide +kernel
theorem dX8_state_7 : decode cX8_state 7 = .ok (.iconst 0, 1) := by decide +kernel
theorem dX8_state_8 : decode cX8_state 8 = .ok (.bipush 8, 2) := by decide +kernel
theorem dX8_state_10 : decode cX8_state 10 = .ok (.invokestatic 187, 3) := by decide +kernel
theorem dX8_state_13 : decode cX8_state 13 = .ok (.iconst 1, 1) := by decide +kernel
theorem dX8_state_14 : decode cX8_state 14 = .ok (.invokevirtual 261, 3) := by decide +kernel
theorem dX8_state_17 : decode cX8_state 17 = .ok (.ifCond .eq 11, 3) := by decide +kernel
theorem dX8_state_20 : decode cX8_state 20 = .ok (.aload_n 0, 1) := by decide +kernel
theorem dX8_state_21 : decode cX8_state 21 = .ok (.iload_n 1, 1) := by decide +kernel
theorem dX8_state_22 : decode cX8_state 22 = .ok (.invokevirtual 280, 3) := by decide +kernel
theorem dX8_state_25 : decode cX8_state 25 = .ok (.goto 4, 3) := by decide +kernel
theorem dX8_state_28 : decode cX8_state 28 = .ok (.iconst 0, 1) := by decide +kernel
theorem dX8_state_29 : decode cX8_state 29 = .ok (.ireturn, 1) := by decide +kernel
set_option maxRecDepth 20000 in
theorem ggX8_usesOf_X8_inputs : GoodIn wsX8_usesOf wsX8_inputs := goodIn_r _ [5, 6, 7, 8, 4, 9, 10, 11, 24, 25, 26, 27, 28, 29, 30, 31, 32, 33, 34, 35, 36, 37, 38, 39, 40, 41, 42, 43, 44, 45, 46] (by decide +kernel) (by decide +kernel)
set_option maxRecDepth 20000 in
theorem gX8_usesOf_X8_inputs : GoodIn wsX8_usesOf (wsV RX8 78 RX8 yX8_inputs wsX8_inputs) := goodIn_app (goodIn_of _ (by decide +kernel)) ggX8_usesOf_X8_inputs
set_option maxRecDepth 20000 in
theorem ggX8_usesOf_X8_wires : GoodIn wsX8_usesOf wsX8_wires := goodIn_r _ [15, 6, 7, 8, 4, 9, 10, 11, 24, 25, 26, 27, 28, 29, 30, 31, 32, 33, 34, 35, 36, 37, 38, 39, 40, 41, 42, 43, 44, 45, 46] (by decide +kernel) (by decide +kernel)
set_option maxRecDepth 20000 in
theorem gX8_usesOf_X8_wires : GoodIn wsX8_usesOf (wsV RX8 74 RX8 yX8_wires wsX8_wires) := goodIn_app (goodIn_of _ (by decide +kernel)) ggX8_usesOf_X8_wires
set_option maxRecDepth 20000 in
theorem ggX8_usesOf_X8_have : GoodIn wsX8_usesOf wsX8_have := goodIn_r _ [19, 6, 7, 8, 4, 9, 10, 11, 24, 25, 26, 27, 28, 29, 30, 31, 32, 33, 34, 35, 36, 37, 38, 39, 40, 41, 42, 43, 44, 45, 46] (by decide +kernel) (by decide +kernel)
set_option maxRecDepth 20000 in
theorem gX8_usesOf_X8_have : GoodIn wsX8_usesOf (wsV RX8 81 RX8 yX8_have wsX8_have) := goodIn_app (goodIn_of _ (by decide +kernel)) ggX8_usesOf_X8_have
set_option maxRecDepth 20000 in
theorem ggX8_usesOf_X8_operandOf : GoodIn wsX8_usesOf wsX8_operandOf := goodIn_r _ [23, 6, 7, 8, 4, 9, 10, 11, 24, 25, 26, 27, 28, 29, 30, 31, 32, 33, 34, 35, 36, 37, 38, 39, 40, 41, 42, 43, 44, 45, 46] (by decide +kernel) (by decide +kernel)
set_option maxRecDepth 20000 in
theorem gX8_usesOf_X8_operandOf : GoodIn wsX8_usesOf (wsV RX8 84 RX8 yX8_operandOf wsX8_operandOf) := goodIn_app (goodIn_of _ (by decide +kernel)) ggX8_usesOf_X8_operandOf
theorem dX8_usesOf_0 : decode cX8_usesOf 0 = .ok (.iconst 0, 1) := by decide +kernel
theorem dX8_usesOf_1 : decode cX8_usesOf 1 = .ok (.istore_n 2, 1) := by decide +kernel
theorem dX8_usesOf_2 : decode cX8_usesOf 2 = .ok (.aload_n 0, 1) := by decide +kernel
theorem dX8_usesOf_3 : decode cX8_usesOf 3 = .ok (.invokevirtual 78, 3) := by decide +kernel
theorem dX8_usesOf_6 : decode cX8_usesOf 6 = .ok (.istore_n 3, 1) := by decide +kernel
theorem dX8_usesOf_7 : decode cX8_usesOf 7 = .ok (.iload_n 3, 1) := by decide +kernel
theorem dX8_usesOf_8 : decode cX8_usesOf 8 = .ok (.aload_n 0, 1) := by decide +kernel
theorem dX8_usesOf_9 : decode cX8_usesOf 9 = .ok (.invokevirtual 74, 3) := by decide +kernel
theorem dX8_usesOf_12 : decode cX8_usesOf 12 = .ok (.if_icmp .ge 47, 3) := by decide +kernel
theorem dX8_usesOf_15 : decode cX8_usesOf 15 = .ok (.iconst 0, 1) := by decide +kernel
theorem dX8_usesOf_16 : decode cX8_usesOf 16 = .ok (.istore 4, 2) := by decide +kernel
theorem dX8_usesOf_18 : decode cX8_usesOf 18 = .ok (.iload 4, 2) := by decide +kernel
theorem dX8_usesOf_20 : decode cX8_usesOf 20 = .ok (.aload_n 0, 1) := by decide +kernel
theorem dX8_usesOf_21 : decode cX8_usesOf 21 = .ok (.iload_n 3, 1) := by decide +kernel
theorem dX8_usesOf_22 : decode cX8_usesOf 22 = .ok (.invokevirtual 81, 3) := by decide +kernel
theorem dX8_usesOf_25 : decode cX8_usesOf 25 = .ok (.if_icmp .ge 28, 3) := by decide +kernel
theorem dX8_usesOf_28 : decode cX8_usesOf 28 = .ok (.iload_n 2, 1) := by decide +kernel
theorem dX8_usesOf_29 : decode cX8_usesOf 29 = .ok (.aload_n 0, 1) := by decide +kernel
theorem dX8_usesOf_30 : decode cX8_usesOf 30 = .ok (.iload_n 3, 1) := by decide +kernel
theorem dX8_usesOf_31 : decode cX8_usesOf 31 = .ok (.iload 4, 2) := by decide +kernel
theorem dX8_usesOf_33 : decode cX8_usesOf 33 = .ok (.invokevirtual 84, 3) := by decide +kernel
theorem dX8_usesOf_36 : decode cX8_usesOf 36 = .ok (.iload_n 1, 1) := by decide +kernel
theorem dX8_usesOf_37 : decode cX8_usesOf 37 = .ok (.if_icmp .ne 7, 3) := by decide +kernel
theorem dX8_usesOf_40 : decode cX8_usesOf 40 = .ok (.iconst 1, 1) := by decide +kernel
theorem dX8_usesOf_41 : decode cX8_usesOf 41 = .ok (.goto 4, 3) := by decide +kernel
theorem dX8_usesOf_44 : decode cX8_usesOf 44 = .ok (.iconst 0, 1) := by decide +kernel
theorem dX8_usesOf_45 : decode cX8_usesOf 45 = .ok (.iadd, 1) := by decide +kernel
theorem dX8_usesOf_46 : decode cX8_usesOf 46 = .ok (.istore_n 2, 1) := by decide +kernel
theorem dX8_usesOf_47 : decode cX8_usesOf 47 = .ok (.iinc 4 1, 3) := by decide +kernel
theorem dX8_usesOf_50 : decode cX8_usesOf 50 = .ok (.goto (-32), 3) := by decide +kernel
theorem dX8_usesOf_53 : decode cX8_usesOf 53 = .ok (.iinc 3 1, 3) := by decide +kernel
theorem dX8_usesOf_56 : decode cX8_usesOf 56 = .ok (.goto (-49), 3) := by decide +kernel
theorem dX8_usesOf_59 : decode cX8_usesOf 59 = .ok (.iload_n 2, 1) := by decide +kernel
theorem dX8_usesOf_60 : decode cX8_usesOf 60 = .ok (.ireturn, 1) := by decide +kernel
set_option maxRecDepth 20000 in
theorem ggX8_outputOf_X8_outputs : GoodIn wsX8_outputOf wsX8_outputs := goodIn_r _ [5, 6, 7, 8, 4, 9, 10, 11, 12, 13, 14, 15, 16, 17, 18, 19, 20, 21, 22, 23, 24, 25, 26, 27, 28, 29, 30, 31, 32, 33, 34] (by decide +kernel) (by decide +kernel)
set_option maxRecDepth 20000 in
theorem gX8_outputOf_X8_outputs : GoodIn wsX8_outputOf (wsV RX8 109 RX8 yX8_outputs wsX8_outputs) := goodIn_app (goodIn_of _ (by decide +kernel)) ggX8_outputOf_X8_outputs
set_option maxRecDepth 20000 in
theorem ggX8_outputOf_X8_get : GoodIn wsX8_outputOf wsX8_get := goodIn_r _ [9, 10, 11, 12, 13, 14, 15, 16, 17, 18, 19, 20, 21, 22, 23, 24, 25, 26, 27, 28, 29, 30, 31, 32, 33, 34] (by decide +kernel) (by decide +kernel)
set_option maxRecDepth 20000 in
theorem gX8_outputOf_X8_get : GoodIn wsX8_outputOf (wsV RX8 67 RX8 yX8_get wsX8_get) := goodIn_app (goodIn_of _ (by decide +kernel)) ggX8_outputOf_X8_get
theorem dX8_outputOf_0 : decode cX8_outputOf 0 = .ok (.iconst 0, 1) := by decide +kernel
theorem dX8_outputOf_1 : decode cX8_outputOf 1 = .ok (.istore_n 2, 1) := by decide +kernel
theorem dX8_outputOf_2 : decode cX8_outputOf 2 = .ok (.iload_n 2, 1) := by decide +kernel
theorem dX8_outputOf_3 : decode cX8_outputOf 3 = .ok (.aload_n 0, 1) := by decide +kernel
theorem dX8_outputOf_4 : decode cX8_outputOf 4 = .ok (.invokevirtual 109, 3) := by decide +kernel
theorem dX8_outputOf_7 : decode cX8_outputOf 7 = .ok (.if_icmp .ge 24, 3) := by decide +kernel
theorem dX8_outputOf_10 : decode cX8_outputOf 10 = .ok (.aload_n 0, 1) := by decide +kernel
theorem dX8_outputOf_11 : decode cX8_outputOf 11 = .ok (.sipush 152, 3) := by decide +kernel
theorem dX8_outputOf_14 : decode cX8_outputOf 14 = .ok (.iload_n 2, 1) := by decide +kernel
theorem dX8_outputOf_15 : decode cX8_outputOf 15 = .ok (.iadd, 1) := by decide +kernel
theorem dX8_outputOf_16 : decode cX8_outputOf 16 = .ok (.invokevirtual 67, 3) := by decide +kernel
theorem dX8_outputOf_19 : decode cX8_outputOf 19 = .ok (.iload_n 1, 1) := by decide +kernel
theorem dX8_outputOf_20 : decode cX8_outputOf 20 = .ok (.if_icmp .ne 5, 3) := by decide +kernel
theorem dX8_outputOf_23 : decode cX8_outputOf 23 = .ok (.iload_n 2, 1) := by decide +kernel
theorem dX8_outputOf_24 : decode cX8_outputOf 24 = .ok (.ireturn, 1) := by decide +kernel
theorem dX8_outputOf_25 : decode cX8_outputOf 25 = .ok (.iinc 2 1, 3) := by decide +kernel
theorem dX8_outputOf_28 : decode cX8_outputOf 28 = .ok (.goto (-26), 3) := by decide +kernel
theorem dX8_outputOf_31 : decode cX8_outputOf 31 = .ok (.iconst (-1), 1) := by decide +kernel
theorem dX8_outputOf_32 : decode cX8_outputOf 32 = .ok (.ireturn, 1) := by decide +kernel
set_option maxRecDepth 20000 in
theorem ggX8_ofWire_X8_kindOf : GoodIn wsX8_ofWire wsX8_kindOf := goodIn_r _ [5, 6, 7, 8, 4, 9, 10, 11, 45, 46, 47, 48, 49, 50, 51, 52, 53, 54, 55, 56, 57, 58, 59, 60, 61, 62, 63, 64, 65, 66, 67] (by decide +kernel) (by decide +kernel)
set_option maxRecDepth 20000 in
theorem gX8_ofWire_X8_kindOf : GoodIn wsX8_ofWire (wsV RX8 88 RX8 yX8_kindOf wsX8_kindOf) := goodIn_app (goodIn_of _ (by decide +kernel)) ggX8_ofWire_X8_kindOf
set_option maxRecDepth 20000 in
theorem ggX8_ofWire_X8_have : GoodIn wsX8_ofWire wsX8_have := goodIn_r _ [15, 6, 7, 8, 4, 9, 10, 11, 45, 46, 47, 48, 49, 50, 51, 52, 53, 54, 55, 56, 57, 58, 59, 60, 61, 62, 63, 64, 65, 66, 67] (by decide +kernel) (by decide +kernel)
set_option maxRecDepth 20000 in
theorem gX8_ofWire_X8_have : GoodIn wsX8_ofWire (wsV RX8 81 RX8 yX8_have wsX8_have) := goodIn_app (goodIn_of _ (by decide +kernel)) ggX8_ofWire_X8_have
set_option maxRecDepth 20000 in
theorem ggX8_ofWire_X8_levelOf : GoodIn wsX8_ofWire wsX8_levelOf := goodIn_r _ [19, 20, 21, 22, 23, 4, 24, 6, 7, 8, 9, 10, 11, 12, 13, 14, 15, 25, 26, 27, 28, 45, 46, 47, 48, 49, 50, 51, 52, 53, 54, 55, 56, 57, 58, 59, 60, 61, 62, 63, 64, 65, 66, 67] (by decide +kernel) (by decide +kernel)
set_option maxRecDepth 20000 in
theorem gX8_ofWire_X8_levelOf : GoodIn wsX8_ofWire (wsV RX8 277 RX8 yX8_levelOf wsX8_levelOf) := goodIn_app (goodIn_of _ (by decide +kernel)) ggX8_ofWire_X8_levelOf
set_option maxRecDepth 20000 in
theorem ggX8_ofWire_X8_usesOf : GoodIn wsX8_ofWire wsX8_usesOf := goodIn_r _ [32, 21, 22, 23, 4, 24, 6, 7, 8, 9, 10, 11, 33, 34, 35, 36, 12, 13, 14, 15, 25, 26, 27, 28, 45, 46, 47, 48, 49, 50, 51, 52, 53, 54, 55, 56, 57, 58, 59, 60, 61, 62, 63, 64, 65, 66, 67] (by decide +kernel) (by decide +kernel)
set_option maxRecDepth 20000 in
theorem gX8_ofWire_X8_usesOf : GoodIn wsX8_ofWire (wsV RX8 283 RX8 yX8_usesOf wsX8_usesOf) := goodIn_app (goodIn_of _ (by decide +kernel)) ggX8_ofWire_X8_usesOf
set_option maxRecDepth 20000 in
theorem ggX8_ofWire_X8_outputOf : GoodIn wsX8_ofWire wsX8_outputOf := goodIn_r _ [40, 41, 42, 43, 4, 44, 6, 7, 8, 9, 10, 11, 45, 46, 47, 48, 49, 50, 51, 52, 53, 54, 55, 56, 57, 58, 59, 60, 61, 62, 63, 64, 65, 66, 67] (by decide +kernel) (by decide +kernel)
set_option maxRecDepth 20000 in
theorem gX8_ofWire_X8_outputOf : GoodIn wsX8_ofWire (wsV RX8 286 RX8 yX8_outputOf wsX8_outputOf) := goodIn_app (goodIn_of _ (by decide +kernel)) ggX8_ofWire_X8_outputOf
theorem dX8_ofWire_0 : decode cX8_ofWire 0 = .ok (.iload_n 2, 1) := by decide +kernel
theorem dX8_ofWire_1 : decode cX8_ofWire 1 = .ok (.tableswitch 55 0 3 #[31, 37, 43, 49], 31) := by decide +kernel
theorem dX8_ofWire_32 : decode cX8_ofWire 32 = .ok (.aload_n 0, 1) := by decide +kernel
theorem dX8_ofWire_33 : decode cX8_ofWire 33 = .ok (.iload_n 1, 1) := by decide +kernel
theorem dX8_ofWire_34 : decode cX8_ofWire 34 = .ok (.invokevirtual 88, 3) := by decide +kernel
theorem dX8_ofWire_37 : decode cX8_ofWire 37 = .ok (.ireturn, 1) := by decide +kernel
theorem dX8_ofWire_38 : decode cX8_ofWire 38 = .ok (.aload_n 0, 1) := by decide +kernel
theorem dX8_ofWire_39 : decode cX8_ofWire 39 = .ok (.iload_n 1, 1) := by decide +kernel
theorem dX8_ofWire_40 : decode cX8_ofWire 40 = .ok (.invokevirtual 81, 3) := by decide +kernel
theorem dX8_ofWire_43 : decode cX8_ofWire 43 = .ok (.ireturn, 1) := by decide +kernel
theorem dX8_ofWire_44 : decode cX8_ofWire 44 = .ok (.aload_n 0, 1) := by decide +kernel
theorem dX8_ofWire_45 : decode cX8_ofWire 45 = .ok (.iload_n 1, 1) := by decide +kernel
theorem dX8_ofWire_46 : decode cX8_ofWire 46 = .ok (.invokevirtual 277, 3) := by decide +kernel
theorem dX8_ofWire_49 : decode cX8_ofWire 49 = .ok (.ireturn, 1) := by decide +kernel
theorem dX8_ofWire_50 : decode cX8_ofWire 50 = .ok (.aload_n 0, 1) := by decide +kernel
theorem dX8_ofWire_51 : decode cX8_ofWire 51 = .ok (.iload_n 1, 1) := by decide +kernel
theorem dX8_ofWire_52 : decode cX8_ofWire 52 = .ok (.invokevirtual 283, 3) := by decide +kernel
theorem dX8_ofWire_55 : decode cX8_ofWire 55 = .ok (.ireturn, 1) := by decide +kernel
theorem dX8_ofWire_56 : decode cX8_ofWire 56 = .ok (.aload_n 0, 1) := by decide +kernel
theorem dX8_ofWire_57 : decode cX8_ofWire 57 = .ok (.iload_n 1, 1) := by decide +kernel
theorem dX8_ofWire_58 : decode cX8_ofWire 58 = .ok (.invokevirtual 286, 3) := by decide +kernel
theorem dX8_ofWire_61 : decode cX8_ofWire 61 = .ok (.ireturn, 1) := by decide +kernel
set_option maxRecDepth 20000 in
theorem ggX8_wire_X8_isWire : GoodIn wsX8_wire wsX8_isWire := goodIn_r _ [6, 7, 8, 9, 5, 10, 11, 12, 13, 14, 15, 16, 17, 18, 19, 20, 21, 22, 23, 1, 61, 62, 63, 64, 65, 66, 67, 68, 69, 70, 71, 72, 73, 74, 75, 76, 77, 78, 79, 80, 81, 82, 83] (by decide +kernel) (by decide +kernel)
set_option maxRecDepth 20000 in
theorem gX8_wire_X8_isWire : GoodIn wsX8_wire (wsV RX8 289 RX8 yX8_isWire wsX8_isWire) := goodIn_app (goodIn_of _ (by decide +kernel)) ggX8_wire_X8_isWire
set_option maxRecDepth 20000 in
theorem ggX8_wire_X8_isIn : GoodIn wsX8_wire wsX8_isIn := goodIn_r _ [19] (by decide +kernel) (by decide +kernel)
set_option maxRecDepth 20000 in
theorem gX8_wire_X8_isIn : GoodIn wsX8_wire (va_wsS RX8 187 yX8_isIn wsX8_isIn) := goodIn_app (goodIn_of _ (by decide +kernel)) ggX8_wire_X8_isIn
set_option maxRecDepth 20000 in
theorem ggX8_wire_X8_right : GoodIn wsX8_wire wsX8_right := goodIn_r _ [23, 1, 61, 62, 63, 64, 65, 66, 67, 68, 69, 70, 71, 72, 73, 74, 75, 76, 77, 78, 79, 80, 81, 82, 83] (by decide +kernel) (by decide +kernel)
set_option maxRecDepth 20000 in
theorem gX8_wire_X8_right : GoodIn wsX8_wire (wsV RX8 261 RX8 yX8_right wsX8_right) := goodIn_app (goodIn_of _ (by decide +kernel)) ggX8_wire_X8_right
set_option maxRecDepth 20000 in
theorem ggX8_wire_X8_ofWire : GoodIn wsX8_wire wsX8_ofWire := goodIn_r _ [27, 28, 29, 30, 5, 31, 11, 12, 13, 14, 15, 16, 32, 33, 34, 35, 36, 37, 38, 39, 40, 41, 42, 43, 44, 45, 46, 47, 48, 49, 50, 51, 52, 7, 8, 9, 10, 53, 54, 55, 56, 57, 58, 59, 60, 61, 62, 63, 64, 65, 66, 67, 68, 69, 70, 71, 72, 73, 74, 75, 76, 77, 78, 79, 80, 81, 82, 83] (by decide +kernel) (by decide +kernel)
set_option maxRecDepth 20000 in
theorem gX8_wire_X8_ofWire : GoodIn wsX8_wire (wsV RX8 292 RX8 yX8_ofWire wsX8_ofWire) := goodIn_app (goodIn_of _ (by decide +kernel)) ggX8_wire_X8_ofWire
theorem dX8_wire_0 : decode cX8_wire 0 = .ok (.aload_n 0, 1) := by decide +kernel
theorem dX8_wire_1 : decode cX8_wire 1 = .ok (.iconst 0, 1) := by decide +kernel
theorem dX8_wire_2 : decode cX8_wire 2 = .ok (.putfield 61, 3) := by decide +kernel
theorem dX8_wire_5 : decode cX8_wire 5 = .ok (.aload_n 0, 1) := by decide +kernel
theorem dX8_wire_6 : decode cX8_wire 6 = .ok (.iload_n 1, 1) := by decide +kernel
theorem dX8_wire_7 : decode cX8_wire 7 = .ok (.invokevirtual 289, 3) := by decide +kernel
theorem dX8_wire_10 : decode cX8_wire 10 = .ok (.ifCond .eq 26, 3) := by decide +kernel
theorem dX8_wire_13 : decode cX8_wire 13 = .ok (.aload_n 0, 1) := by decide +kernel
theorem dX8_wire_14 : decode cX8_wire 14 = .ok (.iload_n 2, 1) := by decide +kernel
theorem dX8_wire_15 : decode cX8_wire 15 = .ok (.iconst 0, 1) := by decide +kernel
theorem dX8_wire_16 : decode cX8_wire 16 = .ok (.iconst 4, 1) := by decide +kernel
theorem dX8_wire_17 : decode cX8_wire 17 = .ok (.invokestatic 187, 3) := by decide +kernel
theorem dX8_wire_20 : decode cX8_wire 20 = .ok (.iconst 2, 1) := by decide +kernel
theorem dX8_wire_21 : decode cX8_wire 21 = .ok (.invokevirtual 261, 3) := by decide +kernel
theorem dX8_wire_24 : decode cX8_wire 24 = .ok (.ifCond .eq 12, 3) := by decide +kernel
theorem dX8_wire_27 : decode cX8_wire 27 = .ok (.aload_n 0, 1) := by decide +kernel
theorem dX8_wire_28 : decode cX8_wire 28 = .ok (.iload_n 1, 1) := by decide +kernel
theorem dX8_wire_29 : decode cX8_wire 29 = .ok (.iload_n 2, 1) := by decide +kernel
theorem dX8_wire_30 : decode cX8_wire 30 = .ok (.invokevirtual 292, 3) := by decide +kernel
theorem dX8_wire_33 : decode cX8_wire 33 = .ok (.goto 4, 3) := by decide +kernel
theorem dX8_wire_36 : decode cX8_wire 36 = .ok (.iconst 0, 1) := by decide +kernel
theorem dX8_wire_37 : decode cX8_wire 37 = .ok (.ireturn, 1) := by decide +kernel
set_option maxRecDepth 20000 in
theorem ggX8_operand_X8_isWire : GoodIn wsX8_operand wsX8_isWire := goodIn_r _ [6, 7, 8, 9, 5, 10, 11, 12, 13, 14, 15, 16, 17, 18, 19, 20, 21, 22, 23, 1, 32, 33, 34, 35, 36, 37, 38, 39, 40, 41, 42, 43, 44, 45, 46, 47, 48, 49, 50, 51, 52, 53, 54] (by decide +kernel) (by decide +kernel)
set_option maxRecDepth 20000 in
theorem gX8_operand_X8_isWire : GoodIn wsX8_operand (wsV RX8 289 RX8 yX8_isWire wsX8_isWire) := goodIn_app (goodIn_of _ (by decide +kernel)) ggX8_operand_X8_isWire
set_option maxRecDepth 20000 in
theorem ggX8_operand_X8_have : GoodIn wsX8_operand wsX8_have := goodIn_r _ [27, 11, 12, 13, 5, 14, 15, 16, 32, 33, 34, 35, 36, 37, 38, 39, 40, 41, 42, 43, 44, 45, 46, 47, 48, 49, 50, 51, 52, 53, 54] (by decide +kernel) (by decide +kernel)
set_option maxRecDepth 20000 in
theorem gX8_operand_X8_have : GoodIn wsX8_operand (wsV RX8 81 RX8 yX8_have wsX8_have) := goodIn_app (goodIn_of _ (by decide +kernel)) ggX8_operand_X8_have
set_option maxRecDepth 20000 in
theorem ggX8_operand_X8_isIn : GoodIn wsX8_operand wsX8_isIn := goodIn_r _ [19] (by decide +kernel) (by decide +kernel)
set_option maxRecDepth 20000 in
theorem gX8_operand_X8_isIn : GoodIn wsX8_operand (va_wsS RX8 187 yX8_isIn wsX8_isIn) := goodIn_app (goodIn_of _ (by decide +kernel)) ggX8_operand_X8_isIn
set_option maxRecDepth 20000 in
theorem ggX8_operand_X8_right : GoodIn wsX8_operand wsX8_right := goodIn_r _ [23, 1, 32, 33, 34, 35, 36, 37, 38, 39, 40, 41, 42, 43, 44, 45, 46, 47, 48, 49, 50, 51, 52, 53, 54] (by decide +kernel) (by decide +kernel)
set_option maxRecDepth 20000 in
theorem gX8_operand_X8_right : GoodIn wsX8_operand (wsV RX8 261 RX8 yX8_right wsX8_right) := goodIn_app (goodIn_of _ (by decide +kernel)) ggX8_operand_X8_right
set_option maxRecDepth 20000 in
theorem ggX8_operand_X8_operandOf : GoodIn wsX8_operand wsX8_operandOf := goodIn_r _ [31, 11, 12, 13, 5, 14, 15, 16, 32, 33, 34, 35, 36, 37, 38, 39, 40, 41, 42, 43, 44, 45, 46, 47, 48, 49, 50, 51, 52, 53, 54] (by decide +kernel) (by decide +kernel)
set_option maxRecDepth 20000 in
theorem gX8_operand_X8_operandOf : GoodIn wsX8_operand (wsV RX8 84 RX8 yX8_operandOf wsX8_operandOf) := goodIn_app (goodIn_of _ (by decide +kernel)) ggX8_operand_X8_operandOf
theorem dX8_operand_0 : decode cX8_operand 0 = .ok (.aload_n 0, 1) := by decide +kernel
theorem dX8_operand_1 : decode cX8_operand 1 = .ok (.iconst 0, 1) := by decide +kernel
theorem dX8_operand_2 : decode cX8_operand 2 = .ok (.putfield 61, 3) := by decide +kernel
theorem dX8_operand_5 : decode cX8_operand 5 = .ok (.aload_n 0, 1) := by decide +kernel
theorem dX8_operand_6 : decode cX8_operand 6 = .ok (.iload_n 1, 1) := by decide +kernel
theorem dX8_operand_7 : decode cX8_operand 7 = .ok (.invokevirtual 289, 3) := by decide +kernel
theorem dX8_operand_10 : decode cX8_operand 10 = .ok (.ifCond .eq 32, 3) := by decide +kernel
theorem dX8_operand_13 : decode cX8_operand 13 = .ok (.aload_n 0, 1) := by decide +kernel
theorem dX8_operand_14 : decode cX8_operand 14 = .ok (.iload_n 2, 1) := by decide +kernel
theorem dX8_operand_15 : decode cX8_operand 15 = .ok (.iconst 0, 1) := by decide +kernel
theorem dX8_operand_16 : decode cX8_operand 16 = .ok (.aload_n 0, 1) := by decide +kernel
theorem dX8_operand_17 : decode cX8_operand 17 = .ok (.iload_n 1, 1) := by decide +kernel
theorem dX8_operand_18 : decode cX8_operand 18 = .ok (.invokevirtual 81, 3) := by decide +kernel
theorem dX8_operand_21 : decode cX8_operand 21 = .ok (.iconst 1, 1) := by decide +kernel
theorem dX8_operand_22 : decode cX8_operand 22 = .ok (.isub, 1) := by decide +kernel
theorem dX8_operand_23 : decode cX8_operand 23 = .ok (.invokestatic 187, 3) := by decide +kernel
theorem dX8_operand_26 : decode cX8_operand 26 = .ok (.iconst 2, 1) := by decide +kernel
theorem dX8_operand_27 : decode cX8_operand 27 = .ok (.invokevirtual 261, 3) := by decide +kernel
theorem dX8_operand_30 : decode cX8_operand 30 = .ok (.ifCond .eq 12, 3) := by decide +kernel
theorem dX8_operand_33 : decode cX8_operand 33 = .ok (.aload_n 0, 1) := by decide +kernel
theorem dX8_operand_34 : decode cX8_operand 34 = .ok (.iload_n 1, 1) := by decide +kernel
theorem dX8_operand_35 : decode cX8_operand 35 = .ok (.iload_n 2, 1) := by decide +kernel
theorem dX8_operand_36 : decode cX8_operand 36 = .ok (.invokevirtual 84, 3) := by decide +kernel
theorem dX8_operand_39 : decode cX8_operand 39 = .ok (.goto 4, 3) := by decide +kernel
theorem dX8_operand_42 : decode cX8_operand 42 = .ok (.iconst 0, 1) := by decide +kernel
theorem dX8_operand_43 : decode cX8_operand 43 = .ok (.ireturn, 1) := by decide +kernel
set_option maxRecDepth 20000 in
theorem ggX8_value_X8_isTest : GoodIn wsX8_value wsX8_isTest := goodIn_r _ [7, 8, 9, 10, 6, 11, 12, 13, 14, 15, 16, 17, 18, 19, 20, 21, 22, 23, 24, 1, 68, 69, 70, 71, 72, 73, 74, 75, 76, 77, 78, 79, 80, 81, 82, 83, 84, 85, 86, 87, 88, 89, 90] (by decide +kernel) (by decide +kernel)
set_option maxRecDepth 20000 in
theorem gX8_value_X8_isTest : GoodIn wsX8_value (wsV RX8 295 RX8 yX8_isTest wsX8_isTest) := goodIn_app (goodIn_of _ (by decide +kernel)) ggX8_value_X8_isTest
set_option maxRecDepth 20000 in
theorem ggX8_value_X8_isWire : GoodIn wsX8_value wsX8_isWire := goodIn_r _ [28, 29, 30, 31, 6, 32, 12, 13, 14, 15, 16, 17, 18, 19, 20, 21, 22, 23, 24, 1, 68, 69, 70, 71, 72, 73, 74, 75, 76, 77, 78, 79, 80, 81, 82, 83, 84, 85, 86, 87, 88, 89, 90] (by decide +kernel) (by decide +kernel)
set_option maxRecDepth 20000 in
theorem gX8_value_X8_isWire : GoodIn wsX8_value (wsV RX8 289 RX8 yX8_isWire wsX8_isWire) := goodIn_app (goodIn_of _ (by decide +kernel)) ggX8_value_X8_isWire
set_option maxRecDepth 20000 in
theorem ggX8_value_X8_asksTest : GoodIn wsX8_value wsX8_asksTest := goodIn_r _ [36, 37, 38, 39, 40, 6, 41, 12, 13, 14, 15, 16, 17, 42, 43, 44, 45, 2, 29, 30, 31, 32, 46, 47, 48, 49, 50, 51, 52, 53, 54, 55, 56, 57, 58, 59, 60, 61, 62, 63, 64, 65, 66, 67, 68, 69, 70, 71, 72, 73, 74, 75, 76, 77, 78, 79, 80, 81, 82, 83, 84, 85, 86, 87, 88, 89, 90] (by decide +kernel) (by decide +kernel)
set_option maxRecDepth 20000 in
theorem gX8_value_X8_asksTest : GoodIn wsX8_value (wsV RX8 115 RX8 yX8_asksTest wsX8_asksTest) := goodIn_app (goodIn_of _ (by decide +kernel)) ggX8_value_X8_asksTest
theorem dX8_value_0 : decode cX8_value 0 = .ok (.aload_n 0, 1) := by decide +kernel
theorem dX8_value_1 : decode cX8_value 1 = .ok (.iconst 0, 1) := by decide +kernel
theorem dX8_value_2 : decode cX8_value 2 = .ok (.putfield 61, 3) := by decide +kernel
theorem dX8_value_5 : decode cX8_value 5 = .ok (.aload_n 0, 1) := by decide +kernel
theorem dX8_value_6 : decode cX8_value 6 = .ok (.iload_n 1, 1) := by decide +kernel
theorem dX8_value_7 : decode cX8_value 7 = .ok (.invokevirtual 295, 3) := by decide +kernel
theorem dX8_value_10 : decode cX8_value 10 = .ok (.ifCond .eq 11, 3) := by decide +kernel
theorem dX8_value_13 : decode cX8_value 13 = .ok (.aload_n 0, 1) := by decide +kernel
theorem dX8_value_14 : decode cX8_value 14 = .ok (.iload_n 2, 1) := by decide +kernel
theorem dX8_value_15 : decode cX8_value 15 = .ok (.invokevirtual 289, 3) := by decide +kernel
theorem dX8_value_18 : decode cX8_value 18 = .ok (.ifCond .ne 5, 3) := by decide +kernel
theorem dX8_value_21 : decode cX8_value 21 = .ok (.iconst 0, 1) := by decide +kernel
theorem dX8_value_22 : decode cX8_value 22 = .ok (.ireturn, 1) := by decide +kernel
theorem dX8_value_23 : decode cX8_value 23 = .ok (.aload_n 0, 1) := by decide +kernel
theorem dX8_value_24 : decode cX8_value 24 = .ok (.iload_n 1, 1) := by decide +kernel
theorem dX8_value_25 : decode cX8_value 25 = .ok (.invokevirtual 115, 3) := by decide +kernel
theorem dX8_value_28 : decode cX8_value 28 = .ok (.aload_n 0, 1) := by decide +kernel
theorem dX8_value_29 : decode cX8_value 29 = .ok (.getfield 22, 3) := by decide +kernel
theorem dX8_value_32 : decode cX8_value 32 = .ok (.iload_n 2, 1) := by decide +kernel
theorem dX8_value_33 : decode cX8_value 33 = .ok (.iaload, 1) := by decide +kernel
theorem dX8_value_34 : decode cX8_value 34 = .ok (.ireturn, 1) := by decide +kernel
set_option maxRecDepth 20000 in
theorem ggX8_faulty_X8_isTest : GoodIn wsX8_faulty wsX8_isTest := goodIn_r _ [7, 8, 9, 10, 6, 11, 12, 13, 14, 15, 16, 17, 18, 19, 20, 21, 22, 23, 24, 1, 81, 82, 83, 84, 85, 86, 87, 88, 89, 90, 91, 92, 93, 94, 95, 96, 97, 98, 99, 100, 101, 102, 103] (by decide +kernel) (by decide +kernel)
set_option maxRecDepth 20000 in
theorem gX8_faulty_X8_isTest : GoodIn wsX8_faulty (wsV RX8 295 RX8 yX8_isTest wsX8_isTest) := goodIn_app (goodIn_of _ (by decide +kernel)) ggX8_faulty_X8_isTest
set_option maxRecDepth 20000 in
theorem ggX8_faulty_X8_isFault : GoodIn wsX8_faulty wsX8_isFault := goodIn_r _ [28, 29, 30, 31, 6, 32, 33, 34, 35, 36, 12, 13, 14, 15, 16, 17, 18, 19, 20, 21, 22, 23, 24, 1, 81, 82, 83, 84, 85, 86, 87, 88, 89, 90, 91, 92, 93, 94, 95, 96, 97, 98, 99, 100, 101, 102, 103] (by decide +kernel) (by decide +kernel)
set_option maxRecDepth 20000 in
theorem gX8_faulty_X8_isFault : GoodIn wsX8_faulty (wsV RX8 298 RX8 yX8_isFault wsX8_isFault) := goodIn_app (goodIn_of _ (by decide +kernel)) ggX8_faulty_X8_isFault
set_option maxRecDepth 20000 in
theorem ggX8_faulty_X8_isWire : GoodIn wsX8_faulty wsX8_isWire := goodIn_r _ [40, 33, 34, 35, 6, 36, 12, 13, 14, 15, 16, 17, 18, 19, 20, 21, 22, 23, 24, 1, 81, 82, 83, 84, 85, 86, 87, 88, 89, 90, 91, 92, 93, 94, 95, 96, 97, 98, 99, 100, 101, 102, 103] (by decide +kernel) (by decide +kernel)
set_option maxRecDepth 20000 in
theorem gX8_faulty_X8_isWire : GoodIn wsX8_faulty (wsV RX8 289 RX8 yX8_isWire wsX8_isWire) := goodIn_app (goodIn_of _ (by decide +kernel)) ggX8_faulty_X8_isWire
set_option maxRecDepth 20000 in
theorem ggX8_faulty_X8_asksTest : GoodIn wsX8_faulty wsX8_asksTest := goodIn_r _ [44, 45, 46, 47, 48, 6, 49, 12, 13, 14, 15, 16, 17, 50, 51, 52, 53, 54, 33, 34, 35, 36, 55, 56, 57, 58, 59, 60, 61, 62, 63, 64, 65, 66, 67, 68, 69, 70, 71, 72, 73, 74, 75, 76, 81, 82, 83, 84, 85, 86, 87, 88, 89, 90, 91, 92, 93, 94, 95, 96, 97, 98, 99, 100, 101, 102, 103] (by decide +kernel) (by decide +kernel)
set_option maxRecDepth 20000 in
theorem gX8_faulty_X8_asksTest : GoodIn wsX8_faulty (wsV RX8 115 RX8 yX8_asksTest wsX8_asksTest) := goodIn_app (goodIn_of _ (by decide +kernel)) ggX8_faulty_X8_asksTest
set_option maxRecDepth 20000 in
theorem ggX8_faulty_X8_bends : GoodIn wsX8_faulty wsX8_bends := goodIn_r _ [80, 54, 2, 45, 33, 34, 35, 6, 36, 12, 13, 14, 15, 16, 17, 74, 75, 76, 46, 47, 48, 49, 55, 56, 57, 58, 59, 60, 61, 62, 63, 64, 65, 66, 67, 68, 69, 70, 71, 72, 73, 81, 82, 83, 84, 85, 86, 87, 88, 89, 90, 91, 92, 93, 94, 95, 96, 97, 98, 99, 100, 101, 102, 103] (by decide +kernel) (by decide +kernel)
set_option maxRecDepth 20000 in
theorem gX8_faulty_X8_bends : GoodIn wsX8_faulty (wsV RX8 105 RX8 yX8_bends wsX8_bends) := goodIn_app (goodIn_of _ (by decide +kernel)) ggX8_faulty_X8_bends
theorem dX8_faulty_0 : decode cX8_faulty 0 = .ok (.aload_n 0, 1) := by decide +kernel
theorem dX8_faulty_1 : decode cX8_faulty 1 = .ok (.iconst 0, 1) := by decide +kernel
theorem dX8_faulty_2 : decode cX8_faulty 2 = .ok (.putfield 61, 3) := by decide +kernel
theorem dX8_faulty_5 : decode cX8_faulty 5 = .ok (.aload_n 0, 1) := by decide +kernel
theorem dX8_faulty_6 : decode cX8_faulty 6 = .ok (.iload_n 1, 1) := by decide +kernel
theorem dX8_faulty_7 : decode cX8_faulty 7 = .ok (.invokevirtual 295, 3) := by decide +kernel
theorem dX8_faulty_10 : decode cX8_faulty 10 = .ok (.ifCond .eq 19, 3) := by decide +kernel
theorem dX8_faulty_13 : decode cX8_faulty 13 = .ok (.aload_n 0, 1) := by decide +kernel
theorem dX8_faulty_14 : decode cX8_faulty 14 = .ok (.iload_n 2, 1) := by decide +kernel
