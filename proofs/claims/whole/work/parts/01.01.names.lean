theorem dX0_init_0 : decode cX0_init 0 = .ok (.aload_n 0, 1) := by decide +kernel
theorem dX0_init_1 : decode cX0_init 1 = .ok (.invokespecial 3, 3) := by decide +kernel
theorem dX0_init_4 : decode cX0_init 4 = .ok (.aload_n 0, 1) := by decide +kernel
theorem dX0_init_5 : decode cX0_init 5 = .ok (.bipush 24, 2) := by decide +kernel
theorem dX0_init_7 : decode cX0_init 7 = .ok (.newarray .int, 2) := by decide +kernel
theorem dX0_init_9 : decode cX0_init 9 = .ok (.putfield 9, 3) := by decide +kernel
theorem dX0_init_12 : decode cX0_init 12 = .ok (.aload_n 0, 1) := by decide +kernel
theorem dX0_init_13 : decode cX0_init 13 = .ok (.bipush 24, 2) := by decide +kernel
theorem dX0_init_15 : decode cX0_init 15 = .ok (.newarray .int, 2) := by decide +kernel
theorem dX0_init_17 : decode cX0_init 17 = .ok (.putfield 15, 3) := by decide +kernel
theorem dX0_init_20 : decode cX0_init 20 = .ok (.aload_n 0, 1) := by decide +kernel
theorem dX0_init_21 : decode cX0_init 21 = .ok (.bipush 96, 2) := by decide +kernel
theorem dX0_init_23 : decode cX0_init 23 = .ok (.newarray .int, 2) := by decide +kernel
theorem dX0_init_25 : decode cX0_init 25 = .ok (.putfield 18, 3) := by decide +kernel
theorem dX0_init_28 : decode cX0_init 28 = .ok (.aload_n 0, 1) := by decide +kernel
theorem dX0_init_29 : decode cX0_init 29 = .ok (.bipush 24, 2) := by decide +kernel
theorem dX0_init_31 : decode cX0_init 31 = .ok (.newarray .int, 2) := by decide +kernel
theorem dX0_init_33 : decode cX0_init 33 = .ok (.putfield 21, 3) := by decide +kernel
theorem dX0_init_36 : decode cX0_init 36 = .ok (.aload_n 0, 1) := by decide +kernel
theorem dX0_init_37 : decode cX0_init 37 = .ok (.bipush 24, 2) := by decide +kernel
theorem dX0_init_39 : decode cX0_init 39 = .ok (.newarray .int, 2) := by decide +kernel
theorem dX0_init_41 : decode cX0_init 41 = .ok (.putfield 24, 3) := by decide +kernel
theorem dX0_init_44 : decode cX0_init 44 = .ok (.aload_n 0, 1) := by decide +kernel
theorem dX0_init_45 : decode cX0_init 45 = .ok (.bipush 24, 2) := by decide +kernel
theorem dX0_init_47 : decode cX0_init 47 = .ok (.newarray .int, 2) := by decide +kernel
theorem dX0_init_49 : decode cX0_init 49 = .ok (.putfield 27, 3) := by decide +kernel
theorem dX0_init_52 : decode cX0_init 52 = .ok (.aload_n 0, 1) := by decide +kernel
theorem dX0_init_53 : decode cX0_init 53 = .ok (.bipush 6, 2) := by decide +kernel
theorem dX0_init_55 : decode cX0_init 55 = .ok (.newarray .int, 2) := by decide +kernel
theorem dX0_init_57 : decode cX0_init 57 = .ok (.putfield 30, 3) := by decide +kernel
theorem dX0_init_60 : decode cX0_init 60 = .ok (.aload_n 0, 1) := by decide +kernel
theorem dX0_init_61 : decode cX0_init 61 = .ok (.bipush 8, 2) := by decide +kernel
theorem dX0_init_63 : decode cX0_init 63 = .ok (.newarray .int, 2) := by decide +kernel
theorem dX0_init_65 : decode cX0_init 65 = .ok (.putfield 33, 3) := by decide +kernel
theorem dX0_init_68 : decode cX0_init 68 = .ok (.aload_n 0, 1) := by decide +kernel
theorem dX0_init_69 : decode cX0_init 69 = .ok (.bipush 8, 2) := by decide +kernel
theorem dX0_init_71 : decode cX0_init 71 = .ok (.newarray .int, 2) := by decide +kernel
theorem dX0_init_73 : decode cX0_init 73 = .ok (.putfield 36, 3) := by decide +kernel
theorem dX0_init_76 : decode cX0_init 76 = .ok (.aload_n 0, 1) := by decide +kernel
theorem dX0_init_77 : decode cX0_init 77 = .ok (.bipush 8, 2) := by decide +kernel
theorem dX0_init_79 : decode cX0_init 79 = .ok (.newarray .int, 2) := by decide +kernel
theorem dX0_init_81 : decode cX0_init 81 = .ok (.putfield 39, 3) := by decide +kernel
theorem dX0_init_84 : decode cX0_init 84 = .ok (.aload_n 0, 1) := by decide +kernel
theorem dX0_init_85 : decode cX0_init 85 = .ok (.iconst 1, 1) := by decide +kernel
theorem dX0_init_86 : decode cX0_init 86 = .ok (.invokevirtual 42, 3) := by decide +kernel
theorem dX0_init_89 : decode cX0_init 89 = .ok (.return_, 1) := by decide +kernel
theorem dX0_clear_0 : decode cX0_clear 0 = .ok (.aload_n 0, 1) := by decide +kernel
theorem dX0_clear_1 : decode cX0_clear 1 = .ok (.iload_n 1, 1) := by decide +kernel
theorem dX0_clear_2 : decode cX0_clear 2 = .ok (.putfield 46, 3) := by decide +kernel
theorem dX0_clear_5 : decode cX0_clear 5 = .ok (.aload_n 0, 1) := by decide +kernel
theorem dX0_clear_6 : decode cX0_clear 6 = .ok (.iload_n 1, 1) := by decide +kernel
theorem dX0_clear_7 : decode cX0_clear 7 = .ok (.putfield 50, 3) := by decide +kernel
theorem dX0_clear_10 : decode cX0_clear 10 = .ok (.aload_n 0, 1) := by decide +kernel
theorem dX0_clear_11 : decode cX0_clear 11 = .ok (.iconst 0, 1) := by decide +kernel
theorem dX0_clear_12 : decode cX0_clear 12 = .ok (.putfield 53, 3) := by decide +kernel
theorem dX0_clear_15 : decode cX0_clear 15 = .ok (.aload_n 0, 1) := by decide +kernel
theorem dX0_clear_16 : decode cX0_clear 16 = .ok (.iconst 0, 1) := by decide +kernel
theorem dX0_clear_17 : decode cX0_clear 17 = .ok (.putfield 56, 3) := by decide +kernel
theorem dX0_clear_20 : decode cX0_clear 20 = .ok (.iconst 0, 1) := by decide +kernel
theorem dX0_clear_21 : decode cX0_clear 21 = .ok (.istore_n 2, 1) := by decide +kernel
theorem dX0_clear_22 : decode cX0_clear 22 = .ok (.iload_n 2, 1) := by decide +kernel
theorem dX0_clear_23 : decode cX0_clear 23 = .ok (.bipush 24, 2) := by decide +kernel
theorem dX0_clear_25 : decode cX0_clear 25 = .ok (.if_icmp .ge 44, 3) := by decide +kernel
theorem dX0_clear_28 : decode cX0_clear 28 = .ok (.aload_n 0, 1) := by decide +kernel
theorem dX0_clear_29 : decode cX0_clear 29 = .ok (.getfield 9, 3) := by decide +kernel
theorem dX0_clear_32 : decode cX0_clear 32 = .ok (.iload_n 2, 1) := by decide +kernel
theorem dX0_clear_33 : decode cX0_clear 33 = .ok (.iconst (-1), 1) := by decide +kernel
theorem dX0_clear_34 : decode cX0_clear 34 = .ok (.iastore, 1) := by decide +kernel
theorem dX0_clear_35 : decode cX0_clear 35 = .ok (.aload_n 0, 1) := by decide +kernel
theorem dX0_clear_36 : decode cX0_clear 36 = .ok (.getfield 15, 3) := by decide +kernel
theorem dX0_clear_39 : decode cX0_clear 39 = .ok (.iload_n 2, 1) := by decide +kernel
theorem dX0_clear_40 : decode cX0_clear 40 = .ok (.iconst 0, 1) := by decide +kernel
theorem dX0_clear_41 : decode cX0_clear 41 = .ok (.iastore, 1) := by decide +kernel
theorem dX0_clear_42 : decode cX0_clear 42 = .ok (.aload_n 0, 1) := by decide +kernel
theorem dX0_clear_43 : decode cX0_clear 43 = .ok (.getfield 21, 3) := by decide +kernel
theorem dX0_clear_46 : decode cX0_clear 46 = .ok (.iload_n 2, 1) := by decide +kernel
theorem dX0_clear_47 : decode cX0_clear 47 = .ok (.iconst 0, 1) := by decide +kernel
theorem dX0_clear_48 : decode cX0_clear 48 = .ok (.iastore, 1) := by decide +kernel
theorem dX0_clear_49 : decode cX0_clear 49 = .ok (.aload_n 0, 1) := by decide +kernel
theorem dX0_clear_50 : decode cX0_clear 50 = .ok (.getfield 24, 3) := by decide +kernel
theorem dX0_clear_53 : decode cX0_clear 53 = .ok (.iload_n 2, 1) := by decide +kernel
theorem dX0_clear_54 : decode cX0_clear 54 = .ok (.iconst 0, 1) := by decide +kernel
theorem dX0_clear_55 : decode cX0_clear 55 = .ok (.iastore, 1) := by decide +kernel
theorem dX0_clear_56 : decode cX0_clear 56 = .ok (.aload_n 0, 1) := by decide +kernel
theorem dX0_clear_57 : decode cX0_clear 57 = .ok (.getfield 27, 3) := by decide +kernel
theorem dX0_clear_60 : decode cX0_clear 60 = .ok (.iload_n 2, 1) := by decide +kernel
theorem dX0_clear_61 : decode cX0_clear 61 = .ok (.iconst 0, 1) := by decide +kernel
theorem dX0_clear_62 : decode cX0_clear 62 = .ok (.iastore, 1) := by decide +kernel
theorem dX0_clear_63 : decode cX0_clear 63 = .ok (.iinc 2 1, 3) := by decide +kernel
theorem dX0_clear_66 : decode cX0_clear 66 = .ok (.goto (-44), 3) := by decide +kernel
theorem dX0_clear_69 : decode cX0_clear 69 = .ok (.return_, 1) := by decide +kernel
theorem dX0_copyFrom_0 : decode cX0_copyFrom 0 = .ok (.aload_n 0, 1) := by decide +kernel
theorem dX0_copyFrom_1 : decode cX0_copyFrom 1 = .ok (.aload_n 1, 1) := by decide +kernel
theorem dX0_copyFrom_2 : decode cX0_copyFrom 2 = .ok (.getfield 46, 3) := by decide +kernel
theorem dX0_copyFrom_5 : decode cX0_copyFrom 5 = .ok (.putfield 46, 3) := by decide +kernel
theorem dX0_copyFrom_8 : decode cX0_copyFrom 8 = .ok (.aload_n 0, 1) := by decide +kernel
theorem dX0_copyFrom_9 : decode cX0_copyFrom 9 = .ok (.aload_n 1, 1) := by decide +kernel
theorem dX0_copyFrom_10 : decode cX0_copyFrom 10 = .ok (.getfield 50, 3) := by decide +kernel
theorem dX0_copyFrom_13 : decode cX0_copyFrom 13 = .ok (.putfield 50, 3) := by decide +kernel
theorem dX0_copyFrom_16 : decode cX0_copyFrom 16 = .ok (.aload_n 0, 1) := by decide +kernel
theorem dX0_copyFrom_17 : decode cX0_copyFrom 17 = .ok (.aload_n 1, 1) := by decide +kernel
theorem dX0_copyFrom_18 : decode cX0_copyFrom 18 = .ok (.getfield 53, 3) := by decide +kernel
theorem dX0_copyFrom_21 : decode cX0_copyFrom 21 = .ok (.putfield 53, 3) := by decide +kernel
theorem dX0_copyFrom_24 : decode cX0_copyFrom 24 = .ok (.aload_n 0, 1) := by decide +kernel
theorem dX0_copyFrom_25 : decode cX0_copyFrom 25 = .ok (.aload_n 1, 1) := by decide +kernel
theorem dX0_copyFrom_26 : decode cX0_copyFrom 26 = .ok (.getfield 56, 3) := by decide +kernel
theorem dX0_copyFrom_29 : decode cX0_copyFrom 29 = .ok (.putfield 56, 3) := by decide +kernel
theorem dX0_copyFrom_32 : decode cX0_copyFrom 32 = .ok (.aload_n 1, 1) := by decide +kernel
theorem dX0_copyFrom_33 : decode cX0_copyFrom 33 = .ok (.getfield 9, 3) := by decide +kernel
theorem dX0_copyFrom_36 : decode cX0_copyFrom 36 = .ok (.iconst 0, 1) := by decide +kernel
theorem dX0_copyFrom_37 : decode cX0_copyFrom 37 = .ok (.aload_n 0, 1) := by decide +kernel
theorem dX0_copyFrom_38 : decode cX0_copyFrom 38 = .ok (.getfield 9, 3) := by decide +kernel
theorem dX0_copyFrom_41 : decode cX0_copyFrom 41 = .ok (.iconst 0, 1) := by decide +kernel
theorem dX0_copyFrom_42 : decode cX0_copyFrom 42 = .ok (.bipush 24, 2) := by decide +kernel
theorem dX0_copyFrom_44 : decode cX0_copyFrom 44 = .ok (.invokestatic 59, 3) := by decide +kernel
theorem dX0_copyFrom_47 : decode cX0_copyFrom 47 = .ok (.aload_n 1, 1) := by decide +kernel
theorem dX0_copyFrom_48 : decode cX0_copyFrom 48 = .ok (.getfield 15, 3) := by decide +kernel
theorem dX0_copyFrom_51 : decode cX0_copyFrom 51 = .ok (.iconst 0, 1) := by decide +kernel
theorem dX0_copyFrom_52 : decode cX0_copyFrom 52 = .ok (.aload_n 0, 1) := by decide +kernel
theorem dX0_copyFrom_53 : decode cX0_copyFrom 53 = .ok (.getfield 15, 3) := by decide +kernel
theorem dX0_copyFrom_56 : decode cX0_copyFrom 56 = .ok (.iconst 0, 1) := by decide +kernel
theorem dX0_copyFrom_57 : decode cX0_copyFrom 57 = .ok (.bipush 24, 2) := by decide +kernel
theorem dX0_copyFrom_59 : decode cX0_copyFrom 59 = .ok (.invokestatic 59, 3) := by decide +kernel
theorem dX0_copyFrom_62 : decode cX0_copyFrom 62 = .ok (.aload_n 1, 1) := by decide +kernel
theorem dX0_copyFrom_63 : decode cX0_copyFrom 63 = .ok (.getfield 18, 3) := by decide +kernel
theorem dX0_copyFrom_66 : decode cX0_copyFrom 66 = .ok (.iconst 0, 1) := by decide +kernel
theorem dX0_copyFrom_67 : decode cX0_copyFrom 67 = .ok (.aload_n 0, 1) := by decide +kernel
theorem dX0_copyFrom_68 : decode cX0_copyFrom 68 = .ok (.getfield 18, 3) := by decide +kernel
theorem dX0_copyFrom_71 : decode cX0_copyFrom 71 = .ok (.iconst 0, 1) := by decide +kernel
theorem dX0_copyFrom_72 : decode cX0_copyFrom 72 = .ok (.bipush 96, 2) := by decide +kernel
theorem dX0_copyFrom_74 : decode cX0_copyFrom 74 = .ok (.invokestatic 59, 3) := by decide +kernel
theorem dX0_copyFrom_77 : decode cX0_copyFrom 77 = .ok (.aload_n 1, 1) := by decide +kernel
theorem dX0_copyFrom_78 : decode cX0_copyFrom 78 = .ok (.getfield 21, 3) := by decide +kernel
theorem dX0_copyFrom_81 : decode cX0_copyFrom 81 = .ok (.iconst 0, 1) := by decide +kernel
theorem dX0_copyFrom_82 : decode cX0_copyFrom 82 = .ok (.aload_n 0, 1) := by decide +kernel
theorem dX0_copyFrom_83 : decode cX0_copyFrom 83 = .ok (.getfield 21, 3) := by decide +kernel
theorem dX0_copyFrom_86 : decode cX0_copyFrom 86 = .ok (.iconst 0, 1) := by decide +kernel
theorem dX0_copyFrom_87 : decode cX0_copyFrom 87 = .ok (.bipush 24, 2) := by decide +kernel
theorem dX0_copyFrom_89 : decode cX0_copyFrom 89 = .ok (.invokestatic 59, 3) := by decide +kernel
theorem dX0_copyFrom_92 : decode cX0_copyFrom 92 = .ok (.aload_n 1, 1) := by decide +kernel
theorem dX0_copyFrom_93 : decode cX0_copyFrom 93 = .ok (.getfield 24, 3) := by decide +kernel
theorem dX0_copyFrom_96 : decode cX0_copyFrom 96 = .ok (.iconst 0, 1) := by decide +kernel
theorem dX0_copyFrom_97 : decode cX0_copyFrom 97 = .ok (.aload_n 0, 1) := by decide +kernel
theorem dX0_copyFrom_98 : decode cX0_copyFrom 98 = .ok (.getfield 24, 3) := by decide +kernel
theorem dX0_copyFrom_101 : decode cX0_copyFrom 101 = .ok (.iconst 0, 1) := by decide +kernel
theorem dX0_copyFrom_102 : decode cX0_copyFrom 102 = .ok (.bipush 24, 2) := by decide +kernel
theorem dX0_copyFrom_104 : decode cX0_copyFrom 104 = .ok (.invokestatic 59, 3) := by decide +kernel
theorem dX0_copyFrom_107 : decode cX0_copyFrom 107 = .ok (.aload_n 1, 1) := by decide +kernel
theorem dX0_copyFrom_108 : decode cX0_copyFrom 108 = .ok (.getfield 27, 3) := by decide +kernel
theorem dX0_copyFrom_111 : decode cX0_copyFrom 111 = .ok (.iconst 0, 1) := by decide +kernel
theorem dX0_copyFrom_112 : decode cX0_copyFrom 112 = .ok (.aload_n 0, 1) := by decide +kernel
theorem dX0_copyFrom_113 : decode cX0_copyFrom 113 = .ok (.getfield 27, 3) := by decide +kernel
theorem dX0_copyFrom_116 : decode cX0_copyFrom 116 = .ok (.iconst 0, 1) := by decide +kernel
theorem dX0_copyFrom_117 : decode cX0_copyFrom 117 = .ok (.bipush 24, 2) := by decide +kernel
theorem dX0_copyFrom_119 : decode cX0_copyFrom 119 = .ok (.invokestatic 59, 3) := by decide +kernel
theorem dX0_copyFrom_122 : decode cX0_copyFrom 122 = .ok (.aload_n 1, 1) := by decide +kernel
theorem dX0_copyFrom_123 : decode cX0_copyFrom 123 = .ok (.getfield 30, 3) := by decide +kernel
theorem dX0_copyFrom_126 : decode cX0_copyFrom 126 = .ok (.iconst 0, 1) := by decide +kernel
theorem dX0_copyFrom_127 : decode cX0_copyFrom 127 = .ok (.aload_n 0, 1) := by decide +kernel
theorem dX0_copyFrom_128 : decode cX0_copyFrom 128 = .ok (.getfield 30, 3) := by decide +kernel
theorem dX0_copyFrom_131 : decode cX0_copyFrom 131 = .ok (.iconst 0, 1) := by decide +kernel
theorem dX0_copyFrom_132 : decode cX0_copyFrom 132 = .ok (.bipush 6, 2) := by decide +kernel
theorem dX0_copyFrom_134 : decode cX0_copyFrom 134 = .ok (.invokestatic 59, 3) := by decide +kernel
theorem dX0_copyFrom_137 : decode cX0_copyFrom 137 = .ok (.aload_n 1, 1) := by decide +kernel
theorem dX0_copyFrom_138 : decode cX0_copyFrom 138 = .ok (.getfield 33, 3) := by decide +kernel
theorem dX0_copyFrom_141 : decode cX0_copyFrom 141 = .ok (.iconst 0, 1) := by decide +kernel
theorem dX0_copyFrom_142 : decode cX0_copyFrom 142 = .ok (.aload_n 0, 1) := by decide +kernel
theorem dX0_copyFrom_143 : decode cX0_copyFrom 143 = .ok (.getfield 33, 3) := by decide +kernel
theorem dX0_copyFrom_146 : decode cX0_copyFrom 146 = .ok (.iconst 0, 1) := by decide +kernel
theorem dX0_copyFrom_147 : decode cX0_copyFrom 147 = .ok (.bipush 8, 2) := by decide +kernel
theorem dX0_copyFrom_149 : decode cX0_copyFrom 149 = .ok (.invokestatic 59, 3) := by decide +kernel
theorem dX0_copyFrom_152 : decode cX0_copyFrom 152 = .ok (.aload_n 1, 1) := by decide +kernel
theorem dX0_copyFrom_153 : decode cX0_copyFrom 153 = .ok (.getfield 36, 3) := by decide +kernel
theorem dX0_copyFrom_156 : decode cX0_copyFrom 156 = .ok (.iconst 0, 1) := by decide +kernel
theorem dX0_copyFrom_157 : decode cX0_copyFrom 157 = .ok (.aload_n 0, 1) := by decide +kernel
theorem dX0_copyFrom_158 : decode cX0_copyFrom 158 = .ok (.getfield 36, 3) := by decide +kernel
theorem dX0_copyFrom_161 : decode cX0_copyFrom 161 = .ok (.iconst 0, 1) := by decide +kernel
theorem dX0_copyFrom_162 : decode cX0_copyFrom 162 = .ok (.bipush 8, 2) := by decide +kernel
theorem dX0_copyFrom_164 : decode cX0_copyFrom 164 = .ok (.invokestatic 59, 3) := by decide +kernel
theorem dX0_copyFrom_167 : decode cX0_copyFrom 167 = .ok (.aload_n 1, 1) := by decide +kernel
theorem dX0_copyFrom_168 : decode cX0_copyFrom 168 = .ok (.getfield 39, 3) := by decide +kernel
theorem dX0_copyFrom_171 : decode cX0_copyFrom 171 = .ok (.iconst 0, 1) := by decide +kernel
theorem dX0_copyFrom_172 : decode cX0_copyFrom 172 = .ok (.aload_n 0, 1) := by decide +kernel
theorem dX0_copyFrom_173 : decode cX0_copyFrom 173 = .ok (.getfield 39, 3) := by decide +kernel
theorem dX0_copyFrom_176 : decode cX0_copyFrom 176 = .ok (.iconst 0, 1) := by decide +kernel
theorem dX0_copyFrom_177 : decode cX0_copyFrom 177 = .ok (.bipush 8, 2) := by decide +kernel
theorem dX0_copyFrom_179 : decode cX0_copyFrom 179 = .ok (.invokestatic 59, 3) := by decide +kernel
theorem dX0_copyFrom_182 : decode cX0_copyFrom 182 = .ok (.return_, 1) := by decide +kernel
theorem dX0_isFullOfGates_0 : decode cX0_isFullOfGates 0 = .ok (.aload_n 0, 1) := by decide +kernel
theorem dX0_isFullOfGates_1 : decode cX0_isFullOfGates 1 = .ok (.getfield 50, 3) := by decide +kernel
theorem dX0_isFullOfGates_4 : decode cX0_isFullOfGates 4 = .ok (.aload_n 0, 1) := by decide +kernel
theorem dX0_isFullOfGates_5 : decode cX0_isFullOfGates 5 = .ok (.getfield 46, 3) := by decide +kernel
theorem dX0_isFullOfGates_8 : decode cX0_isFullOfGates 8 = .ok (.isub, 1) := by decide +kernel
theorem dX0_isFullOfGates_9 : decode cX0_isFullOfGates 9 = .ok (.bipush 16, 2) := by decide +kernel
theorem dX0_isFullOfGates_11 : decode cX0_isFullOfGates 11 = .ok (.if_icmp .lt 7, 3) := by decide +kernel
theorem dX0_isFullOfGates_14 : decode cX0_isFullOfGates 14 = .ok (.iconst 1, 1) := by decide +kernel
theorem dX0_isFullOfGates_15 : decode cX0_isFullOfGates 15 = .ok (.goto 4, 3) := by decide +kernel
theorem dX0_isFullOfGates_18 : decode cX0_isFullOfGates 18 = .ok (.iconst 0, 1) := by decide +kernel
theorem dX0_isFullOfGates_19 : decode cX0_isFullOfGates 19 = .ok (.ireturn, 1) := by decide +kernel
theorem dX0_isFullOfOutputs_0 : decode cX0_isFullOfOutputs 0 = .ok (.aload_n 0, 1) := by decide +kernel
theorem dX0_isFullOfOutputs_1 : decode cX0_isFullOfOutputs 1 = .ok (.getfield 53, 3) := by decide +kernel
theorem dX0_isFullOfOutputs_4 : decode cX0_isFullOfOutputs 4 = .ok (.bipush 6, 2) := by decide +kernel
theorem dX0_isFullOfOutputs_6 : decode cX0_isFullOfOutputs 6 = .ok (.if_icmp .lt 7, 3) := by decide +kernel
theorem dX0_isFullOfOutputs_9 : decode cX0_isFullOfOutputs 9 = .ok (.iconst 1, 1) := by decide +kernel
theorem dX0_isFullOfOutputs_10 : decode cX0_isFullOfOutputs 10 = .ok (.goto 4, 3) := by decide +kernel
theorem dX0_isFullOfOutputs_13 : decode cX0_isFullOfOutputs 13 = .ok (.iconst 0, 1) := by decide +kernel
theorem dX0_isFullOfOutputs_14 : decode cX0_isFullOfOutputs 14 = .ok (.ireturn, 1) := by decide +kernel
theorem dX0_isFullOfBridges_0 : decode cX0_isFullOfBridges 0 = .ok (.aload_n 0, 1) := by decide +kernel
theorem dX0_isFullOfBridges_1 : decode cX0_isFullOfBridges 1 = .ok (.getfield 56, 3) := by decide +kernel
theorem dX0_isFullOfBridges_4 : decode cX0_isFullOfBridges 4 = .ok (.bipush 8, 2) := by decide +kernel
theorem dX0_isFullOfBridges_6 : decode cX0_isFullOfBridges 6 = .ok (.if_icmp .lt 7, 3) := by decide +kernel
theorem dX0_isFullOfBridges_9 : decode cX0_isFullOfBridges 9 = .ok (.iconst 1, 1) := by decide +kernel
theorem dX0_isFullOfBridges_10 : decode cX0_isFullOfBridges 10 = .ok (.goto 4, 3) := by decide +kernel
theorem dX0_isFullOfBridges_13 : decode cX0_isFullOfBridges 13 = .ok (.iconst 0, 1) := by decide +kernel
theorem dX0_isFullOfBridges_14 : decode cX0_isFullOfBridges 14 = .ok (.ireturn, 1) := by decide +kernel
theorem dX0_startGate_0 : decode cX0_startGate 0 = .ok (.aload_n 0, 1) := by decide +kernel
theorem dX0_startGate_1 : decode cX0_startGate 1 = .ok (.getfield 9, 3) := by decide +kernel
theorem dX0_startGate_4 : decode cX0_startGate 4 = .ok (.aload_n 0, 1) := by decide +kernel
theorem dX0_startGate_5 : decode cX0_startGate 5 = .ok (.getfield 50, 3) := by decide +kernel
theorem dX0_startGate_8 : decode cX0_startGate 8 = .ok (.iload_n 1, 1) := by decide +kernel
theorem dX0_startGate_9 : decode cX0_startGate 9 = .ok (.iastore, 1) := by decide +kernel
theorem dX0_startGate_10 : decode cX0_startGate 10 = .ok (.aload_n 0, 1) := by decide +kernel
theorem dX0_startGate_11 : decode cX0_startGate 11 = .ok (.getfield 15, 3) := by decide +kernel
theorem dX0_startGate_14 : decode cX0_startGate 14 = .ok (.aload_n 0, 1) := by decide +kernel
theorem dX0_startGate_15 : decode cX0_startGate 15 = .ok (.getfield 50, 3) := by decide +kernel
theorem dX0_startGate_18 : decode cX0_startGate 18 = .ok (.iconst 0, 1) := by decide +kernel
theorem dX0_startGate_19 : decode cX0_startGate 19 = .ok (.iastore, 1) := by decide +kernel
theorem dX0_startGate_20 : decode cX0_startGate 20 = .ok (.return_, 1) := by decide +kernel
theorem dX0_putOperand_0 : decode cX0_putOperand 0 = .ok (.aload_n 0, 1) := by decide +kernel
theorem dX0_putOperand_1 : decode cX0_putOperand 1 = .ok (.getfield 18, 3) := by decide +kernel
theorem dX0_putOperand_4 : decode cX0_putOperand 4 = .ok (.aload_n 0, 1) := by decide +kernel
theorem dX0_putOperand_5 : decode cX0_putOperand 5 = .ok (.getfield 50, 3) := by decide +kernel
theorem dX0_putOperand_8 : decode cX0_putOperand 8 = .ok (.iconst 4, 1) := by decide +kernel
theorem dX0_putOperand_9 : decode cX0_putOperand 9 = .ok (.imul, 1) := by decide +kernel
theorem dX0_putOperand_10 : decode cX0_putOperand 10 = .ok (.aload_n 0, 1) := by decide +kernel
theorem dX0_putOperand_11 : decode cX0_putOperand 11 = .ok (.getfield 15, 3) := by decide +kernel
theorem dX0_putOperand_14 : decode cX0_putOperand 14 = .ok (.aload_n 0, 1) := by decide +kernel
theorem dX0_putOperand_15 : decode cX0_putOperand 15 = .ok (.getfield 50, 3) := by decide +kernel
theorem dX0_putOperand_18 : decode cX0_putOperand 18 = .ok (.iaload, 1) := by decide +kernel
theorem dX0_putOperand_19 : decode cX0_putOperand 19 = .ok (.iadd, 1) := by decide +kernel
theorem dX0_putOperand_20 : decode cX0_putOperand 20 = .ok (.iload_n 1, 1) := by decide +kernel
theorem dX0_putOperand_21 : decode cX0_putOperand 21 = .ok (.iastore, 1) := by decide +kernel
theorem dX0_putOperand_22 : decode cX0_putOperand 22 = .ok (.aload_n 0, 1) := by decide +kernel
theorem dX0_putOperand_23 : decode cX0_putOperand 23 = .ok (.getfield 15, 3) := by decide +kernel
theorem dX0_putOperand_26 : decode cX0_putOperand 26 = .ok (.aload_n 0, 1) := by decide +kernel
theorem dX0_putOperand_27 : decode cX0_putOperand 27 = .ok (.getfield 50, 3) := by decide +kernel
theorem dX0_putOperand_30 : decode cX0_putOperand 30 = .ok (.dup2, 1) := by decide +kernel
theorem dX0_putOperand_31 : decode cX0_putOperand 31 = .ok (.iaload, 1) := by decide +kernel
theorem dX0_putOperand_32 : decode cX0_putOperand 32 = .ok (.iconst 1, 1) := by decide +kernel
theorem dX0_putOperand_33 : decode cX0_putOperand 33 = .ok (.iadd, 1) := by decide +kernel
theorem dX0_putOperand_34 : decode cX0_putOperand 34 = .ok (.iastore, 1) := by decide +kernel
theorem dX0_putOperand_35 : decode cX0_putOperand 35 = .ok (.return_, 1) := by decide +kernel
theorem dX0_endGate_0 : decode cX0_endGate 0 = .ok (.aload_n 0, 1) := by decide +kernel
theorem dX0_endGate_1 : decode cX0_endGate 1 = .ok (.getfield 50, 3) := by decide +kernel
theorem dX0_endGate_4 : decode cX0_endGate 4 = .ok (.istore_n 1, 1) := by decide +kernel
theorem dX0_endGate_5 : decode cX0_endGate 5 = .ok (.aload_n 0, 1) := by decide +kernel
theorem dX0_endGate_6 : decode cX0_endGate 6 = .ok (.dup, 1) := by decide +kernel
theorem dX0_endGate_7 : decode cX0_endGate 7 = .ok (.getfield 50, 3) := by decide +kernel
theorem dX0_endGate_10 : decode cX0_endGate 10 = .ok (.iconst 1, 1) := by decide +kernel
theorem dX0_endGate_11 : decode cX0_endGate 11 = .ok (.iadd, 1) := by decide +kernel
theorem dX0_endGate_12 : decode cX0_endGate 12 = .ok (.putfield 50, 3) := by decide +kernel
theorem dX0_endGate_15 : decode cX0_endGate 15 = .ok (.iconst 0, 1) := by decide +kernel
theorem dX0_endGate_16 : decode cX0_endGate 16 = .ok (.istore_n 2, 1) := by decide +kernel
theorem dX0_endGate_17 : decode cX0_endGate 17 = .ok (.iload_n 2, 1) := by decide +kernel
theorem dX0_endGate_18 : decode cX0_endGate 18 = .ok (.aload_n 0, 1) := by decide +kernel
theorem dX0_endGate_19 : decode cX0_endGate 19 = .ok (.getfield 15, 3) := by decide +kernel
theorem dX0_endGate_22 : decode cX0_endGate 22 = .ok (.iload_n 1, 1) := by decide +kernel
theorem dX0_endGate_23 : decode cX0_endGate 23 = .ok (.iaload, 1) := by decide +kernel
theorem dX0_endGate_24 : decode cX0_endGate 24 = .ok (.if_icmp .ge 72, 3) := by decide +kernel
theorem dX0_endGate_27 : decode cX0_endGate 27 = .ok (.aload_n 0, 1) := by decide +kernel
theorem dX0_endGate_28 : decode cX0_endGate 28 = .ok (.getfield 18, 3) := by decide +kernel
theorem dX0_endGate_31 : decode cX0_endGate 31 = .ok (.iload_n 1, 1) := by decide +kernel
theorem dX0_endGate_32 : decode cX0_endGate 32 = .ok (.iconst 4, 1) := by decide +kernel
theorem dX0_endGate_33 : decode cX0_endGate 33 = .ok (.imul, 1) := by decide +kernel
theorem dX0_endGate_34 : decode cX0_endGate 34 = .ok (.iload_n 2, 1) := by decide +kernel
theorem dX0_endGate_35 : decode cX0_endGate 35 = .ok (.iadd, 1) := by decide +kernel
theorem dX0_endGate_36 : decode cX0_endGate 36 = .ok (.iaload, 1) := by decide +kernel
theorem dX0_endGate_37 : decode cX0_endGate 37 = .ok (.istore_n 3, 1) := by decide +kernel
theorem dX0_endGate_38 : decode cX0_endGate 38 = .ok (.aload_n 0, 1) := by decide +kernel
theorem dX0_endGate_39 : decode cX0_endGate 39 = .ok (.getfield 24, 3) := by decide +kernel
theorem dX0_endGate_42 : decode cX0_endGate 42 = .ok (.iload_n 3, 1) := by decide +kernel
theorem dX0_endGate_43 : decode cX0_endGate 43 = .ok (.dup2, 1) := by decide +kernel
theorem dX0_endGate_44 : decode cX0_endGate 44 = .ok (.iaload, 1) := by decide +kernel
theorem dX0_endGate_45 : decode cX0_endGate 45 = .ok (.iconst 1, 1) := by decide +kernel
theorem dX0_endGate_46 : decode cX0_endGate 46 = .ok (.iadd, 1) := by decide +kernel
theorem dX0_endGate_47 : decode cX0_endGate 47 = .ok (.iastore, 1) := by decide +kernel
theorem dX0_endGate_48 : decode cX0_endGate 48 = .ok (.aload_n 0, 1) := by decide +kernel
theorem dX0_endGate_49 : decode cX0_endGate 49 = .ok (.getfield 21, 3) := by decide +kernel
theorem dX0_endGate_52 : decode cX0_endGate 52 = .ok (.iload_n 1, 1) := by decide +kernel
theorem dX0_endGate_53 : decode cX0_endGate 53 = .ok (.aload_n 0, 1) := by decide +kernel
theorem dX0_endGate_54 : decode cX0_endGate 54 = .ok (.getfield 21, 3) := by decide +kernel
theorem dX0_endGate_57 : decode cX0_endGate 57 = .ok (.iload_n 1, 1) := by decide +kernel
theorem dX0_endGate_58 : decode cX0_endGate 58 = .ok (.iaload, 1) := by decide +kernel
theorem dX0_endGate_59 : decode cX0_endGate 59 = .ok (.aload_n 0, 1) := by decide +kernel
theorem dX0_endGate_60 : decode cX0_endGate 60 = .ok (.getfield 21, 3) := by decide +kernel
theorem dX0_endGate_63 : decode cX0_endGate 63 = .ok (.iload_n 3, 1) := by decide +kernel
theorem dX0_endGate_64 : decode cX0_endGate 64 = .ok (.iaload, 1) := by decide +kernel
theorem dX0_endGate_65 : decode cX0_endGate 65 = .ok (.iconst 1, 1) := by decide +kernel
theorem dX0_endGate_66 : decode cX0_endGate 66 = .ok (.iadd, 1) := by decide +kernel
theorem dX0_endGate_67 : decode cX0_endGate 67 = .ok (.invokestatic 65, 3) := by decide +kernel
theorem dX0_endGate_70 : decode cX0_endGate 70 = .ok (.iastore, 1) := by decide +kernel
theorem dX0_endGate_71 : decode cX0_endGate 71 = .ok (.aload_n 0, 1) := by decide +kernel
theorem dX0_endGate_72 : decode cX0_endGate 72 = .ok (.getfield 27, 3) := by decide +kernel
theorem dX0_endGate_75 : decode cX0_endGate 75 = .ok (.iload_n 1, 1) := by decide +kernel
theorem dX0_endGate_76 : decode cX0_endGate 76 = .ok (.dup2, 1) := by decide +kernel
theorem dX0_endGate_77 : decode cX0_endGate 77 = .ok (.iaload, 1) := by decide +kernel
theorem dX0_endGate_78 : decode cX0_endGate 78 = .ok (.aload_n 0, 1) := by decide +kernel
theorem dX0_endGate_79 : decode cX0_endGate 79 = .ok (.getfield 27, 3) := by decide +kernel
theorem dX0_endGate_82 : decode cX0_endGate 82 = .ok (.iload_n 3, 1) := by decide +kernel
theorem dX0_endGate_83 : decode cX0_endGate 83 = .ok (.iaload, 1) := by decide +kernel
theorem dX0_endGate_84 : decode cX0_endGate 84 = .ok (.iconst 1, 1) := by decide +kernel
theorem dX0_endGate_85 : decode cX0_endGate 85 = .ok (.iload_n 3, 1) := by decide +kernel
theorem dX0_endGate_86 : decode cX0_endGate 86 = .ok (.ishl, 1) := by decide +kernel
theorem dX0_endGate_87 : decode cX0_endGate 87 = .ok (.ior, 1) := by decide +kernel
theorem dX0_endGate_88 : decode cX0_endGate 88 = .ok (.ior, 1) := by decide +kernel
theorem dX0_endGate_89 : decode cX0_endGate 89 = .ok (.iastore, 1) := by decide +kernel
theorem dX0_endGate_90 : decode cX0_endGate 90 = .ok (.iinc 2 1, 3) := by decide +kernel
theorem dX0_endGate_93 : decode cX0_endGate 93 = .ok (.goto (-76), 3) := by decide +kernel
theorem dX0_endGate_96 : decode cX0_endGate 96 = .ok (.return_, 1) := by decide +kernel
theorem dX0_putOutput_0 : decode cX0_putOutput 0 = .ok (.aload_n 0, 1) := by decide +kernel
theorem dX0_putOutput_1 : decode cX0_putOutput 1 = .ok (.getfield 30, 3) := by decide +kernel
theorem dX0_putOutput_4 : decode cX0_putOutput 4 = .ok (.aload_n 0, 1) := by decide +kernel
theorem dX0_putOutput_5 : decode cX0_putOutput 5 = .ok (.getfield 53, 3) := by decide +kernel
theorem dX0_putOutput_8 : decode cX0_putOutput 8 = .ok (.iload_n 1, 1) := by decide +kernel
theorem dX0_putOutput_9 : decode cX0_putOutput 9 = .ok (.iastore, 1) := by decide +kernel
theorem dX0_putOutput_10 : decode cX0_putOutput 10 = .ok (.aload_n 0, 1) := by decide +kernel
theorem dX0_putOutput_11 : decode cX0_putOutput 11 = .ok (.dup, 1) := by decide +kernel
theorem dX0_putOutput_12 : decode cX0_putOutput 12 = .ok (.getfield 53, 3) := by decide +kernel
theorem dX0_putOutput_15 : decode cX0_putOutput 15 = .ok (.iconst 1, 1) := by decide +kernel
theorem dX0_putOutput_16 : decode cX0_putOutput 16 = .ok (.iadd, 1) := by decide +kernel
theorem dX0_putOutput_17 : decode cX0_putOutput 17 = .ok (.putfield 53, 3) := by decide +kernel
theorem dX0_putOutput_20 : decode cX0_putOutput 20 = .ok (.return_, 1) := by decide +kernel
theorem dX0_putBridge_0 : decode cX0_putBridge 0 = .ok (.aload_n 0, 1) := by decide +kernel
theorem dX0_putBridge_1 : decode cX0_putBridge 1 = .ok (.getfield 39, 3) := by decide +kernel
theorem dX0_putBridge_4 : decode cX0_putBridge 4 = .ok (.aload_n 0, 1) := by decide +kernel
theorem dX0_putBridge_5 : decode cX0_putBridge 5 = .ok (.getfield 56, 3) := by decide +kernel
theorem dX0_putBridge_8 : decode cX0_putBridge 8 = .ok (.iload_n 1, 1) := by decide +kernel
theorem dX0_putBridge_9 : decode cX0_putBridge 9 = .ok (.iastore, 1) := by decide +kernel
theorem dX0_putBridge_10 : decode cX0_putBridge 10 = .ok (.aload_n 0, 1) := by decide +kernel
theorem dX0_putBridge_11 : decode cX0_putBridge 11 = .ok (.getfield 33, 3) := by decide +kernel
theorem dX0_putBridge_14 : decode cX0_putBridge 14 = .ok (.aload_n 0, 1) := by decide +kernel
theorem dX0_putBridge_15 : decode cX0_putBridge 15 = .ok (.getfield 56, 3) := by decide +kernel
theorem dX0_putBridge_18 : decode cX0_putBridge 18 = .ok (.iload_n 2, 1) := by decide +kernel
theorem dX0_putBridge_19 : decode cX0_putBridge 19 = .ok (.iastore, 1) := by decide +kernel
theorem dX0_putBridge_20 : decode cX0_putBridge 20 = .ok (.aload_n 0, 1) := by decide +kernel
theorem dX0_putBridge_21 : decode cX0_putBridge 21 = .ok (.getfield 36, 3) := by decide +kernel
theorem dX0_putBridge_24 : decode cX0_putBridge 24 = .ok (.aload_n 0, 1) := by decide +kernel
theorem dX0_putBridge_25 : decode cX0_putBridge 25 = .ok (.getfield 56, 3) := by decide +kernel
theorem dX0_putBridge_28 : decode cX0_putBridge 28 = .ok (.iload_n 3, 1) := by decide +kernel
theorem dX0_putBridge_29 : decode cX0_putBridge 29 = .ok (.iastore, 1) := by decide +kernel
theorem dX0_putBridge_30 : decode cX0_putBridge 30 = .ok (.aload_n 0, 1) := by decide +kernel
theorem dX0_putBridge_31 : decode cX0_putBridge 31 = .ok (.dup, 1) := by decide +kernel
theorem dX0_putBridge_32 : decode cX0_putBridge 32 = .ok (.getfield 56, 3) := by decide +kernel
theorem dX0_putBridge_35 : decode cX0_putBridge 35 = .ok (.iconst 1, 1) := by decide +kernel
theorem dX0_putBridge_36 : decode cX0_putBridge 36 = .ok (.iadd, 1) := by decide +kernel
theorem dX0_putBridge_37 : decode cX0_putBridge 37 = .ok (.putfield 56, 3) := by decide +kernel
theorem dX0_putBridge_40 : decode cX0_putBridge 40 = .ok (.return_, 1) := by decide +kernel
set_option maxRecDepth 20000 in
theorem ggX0_wouldLoop_X0_hasBit : GoodIn wsX0_wouldLoop wsX0_hasBit := goodIn_r _ [5] (by decide +kernel) (by decide +kernel)
set_option maxRecDepth 20000 in
theorem gX0_wouldLoop_X0_hasBit : GoodIn wsX0_wouldLoop (va_wsS RX0 71 yX0_hasBit wsX0_hasBit) := goodIn_app (goodIn_of _ (by decide +kernel)) ggX0_wouldLoop_X0_hasBit
theorem dX0_wouldLoop_0 : decode cX0_wouldLoop 0 = .ok (.iload_n 1, 1) := by decide +kernel
theorem dX0_wouldLoop_1 : decode cX0_wouldLoop 1 = .ok (.iload_n 2, 1) := by decide +kernel
theorem dX0_wouldLoop_2 : decode cX0_wouldLoop 2 = .ok (.if_icmp .eq 29, 3) := by decide +kernel
theorem dX0_wouldLoop_5 : decode cX0_wouldLoop 5 = .ok (.aload_n 0, 1) := by decide +kernel
theorem dX0_wouldLoop_6 : decode cX0_wouldLoop 6 = .ok (.getfield 27, 3) := by decide +kernel
theorem dX0_wouldLoop_9 : decode cX0_wouldLoop 9 = .ok (.iload_n 1, 1) := by decide +kernel
theorem dX0_wouldLoop_10 : decode cX0_wouldLoop 10 = .ok (.iaload, 1) := by decide +kernel
theorem dX0_wouldLoop_11 : decode cX0_wouldLoop 11 = .ok (.iload_n 2, 1) := by decide +kernel
theorem dX0_wouldLoop_12 : decode cX0_wouldLoop 12 = .ok (.invokestatic 71, 3) := by decide +kernel
theorem dX0_wouldLoop_15 : decode cX0_wouldLoop 15 = .ok (.ifCond .ne 16, 3) := by decide +kernel
theorem dX0_wouldLoop_18 : decode cX0_wouldLoop 18 = .ok (.aload_n 0, 1) := by decide +kernel
theorem dX0_wouldLoop_19 : decode cX0_wouldLoop 19 = .ok (.getfield 27, 3) := by decide +kernel
theorem dX0_wouldLoop_22 : decode cX0_wouldLoop 22 = .ok (.iload_n 2, 1) := by decide +kernel
theorem dX0_wouldLoop_23 : decode cX0_wouldLoop 23 = .ok (.iaload, 1) := by decide +kernel
theorem dX0_wouldLoop_24 : decode cX0_wouldLoop 24 = .ok (.iload_n 1, 1) := by decide +kernel
theorem dX0_wouldLoop_25 : decode cX0_wouldLoop 25 = .ok (.invokestatic 71, 3) := by decide +kernel
theorem dX0_wouldLoop_28 : decode cX0_wouldLoop 28 = .ok (.ifCond .eq 7, 3) := by decide +kernel
theorem dX0_wouldLoop_31 : decode cX0_wouldLoop 31 = .ok (.iconst 1, 1) := by decide +kernel
theorem dX0_wouldLoop_32 : decode cX0_wouldLoop 32 = .ok (.goto 4, 3) := by decide +kernel
theorem dX0_wouldLoop_35 : decode cX0_wouldLoop 35 = .ok (.iconst 0, 1) := by decide +kernel
theorem dX0_wouldLoop_36 : decode cX0_wouldLoop 36 = .ok (.ireturn, 1) := by decide +kernel
theorem dX0_faultCount_0 : decode cX0_faultCount 0 = .ok (.iconst 2, 1) := by decide +kernel
theorem dX0_faultCount_1 : decode cX0_faultCount 1 = .ok (.aload_n 0, 1) := by decide +kernel
theorem dX0_faultCount_2 : decode cX0_faultCount 2 = .ok (.getfield 50, 3) := by decide +kernel
theorem dX0_faultCount_5 : decode cX0_faultCount 5 = .ok (.imul, 1) := by decide +kernel
theorem dX0_faultCount_6 : decode cX0_faultCount 6 = .ok (.aload_n 0, 1) := by decide +kernel
theorem dX0_faultCount_7 : decode cX0_faultCount 7 = .ok (.getfield 56, 3) := by decide +kernel
theorem dX0_faultCount_10 : decode cX0_faultCount 10 = .ok (.iadd, 1) := by decide +kernel
theorem dX0_faultCount_11 : decode cX0_faultCount 11 = .ok (.ireturn, 1) := by decide +kernel
theorem dX0_greatestLevel_0 : decode cX0_greatestLevel 0 = .ok (.iconst 0, 1) := by decide +kernel
theorem dX0_greatestLevel_1 : decode cX0_greatestLevel 1 = .ok (.istore_n 1, 1) := by decide +kernel
theorem dX0_greatestLevel_2 : decode cX0_greatestLevel 2 = .ok (.iconst 0, 1) := by decide +kernel
theorem dX0_greatestLevel_3 : decode cX0_greatestLevel 3 = .ok (.istore_n 2, 1) := by decide +kernel
theorem dX0_greatestLevel_4 : decode cX0_greatestLevel 4 = .ok (.iload_n 2, 1) := by decide +kernel
theorem dX0_greatestLevel_5 : decode cX0_greatestLevel 5 = .ok (.aload_n 0, 1) := by decide +kernel
theorem dX0_greatestLevel_6 : decode cX0_greatestLevel 6 = .ok (.getfield 50, 3) := by decide +kernel
theorem dX0_greatestLevel_9 : decode cX0_greatestLevel 9 = .ok (.if_icmp .ge 20, 3) := by decide +kernel
theorem dX0_greatestLevel_12 : decode cX0_greatestLevel 12 = .ok (.iload_n 1, 1) := by decide +kernel
theorem dX0_greatestLevel_13 : decode cX0_greatestLevel 13 = .ok (.aload_n 0, 1) := by decide +kernel
theorem dX0_greatestLevel_14 : decode cX0_greatestLevel 14 = .ok (.getfield 21, 3) := by decide +kernel
theorem dX0_greatestLevel_17 : decode cX0_greatestLevel 17 = .ok (.iload_n 2, 1) := by decide +kernel
theorem dX0_greatestLevel_18 : decode cX0_greatestLevel 18 = .ok (.iaload, 1) := by decide +kernel
theorem dX0_greatestLevel_19 : decode cX0_greatestLevel 19 = .ok (.invokestatic 65, 3) := by decide +kernel
theorem dX0_greatestLevel_22 : decode cX0_greatestLevel 22 = .ok (.istore_n 1, 1) := by decide +kernel
theorem dX0_greatestLevel_23 : decode cX0_greatestLevel 23 = .ok (.iinc 2 1, 3) := by decide +kernel
theorem dX0_greatestLevel_26 : decode cX0_greatestLevel 26 = .ok (.goto (-22), 3) := by decide +kernel
theorem dX0_greatestLevel_29 : decode cX0_greatestLevel 29 = .ok (.iload_n 1, 1) := by decide +kernel
theorem dX0_greatestLevel_30 : decode cX0_greatestLevel 30 = .ok (.ireturn, 1) := by decide +kernel
theorem dX0_outputOf_0 : decode cX0_outputOf 0 = .ok (.iconst 0, 1) := by decide +kernel
theorem dX0_outputOf_1 : decode cX0_outputOf 1 = .ok (.istore_n 2, 1) := by decide +kernel
theorem dX0_outputOf_2 : decode cX0_outputOf 2 = .ok (.iload_n 2, 1) := by decide +kernel
theorem dX0_outputOf_3 : decode cX0_outputOf 3 = .ok (.aload_n 0, 1) := by decide +kernel
theorem dX0_outputOf_4 : decode cX0_outputOf 4 = .ok (.getfield 53, 3) := by decide +kernel
theorem dX0_outputOf_7 : decode cX0_outputOf 7 = .ok (.if_icmp .ge 21, 3) := by decide +kernel
theorem dX0_outputOf_10 : decode cX0_outputOf 10 = .ok (.aload_n 0, 1) := by decide +kernel
theorem dX0_outputOf_11 : decode cX0_outputOf 11 = .ok (.getfield 30, 3) := by decide +kernel
theorem dX0_outputOf_14 : decode cX0_outputOf 14 = .ok (.iload_n 2, 1) := by decide +kernel
theorem dX0_outputOf_15 : decode cX0_outputOf 15 = .ok (.iaload, 1) := by decide +kernel
theorem dX0_outputOf_16 : decode cX0_outputOf 16 = .ok (.iload_n 1, 1) := by decide +kernel
theorem dX0_outputOf_17 : decode cX0_outputOf 17 = .ok (.if_icmp .ne 5, 3) := by decide +kernel
theorem dX0_outputOf_20 : decode cX0_outputOf 20 = .ok (.iload_n 2, 1) := by decide +kernel
theorem dX0_outputOf_21 : decode cX0_outputOf 21 = .ok (.ireturn, 1) := by decide +kernel
theorem dX0_outputOf_22 : decode cX0_outputOf 22 = .ok (.iinc 2 1, 3) := by decide +kernel
theorem dX0_outputOf_25 : decode cX0_outputOf 25 = .ok (.goto (-23), 3) := by decide +kernel
theorem dX0_outputOf_28 : decode cX0_outputOf 28 = .ok (.iconst (-1), 1) := by decide +kernel
theorem dX0_outputOf_29 : decode cX0_outputOf 29 = .ok (.ireturn, 1) := by decide +kernel
theorem dX0_fullWords_0 : decode cX0_fullWords 0 = .ok (.aload_n 0, 1) := by decide +kernel
theorem dX0_fullWords_1 : decode cX0_fullWords 1 = .ok (.getfield 46, 3) := by decide +kernel
theorem dX0_fullWords_4 : decode cX0_fullWords 4 = .ok (.bipush 6, 2) := by decide +kernel
theorem dX0_fullWords_6 : decode cX0_fullWords 6 = .ok (.if_icmp .gt 7, 3) := by decide +kernel
theorem dX0_fullWords_9 : decode cX0_fullWords 9 = .ok (.iconst 1, 1) := by decide +kernel
theorem dX0_fullWords_10 : decode cX0_fullWords 10 = .ok (.goto 12, 3) := by decide +kernel
theorem dX0_fullWords_13 : decode cX0_fullWords 13 = .ok (.iconst 1, 1) := by decide +kernel
theorem dX0_fullWords_14 : decode cX0_fullWords 14 = .ok (.aload_n 0, 1) := by decide +kernel
theorem dX0_fullWords_15 : decode cX0_fullWords 15 = .ok (.getfield 46, 3) := by decide +kernel
theorem dX0_fullWords_18 : decode cX0_fullWords 18 = .ok (.bipush 6, 2) := by decide +kernel
theorem dX0_fullWords_20 : decode cX0_fullWords 20 = .ok (.isub, 1) := by decide +kernel
theorem dX0_fullWords_21 : decode cX0_fullWords 21 = .ok (.ishl, 1) := by decide +kernel
theorem dX0_fullWords_22 : decode cX0_fullWords 22 = .ok (.ireturn, 1) := by decide +kernel
theorem dX0_hasBit_0 : decode cX0_hasBit 0 = .ok (.iload_n 0, 1) := by decide +kernel
theorem dX0_hasBit_1 : decode cX0_hasBit 1 = .ok (.iload_n 1, 1) := by decide +kernel
theorem dX0_hasBit_2 : decode cX0_hasBit 2 = .ok (.iushr, 1) := by decide +kernel
theorem dX0_hasBit_3 : decode cX0_hasBit 3 = .ok (.iconst 1, 1) := by decide +kernel
theorem dX0_hasBit_4 : decode cX0_hasBit 4 = .ok (.iand, 1) := by decide +kernel
theorem dX0_hasBit_5 : decode cX0_hasBit 5 = .ok (.ifCond .eq 7, 3) := by decide +kernel
theorem dX0_hasBit_8 : decode cX0_hasBit 8 = .ok (.iconst 1, 1) := by decide +kernel
theorem dX0_hasBit_9 : decode cX0_hasBit 9 = .ok (.goto 4, 3) := by decide +kernel
theorem dX0_hasBit_12 : decode cX0_hasBit 12 = .ok (.iconst 0, 1) := by decide +kernel
theorem dX0_hasBit_13 : decode cX0_hasBit 13 = .ok (.ireturn, 1) := by decide +kernel
set_option maxRecDepth 20000 in
theorem ggX1_init_X4_init : GoodIn wsX1_init wsX4_init := goodIn_r _ [11, 12, 2, 3, 13, 14, 15, 16, 17, 18, 19, 20, 21, 22, 23, 24, 25, 26, 27, 28, 29, 30, 31, 32, 33, 34, 35, 36, 37, 38, 39, 40, 41, 42, 43, 44, 45, 46, 47, 48, 49, 50, 51, 57, 58, 59, 60, 61, 62, 63, 64, 65, 66, 67, 68, 69, 70, 55, 56, 71, 72, 73, 74, 75] (by decide +kernel) (by decide +kernel)
set_option maxRecDepth 20000 in
theorem gX1_init_X4_init_n24 : GoodIn wsX1_init (wsX4_init) := ggX1_init_X4_init
theorem dX1_init_0 : decode cX1_init 0 = .ok (.aload_n 0, 1) := by decide +kernel
theorem dX1_init_1 : decode cX1_init 1 = .ok (.invokespecial 3, 3) := by decide +kernel
theorem dX1_init_4 : decode cX1_init 4 = .ok (.aload_n 0, 1) := by decide +kernel
theorem dX1_init_5 : decode cX1_init 5 = .ok (.iconst 0, 1) := by decide +kernel
theorem dX1_init_6 : decode cX1_init 6 = .ok (.putfield 9, 3) := by decide +kernel
theorem dX1_init_9 : decode cX1_init 9 = .ok (.aload_n 0, 1) := by decide +kernel
theorem dX1_init_10 : decode cX1_init 10 = .ok (.iconst 0, 1) := by decide +kernel
theorem dX1_init_11 : decode cX1_init 11 = .ok (.putfield 15, 3) := by decide +kernel
theorem dX1_init_14 : decode cX1_init 14 = .ok (.aload_n 0, 1) := by decide +kernel
theorem dX1_init_15 : decode cX1_init 15 = .ok (.bipush 8, 2) := by decide +kernel
theorem dX1_init_17 : decode cX1_init 17 = .ok (.anewarray 18, 3) := by decide +kernel
theorem dX1_init_20 : decode cX1_init 20 = .ok (.putfield 20, 3) := by decide +kernel
theorem dX1_init_23 : decode cX1_init 23 = .ok (.iconst 0, 1) := by decide +kernel
theorem dX1_init_24 : decode cX1_init 24 = .ok (.istore_n 1, 1) := by decide +kernel
theorem dX1_init_25 : decode cX1_init 25 = .ok (.iload_n 1, 1) := by decide +kernel
theorem dX1_init_26 : decode cX1_init 26 = .ok (.bipush 8, 2) := by decide +kernel
theorem dX1_init_28 : decode cX1_init 28 = .ok (.if_icmp .ge 22, 3) := by decide +kernel
theorem dX1_init_31 : decode cX1_init 31 = .ok (.aload_n 0, 1) := by decide +kernel
theorem dX1_init_32 : decode cX1_init 32 = .ok (.getfield 20, 3) := by decide +kernel
theorem dX1_init_35 : decode cX1_init 35 = .ok (.iload_n 1, 1) := by decide +kernel
theorem dX1_init_36 : decode cX1_init 36 = .ok (.new 18, 3) := by decide +kernel
theorem dX1_init_39 : decode cX1_init 39 = .ok (.dup, 1) := by decide +kernel
theorem dX1_init_40 : decode cX1_init 40 = .ok (.invokespecial 24, 3) := by decide +kernel
theorem dX1_init_43 : decode cX1_init 43 = .ok (.aastore, 1) := by decide +kernel
theorem dX1_init_44 : decode cX1_init 44 = .ok (.iinc 1 1, 3) := by decide +kernel
theorem dX1_init_47 : decode cX1_init 47 = .ok (.goto (-22), 3) := by decide +kernel
theorem dX1_init_50 : decode cX1_init 50 = .ok (.return_, 1) := by decide +kernel
set_option maxRecDepth 20000 in
theorem ggX1_push_X4_copyFrom : GoodIn wsX1_push wsX4_copyFrom := goodIn_r _ [12, 13, 14, 15, 16, 17, 18, 19, 20, 21, 22, 23, 24, 25, 26, 27, 28, 29, 30, 31, 32, 33, 34, 35, 36, 37, 38, 39, 40, 41, 42, 43, 44, 45, 46, 47, 48, 52, 53, 54, 55, 56, 57, 58, 59, 60, 61, 62, 63, 64, 65, 66, 67, 68, 69, 70, 71, 72] (by decide +kernel) (by decide +kernel)
set_option maxRecDepth 20000 in
theorem gX1_push_X4_copyFrom : GoodIn wsX1_push (wsV RX1 25 RX4 yX4_copyFrom wsX4_copyFrom) := goodIn_app (goodIn_of _ (by decide +kernel)) ggX1_push_X4_copyFrom
theorem dX1_push_0 : decode cX1_push 0 = .ok (.aload_n 0, 1) := by decide +kernel
theorem dX1_push_1 : decode cX1_push 1 = .ok (.getfield 20, 3) := by decide +kernel
theorem dX1_push_4 : decode cX1_push 4 = .ok (.aload_n 0, 1) := by decide +kernel
theorem dX1_push_5 : decode cX1_push 5 = .ok (.getfield 15, 3) := by decide +kernel
theorem dX1_push_8 : decode cX1_push 8 = .ok (.aaload, 1) := by decide +kernel
theorem dX1_push_9 : decode cX1_push 9 = .ok (.aload_n 1, 1) := by decide +kernel
theorem dX1_push_10 : decode cX1_push 10 = .ok (.invokevirtual 25, 3) := by decide +kernel
theorem dX1_push_13 : decode cX1_push 13 = .ok (.aload_n 0, 1) := by decide +kernel
theorem dX1_push_14 : decode cX1_push 14 = .ok (.aload_n 0, 1) := by decide +kernel
theorem dX1_push_15 : decode cX1_push 15 = .ok (.getfield 15, 3) := by decide +kernel
theorem dX1_push_18 : decode cX1_push 18 = .ok (.iconst 1, 1) := by decide +kernel
theorem dX1_push_19 : decode cX1_push 19 = .ok (.iadd, 1) := by decide +kernel
theorem dX1_push_20 : decode cX1_push 20 = .ok (.bipush 8, 2) := by decide +kernel
theorem dX1_push_22 : decode cX1_push 22 = .ok (.irem, 1) := by decide +kernel
theorem dX1_push_23 : decode cX1_push 23 = .ok (.putfield 15, 3) := by decide +kernel
theorem dX1_push_26 : decode cX1_push 26 = .ok (.aload_n 0, 1) := by decide +kernel
theorem dX1_push_27 : decode cX1_push 27 = .ok (.aload_n 0, 1) := by decide +kernel
theorem dX1_push_28 : decode cX1_push 28 = .ok (.getfield 9, 3) := by decide +kernel
theorem dX1_push_31 : decode cX1_push 31 = .ok (.iconst 1, 1) := by decide +kernel
theorem dX1_push_32 : decode cX1_push 32 = .ok (.iadd, 1) := by decide +kernel
theorem dX1_push_33 : decode cX1_push 33 = .ok (.bipush 8, 2) := by decide +kernel
theorem dX1_push_35 : decode cX1_push 35 = .ok (.invokestatic 29, 3) := by decide +kernel
theorem dX1_push_38 : decode cX1_push 38 = .ok (.putfield 9, 3) := by decide +kernel
theorem dX1_push_41 : decode cX1_push 41 = .ok (.return_, 1) := by decide +kernel
set_option maxRecDepth 20000 in
theorem ggX1_pop_X4_copyFrom : GoodIn wsX1_pop wsX4_copyFrom := goodIn_r _ [8, 9, 10, 11, 12, 13, 14, 15, 16, 17, 18, 19, 20, 21, 22, 23, 24, 25, 26, 27, 28, 29, 30, 31, 32, 33, 34, 35, 36, 37, 38, 39, 40, 41, 42, 43, 44, 48, 49, 50, 51, 52, 53, 54, 55, 56, 57, 58, 59, 60, 61, 62, 63, 64, 65, 66, 67, 68] (by decide +kernel) (by decide +kernel)
set_option maxRecDepth 20000 in
theorem gX1_pop_X4_copyFrom : GoodIn wsX1_pop (wsV RX1 25 RX4 yX4_copyFrom wsX4_copyFrom) := goodIn_app (goodIn_of _ (by decide +kernel)) ggX1_pop_X4_copyFrom
theorem dX1_pop_0 : decode cX1_pop 0 = .ok (.aload_n 0, 1) := by decide +kernel
theorem dX1_pop_1 : decode cX1_pop 1 = .ok (.aload_n 0, 1) := by decide +kernel
theorem dX1_pop_2 : decode cX1_pop 2 = .ok (.getfield 15, 3) := by decide +kernel
theorem dX1_pop_5 : decode cX1_pop 5 = .ok (.bipush 8, 2) := by decide +kernel
theorem dX1_pop_7 : decode cX1_pop 7 = .ok (.iadd, 1) := by decide +kernel
theorem dX1_pop_8 : decode cX1_pop 8 = .ok (.iconst 1, 1) := by decide +kernel
theorem dX1_pop_9 : decode cX1_pop 9 = .ok (.isub, 1) := by decide +kernel
theorem dX1_pop_10 : decode cX1_pop 10 = .ok (.bipush 8, 2) := by decide +kernel
theorem dX1_pop_12 : decode cX1_pop 12 = .ok (.irem, 1) := by decide +kernel
theorem dX1_pop_13 : decode cX1_pop 13 = .ok (.putfield 15, 3) := by decide +kernel
theorem dX1_pop_16 : decode cX1_pop 16 = .ok (.aload_n 1, 1) := by decide +kernel
theorem dX1_pop_17 : decode cX1_pop 17 = .ok (.aload_n 0, 1) := by decide +kernel
theorem dX1_pop_18 : decode cX1_pop 18 = .ok (.getfield 20, 3) := by decide +kernel
theorem dX1_pop_21 : decode cX1_pop 21 = .ok (.aload_n 0, 1) := by decide +kernel
theorem dX1_pop_22 : decode cX1_pop 22 = .ok (.getfield 15, 3) := by decide +kernel
theorem dX1_pop_25 : decode cX1_pop 25 = .ok (.aaload, 1) := by decide +kernel
theorem dX1_pop_26 : decode cX1_pop 26 = .ok (.invokevirtual 25, 3) := by decide +kernel
theorem dX1_pop_29 : decode cX1_pop 29 = .ok (.aload_n 0, 1) := by decide +kernel
theorem dX1_pop_30 : decode cX1_pop 30 = .ok (.dup, 1) := by decide +kernel
theorem dX1_pop_31 : decode cX1_pop 31 = .ok (.getfield 9, 3) := by decide +kernel
theorem dX1_pop_34 : decode cX1_pop 34 = .ok (.iconst 1, 1) := by decide +kernel
theorem dX1_pop_35 : decode cX1_pop 35 = .ok (.isub, 1) := by decide +kernel
theorem dX1_pop_36 : decode cX1_pop 36 = .ok (.putfield 9, 3) := by decide +kernel
theorem dX1_pop_39 : decode cX1_pop 39 = .ok (.return_, 1) := by decide +kernel
theorem dX2_init_0 : decode cX2_init 0 = .ok (.aload_n 0, 1) := by decide +kernel
theorem dX2_init_1 : decode cX2_init 1 = .ok (.invokespecial 3, 3) := by decide +kernel
theorem dX2_init_4 : decode cX2_init 4 = .ok (.aload_n 0, 1) := by decide +kernel
theorem dX2_init_5 : decode cX2_init 5 = .ok (.bipush 24, 2) := by decide +kernel
theorem dX2_init_7 : decode cX2_init 7 = .ok (.newarray .long, 2) := by decide +kernel
theorem dX2_init_9 : decode cX2_init 9 = .ok (.putfield 9, 3) := by decide +kernel
theorem dX2_init_12 : decode cX2_init 12 = .ok (.aload_n 0, 1) := by decide +kernel
theorem dX2_init_13 : decode cX2_init 13 = .ok (.bipush 24, 2) := by decide +kernel
theorem dX2_init_15 : decode cX2_init 15 = .ok (.newarray .long, 2) := by decide +kernel
theorem dX2_init_17 : decode cX2_init 17 = .ok (.putfield 15, 3) := by decide +kernel
theorem dX2_init_20 : decode cX2_init 20 = .ok (.return_, 1) := by decide +kernel
set_option maxRecDepth 20000 in
theorem ggX2_lane_X7_hasLane : GoodIn wsX2_lane wsX7_hasLane := goodIn_r _ [5] (by decide +kernel) (by decide +kernel)
set_option maxRecDepth 20000 in
theorem gX2_lane_X7_hasLane_n18 : GoodIn wsX2_lane (wsX7_hasLane) := ggX2_lane_X7_hasLane
theorem dX2_lane_0 : decode cX2_lane 0 = .ok (.aload_n 0, 1) := by decide +kernel
theorem dX2_lane_1 : decode cX2_lane 1 = .ok (.getfield 9, 3) := by decide +kernel
theorem dX2_lane_4 : decode cX2_lane 4 = .ok (.iload_n 1, 1) := by decide +kernel
theorem dX2_lane_5 : decode cX2_lane 5 = .ok (.laload, 1) := by decide +kernel
theorem dX2_lane_6 : decode cX2_lane 6 = .ok (.iload_n 2, 1) := by decide +kernel
theorem dX2_lane_7 : decode cX2_lane 7 = .ok (.invokestatic 18, 3) := by decide +kernel
theorem dX2_lane_10 : decode cX2_lane 10 = .ok (.ifCond .eq 5, 3) := by decide +kernel
theorem dX2_lane_13 : decode cX2_lane 13 = .ok (.iconst 0, 1) := by decide +kernel
theorem dX2_lane_14 : decode cX2_lane 14 = .ok (.ireturn, 1) := by decide +kernel
theorem dX2_lane_15 : decode cX2_lane 15 = .ok (.aload_n 0, 1) := by decide +kernel
theorem dX2_lane_16 : decode cX2_lane 16 = .ok (.getfield 15, 3) := by decide +kernel
theorem dX2_lane_19 : decode cX2_lane 19 = .ok (.iload_n 1, 1) := by decide +kernel
theorem dX2_lane_20 : decode cX2_lane 20 = .ok (.laload, 1) := by decide +kernel
theorem dX2_lane_21 : decode cX2_lane 21 = .ok (.iload_n 2, 1) := by decide +kernel
theorem dX2_lane_22 : decode cX2_lane 22 = .ok (.invokestatic 18, 3) := by decide +kernel
theorem dX2_lane_25 : decode cX2_lane 25 = .ok (.ifCond .eq 7, 3) := by decide +kernel
theorem dX2_lane_28 : decode cX2_lane 28 = .ok (.iconst 1, 1) := by decide +kernel
theorem dX2_lane_29 : decode cX2_lane 29 = .ok (.goto 4, 3) := by decide +kernel
theorem dX2_lane_32 : decode cX2_lane 32 = .ok (.iconst 2, 1) := by decide +kernel
theorem dX2_lane_33 : decode cX2_lane 33 = .ok (.ireturn, 1) := by decide +kernel
set_option maxRecDepth 20000 in
theorem ggX2_setFullInputs_X0_hasBit : GoodIn wsX2_setFullInputs wsX0_hasBit := goodIn_r _ [7] (by decide +kernel) (by decide +kernel)
set_option maxRecDepth 20000 in
theorem gX2_setFullInputs_X0_hasBit : GoodIn wsX2_setFullInputs (va_wsS RX2 25 yX0_hasBit wsX0_hasBit) := goodIn_app (goodIn_of _ (by decide +kernel)) ggX2_setFullInputs_X0_hasBit
theorem dX2_setFullInputs_0 : decode cX2_setFullInputs 0 = .ok (.iconst 0, 1) := by decide +kernel
theorem dX2_setFullInputs_1 : decode cX2_setFullInputs 1 = .ok (.istore_n 3, 1) := by decide +kernel
theorem dX2_setFullInputs_2 : decode cX2_setFullInputs 2 = .ok (.iload_n 3, 1) := by decide +kernel
theorem dX2_setFullInputs_3 : decode cX2_setFullInputs 3 = .ok (.iload_n 1, 1) := by decide +kernel
theorem dX2_setFullInputs_4 : decode cX2_setFullInputs 4 = .ok (.if_icmp .ge 69, 3) := by decide +kernel
theorem dX2_setFullInputs_7 : decode cX2_setFullInputs 7 = .ok (.iload_n 3, 1) := by decide +kernel
theorem dX2_setFullInputs_8 : decode cX2_setFullInputs 8 = .ok (.bipush 6, 2) := by decide +kernel
theorem dX2_setFullInputs_10 : decode cX2_setFullInputs 10 = .ok (.if_icmp .ge 17, 3) := by decide +kernel
theorem dX2_setFullInputs_13 : decode cX2_setFullInputs 13 = .ok (.aload_n 0, 1) := by decide +kernel
theorem dX2_setFullInputs_14 : decode cX2_setFullInputs 14 = .ok (.getfield 15, 3) := by decide +kernel
theorem dX2_setFullInputs_17 : decode cX2_setFullInputs 17 = .ok (.iload_n 3, 1) := by decide +kernel
theorem dX2_setFullInputs_18 : decode cX2_setFullInputs 18 = .ok (.getstatic 22, 3) := by decide +kernel
theorem dX2_setFullInputs_21 : decode cX2_setFullInputs 21 = .ok (.iload_n 3, 1) := by decide +kernel
theorem dX2_setFullInputs_22 : decode cX2_setFullInputs 22 = .ok (.laload, 1) := by decide +kernel
theorem dX2_setFullInputs_23 : decode cX2_setFullInputs 23 = .ok (.lastore, 1) := by decide +kernel
theorem dX2_setFullInputs_24 : decode cX2_setFullInputs 24 = .ok (.goto 27, 3) := by decide +kernel
theorem dX2_setFullInputs_27 : decode cX2_setFullInputs 27 = .ok (.aload_n 0, 1) := by decide +kernel
theorem dX2_setFullInputs_28 : decode cX2_setFullInputs 28 = .ok (.getfield 15, 3) := by decide +kernel
theorem dX2_setFullInputs_31 : decode cX2_setFullInputs 31 = .ok (.iload_n 3, 1) := by decide +kernel
theorem dX2_setFullInputs_32 : decode cX2_setFullInputs 32 = .ok (.iload_n 2, 1) := by decide +kernel
theorem dX2_setFullInputs_33 : decode cX2_setFullInputs 33 = .ok (.iload_n 3, 1) := by decide +kernel
theorem dX2_setFullInputs_34 : decode cX2_setFullInputs 34 = .ok (.bipush 6, 2) := by decide +kernel
theorem dX2_setFullInputs_36 : decode cX2_setFullInputs 36 = .ok (.isub, 1) := by decide +kernel
theorem dX2_setFullInputs_37 : decode cX2_setFullInputs 37 = .ok (.invokestatic 25, 3) := by decide +kernel
theorem dX2_setFullInputs_40 : decode cX2_setFullInputs 40 = .ok (.ifCond .eq 9, 3) := by decide +kernel
theorem dX2_setFullInputs_43 : decode cX2_setFullInputs 43 = .ok (.ldc2_w 31, 3) := by decide +kernel
theorem dX2_setFullInputs_46 : decode cX2_setFullInputs 46 = .ok (.goto 4, 3) := by decide +kernel
theorem dX2_setFullInputs_49 : decode cX2_setFullInputs 49 = .ok (.lconst 0, 1) := by decide +kernel
theorem dX2_setFullInputs_50 : decode cX2_setFullInputs 50 = .ok (.lastore, 1) := by decide +kernel
theorem dX2_setFullInputs_51 : decode cX2_setFullInputs 51 = .ok (.aload_n 0, 1) := by decide +kernel
theorem dX2_setFullInputs_52 : decode cX2_setFullInputs 52 = .ok (.getfield 9, 3) := by decide +kernel
theorem dX2_setFullInputs_55 : decode cX2_setFullInputs 55 = .ok (.iload_n 3, 1) := by decide +kernel
theorem dX2_setFullInputs_56 : decode cX2_setFullInputs 56 = .ok (.aload_n 0, 1) := by decide +kernel
theorem dX2_setFullInputs_57 : decode cX2_setFullInputs 57 = .ok (.getfield 15, 3) := by decide +kernel
theorem dX2_setFullInputs_60 : decode cX2_setFullInputs 60 = .ok (.iload_n 3, 1) := by decide +kernel
theorem dX2_setFullInputs_61 : decode cX2_setFullInputs 61 = .ok (.laload, 1) := by decide +kernel
theorem dX2_setFullInputs_62 : decode cX2_setFullInputs 62 = .ok (.ldc2_w 31, 3) := by decide +kernel
theorem dX2_setFullInputs_65 : decode cX2_setFullInputs 65 = .ok (.lxor, 1) := by decide +kernel
theorem dX2_setFullInputs_66 : decode cX2_setFullInputs 66 = .ok (.lastore, 1) := by decide +kernel
theorem dX2_setFullInputs_67 : decode cX2_setFullInputs 67 = .ok (.iinc 3 1, 3) := by decide +kernel
theorem dX2_setFullInputs_70 : decode cX2_setFullInputs 70 = .ok (.goto (-68), 3) := by decide +kernel
theorem dX2_setFullInputs_73 : decode cX2_setFullInputs 73 = .ok (.return_, 1) := by decide +kernel
set_option maxRecDepth 20000 in
theorem ggX2_setTestInputs_X0_hasBit : GoodIn wsX2_setTestInputs wsX0_hasBit := goodIn_r _ [9] (by decide +kernel) (by decide +kernel)
set_option maxRecDepth 20000 in
theorem gX2_setTestInputs_X0_hasBit : GoodIn wsX2_setTestInputs (va_wsS RX2 25 yX0_hasBit wsX0_hasBit) := goodIn_app (goodIn_of _ (by decide +kernel)) ggX2_setTestInputs_X0_hasBit
theorem dX2_setTestInputs_0 : decode cX2_setTestInputs 0 = .ok (.iconst 0, 1) := by decide +kernel
theorem dX2_setTestInputs_1 : decode cX2_setTestInputs 1 = .ok (.istore_n 3, 1) := by decide +kernel
theorem dX2_setTestInputs_2 : decode cX2_setTestInputs 2 = .ok (.iload_n 3, 1) := by decide +kernel
theorem dX2_setTestInputs_3 : decode cX2_setTestInputs 3 = .ok (.iload_n 1, 1) := by decide +kernel
theorem dX2_setTestInputs_4 : decode cX2_setTestInputs 4 = .ok (.if_icmp .ge 98, 3) := by decide +kernel
theorem dX2_setTestInputs_7 : decode cX2_setTestInputs 7 = .ok (.aload_n 0, 1) := by decide +kernel
theorem dX2_setTestInputs_8 : decode cX2_setTestInputs 8 = .ok (.getfield 9, 3) := by decide +kernel
theorem dX2_setTestInputs_11 : decode cX2_setTestInputs 11 = .ok (.iload_n 3, 1) := by decide +kernel
theorem dX2_setTestInputs_12 : decode cX2_setTestInputs 12 = .ok (.lconst 0, 1) := by decide +kernel
theorem dX2_setTestInputs_13 : decode cX2_setTestInputs 13 = .ok (.lastore, 1) := by decide +kernel
theorem dX2_setTestInputs_14 : decode cX2_setTestInputs 14 = .ok (.aload_n 0, 1) := by decide +kernel
theorem dX2_setTestInputs_15 : decode cX2_setTestInputs 15 = .ok (.getfield 15, 3) := by decide +kernel
theorem dX2_setTestInputs_18 : decode cX2_setTestInputs 18 = .ok (.iload_n 3, 1) := by decide +kernel
theorem dX2_setTestInputs_19 : decode cX2_setTestInputs 19 = .ok (.lconst 0, 1) := by decide +kernel
theorem dX2_setTestInputs_20 : decode cX2_setTestInputs 20 = .ok (.lastore, 1) := by decide +kernel
theorem dX2_setTestInputs_21 : decode cX2_setTestInputs 21 = .ok (.iconst 0, 1) := by decide +kernel
theorem dX2_setTestInputs_22 : decode cX2_setTestInputs 22 = .ok (.istore 4, 2) := by decide +kernel
theorem dX2_setTestInputs_24 : decode cX2_setTestInputs 24 = .ok (.iload 4, 2) := by decide +kernel
theorem dX2_setTestInputs_26 : decode cX2_setTestInputs 26 = .ok (.aload_n 2, 1) := by decide +kernel
theorem dX2_setTestInputs_27 : decode cX2_setTestInputs 27 = .ok (.getfield 33, 3) := by decide +kernel
theorem dX2_setTestInputs_30 : decode cX2_setTestInputs 30 = .ok (.if_icmp .ge 66, 3) := by decide +kernel
theorem dX2_setTestInputs_33 : decode cX2_setTestInputs 33 = .ok (.aload_n 2, 1) := by decide +kernel
theorem dX2_setTestInputs_34 : decode cX2_setTestInputs 34 = .ok (.getfield 39, 3) := by decide +kernel
theorem dX2_setTestInputs_37 : decode cX2_setTestInputs 37 = .ok (.iload 4, 2) := by decide +kernel
theorem dX2_setTestInputs_39 : decode cX2_setTestInputs 39 = .ok (.iaload, 1) := by decide +kernel
theorem dX2_setTestInputs_40 : decode cX2_setTestInputs 40 = .ok (.iload_n 3, 1) := by decide +kernel
theorem dX2_setTestInputs_41 : decode cX2_setTestInputs 41 = .ok (.invokestatic 25, 3) := by decide +kernel
theorem dX2_setTestInputs_44 : decode cX2_setTestInputs 44 = .ok (.ifCond .eq 19, 3) := by decide +kernel
theorem dX2_setTestInputs_47 : decode cX2_setTestInputs 47 = .ok (.aload_n 0, 1) := by decide +kernel
theorem dX2_setTestInputs_48 : decode cX2_setTestInputs 48 = .ok (.getfield 15, 3) := by decide +kernel
theorem dX2_setTestInputs_51 : decode cX2_setTestInputs 51 = .ok (.iload_n 3, 1) := by decide +kernel
theorem dX2_setTestInputs_52 : decode cX2_setTestInputs 52 = .ok (.dup2, 1) := by decide +kernel
theorem dX2_setTestInputs_53 : decode cX2_setTestInputs 53 = .ok (.laload, 1) := by decide +kernel
theorem dX2_setTestInputs_54 : decode cX2_setTestInputs 54 = .ok (.lconst 1, 1) := by decide +kernel
theorem dX2_setTestInputs_55 : decode cX2_setTestInputs 55 = .ok (.iload 4, 2) := by decide +kernel
theorem dX2_setTestInputs_57 : decode cX2_setTestInputs 57 = .ok (.lshl, 1) := by decide +kernel
theorem dX2_setTestInputs_58 : decode cX2_setTestInputs 58 = .ok (.lor, 1) := by decide +kernel
theorem dX2_setTestInputs_59 : decode cX2_setTestInputs 59 = .ok (.lastore, 1) := by decide +kernel
theorem dX2_setTestInputs_60 : decode cX2_setTestInputs 60 = .ok (.goto 30, 3) := by decide +kernel
theorem dX2_setTestInputs_63 : decode cX2_setTestInputs 63 = .ok (.aload_n 2, 1) := by decide +kernel
theorem dX2_setTestInputs_64 : decode cX2_setTestInputs 64 = .ok (.getfield 43, 3) := by decide +kernel
theorem dX2_setTestInputs_67 : decode cX2_setTestInputs 67 = .ok (.iload 4, 2) := by decide +kernel
theorem dX2_setTestInputs_69 : decode cX2_setTestInputs 69 = .ok (.iaload, 1) := by decide +kernel
theorem dX2_setTestInputs_70 : decode cX2_setTestInputs 70 = .ok (.iload_n 3, 1) := by decide +kernel
theorem dX2_setTestInputs_71 : decode cX2_setTestInputs 71 = .ok (.invokestatic 25, 3) := by decide +kernel
theorem dX2_setTestInputs_74 : decode cX2_setTestInputs 74 = .ok (.ifCond .ne 16, 3) := by decide +kernel
theorem dX2_setTestInputs_77 : decode cX2_setTestInputs 77 = .ok (.aload_n 0, 1) := by decide +kernel
theorem dX2_setTestInputs_78 : decode cX2_setTestInputs 78 = .ok (.getfield 9, 3) := by decide +kernel
theorem dX2_setTestInputs_81 : decode cX2_setTestInputs 81 = .ok (.iload_n 3, 1) := by decide +kernel
theorem dX2_setTestInputs_82 : decode cX2_setTestInputs 82 = .ok (.dup2, 1) := by decide +kernel
theorem dX2_setTestInputs_83 : decode cX2_setTestInputs 83 = .ok (.laload, 1) := by decide +kernel
theorem dX2_setTestInputs_84 : decode cX2_setTestInputs 84 = .ok (.lconst 1, 1) := by decide +kernel
theorem dX2_setTestInputs_85 : decode cX2_setTestInputs 85 = .ok (.iload 4, 2) := by decide +kernel
theorem dX2_setTestInputs_87 : decode cX2_setTestInputs 87 = .ok (.lshl, 1) := by decide +kernel
theorem dX2_setTestInputs_88 : decode cX2_setTestInputs 88 = .ok (.lor, 1) := by decide +kernel
theorem dX2_setTestInputs_89 : decode cX2_setTestInputs 89 = .ok (.lastore, 1) := by decide +kernel
theorem dX2_setTestInputs_90 : decode cX2_setTestInputs 90 = .ok (.iinc 4 1, 3) := by decide +kernel
theorem dX2_setTestInputs_93 : decode cX2_setTestInputs 93 = .ok (.goto (-69), 3) := by decide +kernel
theorem dX2_setTestInputs_96 : decode cX2_setTestInputs 96 = .ok (.iinc 3 1, 3) := by decide +kernel
theorem dX2_setTestInputs_99 : decode cX2_setTestInputs 99 = .ok (.goto (-97), 3) := by decide +kernel
theorem dX2_setTestInputs_102 : decode cX2_setTestInputs 102 = .ok (.return_, 1) := by decide +kernel
set_option maxRecDepth 20000 in
theorem ggX2_runGates_X2_runGate : GoodIn wsX2_runGates wsX2_runGate := goodIn_r _ [7, 8, 9, 10, 11, 12, 13, 14, 15, 16, 17, 18, 19, 20, 21, 22, 23, 24, 25, 26, 27, 28] (by decide +kernel) (by decide +kernel)
set_option maxRecDepth 20000 in
theorem gX2_runGates_X2_runGate : GoodIn wsX2_runGates (wsV RX2 52 RX2 yX2_runGate wsX2_runGate) := goodIn_app (goodIn_of _ (by decide +kernel)) ggX2_runGates_X2_runGate
theorem dX2_runGates_0 : decode cX2_runGates 0 = .ok (.aload_n 1, 1) := by decide +kernel
theorem dX2_runGates_1 : decode cX2_runGates 1 = .ok (.getfield 46, 3) := by decide +kernel
theorem dX2_runGates_4 : decode cX2_runGates 4 = .ok (.istore_n 2, 1) := by decide +kernel
theorem dX2_runGates_5 : decode cX2_runGates 5 = .ok (.iload_n 2, 1) := by decide +kernel
theorem dX2_runGates_6 : decode cX2_runGates 6 = .ok (.aload_n 1, 1) := by decide +kernel
theorem dX2_runGates_7 : decode cX2_runGates 7 = .ok (.getfield 49, 3) := by decide +kernel
theorem dX2_runGates_10 : decode cX2_runGates 10 = .ok (.if_icmp .ge 15, 3) := by decide +kernel
theorem dX2_runGates_13 : decode cX2_runGates 13 = .ok (.aload_n 0, 1) := by decide +kernel
theorem dX2_runGates_14 : decode cX2_runGates 14 = .ok (.aload_n 1, 1) := by decide +kernel
theorem dX2_runGates_15 : decode cX2_runGates 15 = .ok (.iload_n 2, 1) := by decide +kernel
theorem dX2_runGates_16 : decode cX2_runGates 16 = .ok (.invokevirtual 52, 3) := by decide +kernel
theorem dX2_runGates_19 : decode cX2_runGates 19 = .ok (.iinc 2 1, 3) := by decide +kernel
theorem dX2_runGates_22 : decode cX2_runGates 22 = .ok (.goto (-17), 3) := by decide +kernel
theorem dX2_runGates_25 : decode cX2_runGates 25 = .ok (.return_, 1) := by decide +kernel
set_option maxRecDepth 20000 in
theorem ggX2_runFault_X2_setSites : GoodIn wsX2_runFault wsX2_setSites := goodIn_r _ [9, 1, 4, 10, 3, 11, 12, 13, 25, 26, 27, 28, 29, 30, 31, 32, 33, 34, 35, 36, 37, 38, 39, 40] (by decide +kernel) (by decide +kernel)
set_option maxRecDepth 20000 in
theorem gX2_runFault_X2_setSites : GoodIn wsX2_runFault (wsV RX2 56 RX2 yX2_setSites wsX2_setSites) := goodIn_app (goodIn_of _ (by decide +kernel)) ggX2_runFault_X2_setSites
set_option maxRecDepth 20000 in
theorem ggX2_runFault_X0_hasBit : GoodIn wsX2_runFault wsX0_hasBit := goodIn_r _ [17] (by decide +kernel) (by decide +kernel)
set_option maxRecDepth 20000 in
theorem gX2_runFault_X0_hasBit : GoodIn wsX2_runFault (va_wsS RX2 25 yX0_hasBit wsX0_hasBit) := goodIn_app (goodIn_of _ (by decide +kernel)) ggX2_runFault_X0_hasBit
set_option maxRecDepth 20000 in
theorem ggX2_runFault_X2_runGate : GoodIn wsX2_runFault wsX2_runGate := goodIn_r _ [21, 22, 23, 3, 4, 24, 25, 26, 27, 28, 29, 30, 31, 32, 33, 34, 35, 36, 37, 38, 39, 40] (by decide +kernel) (by decide +kernel)
set_option maxRecDepth 20000 in
theorem gX2_runFault_X2_runGate : GoodIn wsX2_runFault (wsV RX2 52 RX2 yX2_runGate wsX2_runGate) := goodIn_app (goodIn_of _ (by decide +kernel)) ggX2_runFault_X2_runGate
theorem dX2_runFault_0 : decode cX2_runFault 0 = .ok (.aload_n 0, 1) := by decide +kernel
theorem dX2_runFault_1 : decode cX2_runFault 1 = .ok (.aload_n 1, 1) := by decide +kernel
theorem dX2_runFault_2 : decode cX2_runFault 2 = .ok (.aload_n 2, 1) := by decide +kernel
theorem dX2_runFault_3 : decode cX2_runFault 3 = .ok (.iload_n 3, 1) := by decide +kernel
theorem dX2_runFault_4 : decode cX2_runFault 4 = .ok (.invokevirtual 56, 3) := by decide +kernel
theorem dX2_runFault_7 : decode cX2_runFault 7 = .ok (.istore 4, 2) := by decide +kernel
theorem dX2_runFault_9 : decode cX2_runFault 9 = .ok (.iconst 0, 1) := by decide +kernel
theorem dX2_runFault_10 : decode cX2_runFault 10 = .ok (.istore 5, 2) := by decide +kernel
theorem dX2_runFault_12 : decode cX2_runFault 12 = .ok (.iload 5, 2) := by decide +kernel
theorem dX2_runFault_14 : decode cX2_runFault 14 = .ok (.aload_n 1, 1) := by decide +kernel
theorem dX2_runFault_15 : decode cX2_runFault 15 = .ok (.getfield 49, 3) := by decide +kernel
theorem dX2_runFault_18 : decode cX2_runFault 18 = .ok (.if_icmp .ge 73, 3) := by decide +kernel
theorem dX2_runFault_21 : decode cX2_runFault 21 = .ok (.iload 4, 2) := by decide +kernel
theorem dX2_runFault_23 : decode cX2_runFault 23 = .ok (.iload 5, 2) := by decide +kernel
theorem dX2_runFault_25 : decode cX2_runFault 25 = .ok (.invokestatic 25, 3) := by decide +kernel
theorem dX2_runFault_28 : decode cX2_runFault 28 = .ok (.ifCond .eq 6, 3) := by decide +kernel
theorem dX2_runFault_31 : decode cX2_runFault 31 = .ok (.goto 54, 3) := by decide +kernel
theorem dX2_runFault_34 : decode cX2_runFault 34 = .ok (.aload_n 1, 1) := by decide +kernel
theorem dX2_runFault_35 : decode cX2_runFault 35 = .ok (.getfield 60, 3) := by decide +kernel
theorem dX2_runFault_38 : decode cX2_runFault 38 = .ok (.iload 5, 2) := by decide +kernel
theorem dX2_runFault_40 : decode cX2_runFault 40 = .ok (.iaload, 1) := by decide +kernel
theorem dX2_runFault_41 : decode cX2_runFault 41 = .ok (.iload 4, 2) := by decide +kernel
theorem dX2_runFault_43 : decode cX2_runFault 43 = .ok (.iand, 1) := by decide +kernel
theorem dX2_runFault_44 : decode cX2_runFault 44 = .ok (.ifCond .eq 13, 3) := by decide +kernel
theorem dX2_runFault_47 : decode cX2_runFault 47 = .ok (.aload_n 0, 1) := by decide +kernel
theorem dX2_runFault_48 : decode cX2_runFault 48 = .ok (.aload_n 1, 1) := by decide +kernel
theorem dX2_runFault_49 : decode cX2_runFault 49 = .ok (.iload 5, 2) := by decide +kernel
theorem dX2_runFault_51 : decode cX2_runFault 51 = .ok (.invokevirtual 52, 3) := by decide +kernel
theorem dX2_runFault_54 : decode cX2_runFault 54 = .ok (.goto 31, 3) := by decide +kernel
theorem dX2_runFault_57 : decode cX2_runFault 57 = .ok (.aload_n 0, 1) := by decide +kernel
theorem dX2_runFault_58 : decode cX2_runFault 58 = .ok (.getfield 9, 3) := by decide +kernel
theorem dX2_runFault_61 : decode cX2_runFault 61 = .ok (.iload 5, 2) := by decide +kernel
theorem dX2_runFault_63 : decode cX2_runFault 63 = .ok (.aload_n 2, 1) := by decide +kernel
theorem dX2_runFault_64 : decode cX2_runFault 64 = .ok (.getfield 9, 3) := by decide +kernel
theorem dX2_runFault_67 : decode cX2_runFault 67 = .ok (.iload 5, 2) := by decide +kernel
theorem dX2_runFault_69 : decode cX2_runFault 69 = .ok (.laload, 1) := by decide +kernel
theorem dX2_runFault_70 : decode cX2_runFault 70 = .ok (.lastore, 1) := by decide +kernel
theorem dX2_runFault_71 : decode cX2_runFault 71 = .ok (.aload_n 0, 1) := by decide +kernel
theorem dX2_runFault_72 : decode cX2_runFault 72 = .ok (.getfield 15, 3) := by decide +kernel
theorem dX2_runFault_75 : decode cX2_runFault 75 = .ok (.iload 5, 2) := by decide +kernel
theorem dX2_runFault_77 : decode cX2_runFault 77 = .ok (.aload_n 2, 1) := by decide +kernel
theorem dX2_runFault_78 : decode cX2_runFault 78 = .ok (.getfield 15, 3) := by decide +kernel
theorem dX2_runFault_81 : decode cX2_runFault 81 = .ok (.iload 5, 2) := by decide +kernel
theorem dX2_runFault_83 : decode cX2_runFault 83 = .ok (.laload, 1) := by decide +kernel
theorem dX2_runFault_84 : decode cX2_runFault 84 = .ok (.lastore, 1) := by decide +kernel
theorem dX2_runFault_85 : decode cX2_runFault 85 = .ok (.iinc 5 1, 3) := by decide +kernel
theorem dX2_runFault_88 : decode cX2_runFault 88 = .ok (.goto (-76), 3) := by decide +kernel
theorem dX2_runFault_91 : decode cX2_runFault 91 = .ok (.return_, 1) := by decide +kernel
theorem dX2_setSites_0 : decode cX2_setSites 0 = .ok (.iload_n 3, 1) := by decide +kernel
theorem dX2_setSites_1 : decode cX2_setSites 1 = .ok (.iconst 2, 1) := by decide +kernel
theorem dX2_setSites_2 : decode cX2_setSites 2 = .ok (.aload_n 1, 1) := by decide +kernel
theorem dX2_setSites_3 : decode cX2_setSites 3 = .ok (.getfield 49, 3) := by decide +kernel
theorem dX2_setSites_6 : decode cX2_setSites 6 = .ok (.imul, 1) := by decide +kernel
theorem dX2_setSites_7 : decode cX2_setSites 7 = .ok (.isub, 1) := by decide +kernel
theorem dX2_setSites_8 : decode cX2_setSites 8 = .ok (.istore 4, 2) := by decide +kernel
theorem dX2_setSites_10 : decode cX2_setSites 10 = .ok (.iload 4, 2) := by decide +kernel
theorem dX2_setSites_12 : decode cX2_setSites 12 = .ok (.ifCond .ge 51, 3) := by decide +kernel
theorem dX2_setSites_15 : decode cX2_setSites 15 = .ok (.iload_n 3, 1) := by decide +kernel
theorem dX2_setSites_16 : decode cX2_setSites 16 = .ok (.iconst 1, 1) := by decide +kernel
theorem dX2_setSites_17 : decode cX2_setSites 17 = .ok (.ishr, 1) := by decide +kernel
theorem dX2_setSites_18 : decode cX2_setSites 18 = .ok (.istore 5, 2) := by decide +kernel
theorem dX2_setSites_20 : decode cX2_setSites 20 = .ok (.aload_n 0, 1) := by decide +kernel
theorem dX2_setSites_21 : decode cX2_setSites 21 = .ok (.getfield 15, 3) := by decide +kernel
theorem dX2_setSites_24 : decode cX2_setSites 24 = .ok (.iload 5, 2) := by decide +kernel
theorem dX2_setSites_26 : decode cX2_setSites 26 = .ok (.iload_n 3, 1) := by decide +kernel
theorem dX2_setSites_27 : decode cX2_setSites 27 = .ok (.iconst 1, 1) := by decide +kernel
theorem dX2_setSites_28 : decode cX2_setSites 28 = .ok (.iand, 1) := by decide +kernel
theorem dX2_setSites_29 : decode cX2_setSites 29 = .ok (.ifCond .eq 9, 3) := by decide +kernel
theorem dX2_setSites_32 : decode cX2_setSites 32 = .ok (.ldc2_w 31, 3) := by decide +kernel
theorem dX2_setSites_35 : decode cX2_setSites 35 = .ok (.goto 4, 3) := by decide +kernel
theorem dX2_setSites_38 : decode cX2_setSites 38 = .ok (.lconst 0, 1) := by decide +kernel
theorem dX2_setSites_39 : decode cX2_setSites 39 = .ok (.lastore, 1) := by decide +kernel
theorem dX2_setSites_40 : decode cX2_setSites 40 = .ok (.aload_n 0, 1) := by decide +kernel
theorem dX2_setSites_41 : decode cX2_setSites 41 = .ok (.getfield 9, 3) := by decide +kernel
theorem dX2_setSites_44 : decode cX2_setSites 44 = .ok (.iload 5, 2) := by decide +kernel
theorem dX2_setSites_46 : decode cX2_setSites 46 = .ok (.aload_n 0, 1) := by decide +kernel
theorem dX2_setSites_47 : decode cX2_setSites 47 = .ok (.getfield 15, 3) := by decide +kernel
theorem dX2_setSites_50 : decode cX2_setSites 50 = .ok (.iload 5, 2) := by decide +kernel
theorem dX2_setSites_52 : decode cX2_setSites 52 = .ok (.laload, 1) := by decide +kernel
theorem dX2_setSites_53 : decode cX2_setSites 53 = .ok (.ldc2_w 31, 3) := by decide +kernel
theorem dX2_setSites_56 : decode cX2_setSites 56 = .ok (.lxor, 1) := by decide +kernel
theorem dX2_setSites_57 : decode cX2_setSites 57 = .ok (.lastore, 1) := by decide +kernel
theorem dX2_setSites_58 : decode cX2_setSites 58 = .ok (.iconst 1, 1) := by decide +kernel
theorem dX2_setSites_59 : decode cX2_setSites 59 = .ok (.iload 5, 2) := by decide +kernel
theorem dX2_setSites_61 : decode cX2_setSites 61 = .ok (.ishl, 1) := by decide +kernel
theorem dX2_setSites_62 : decode cX2_setSites 62 = .ok (.ireturn, 1) := by decide +kernel
theorem dX2_setSites_63 : decode cX2_setSites 63 = .ok (.aload_n 1, 1) := by decide +kernel
theorem dX2_setSites_64 : decode cX2_setSites 64 = .ok (.getfield 63, 3) := by decide +kernel
theorem dX2_setSites_67 : decode cX2_setSites 67 = .ok (.iload 4, 2) := by decide +kernel
theorem dX2_setSites_69 : decode cX2_setSites 69 = .ok (.iaload, 1) := by decide +kernel
theorem dX2_setSites_70 : decode cX2_setSites 70 = .ok (.istore 5, 2) := by decide +kernel
theorem dX2_setSites_72 : decode cX2_setSites 72 = .ok (.aload_n 1, 1) := by decide +kernel
theorem dX2_setSites_73 : decode cX2_setSites 73 = .ok (.getfield 66, 3) := by decide +kernel
theorem dX2_setSites_76 : decode cX2_setSites 76 = .ok (.iload 4, 2) := by decide +kernel
theorem dX2_setSites_78 : decode cX2_setSites 78 = .ok (.iaload, 1) := by decide +kernel
theorem dX2_setSites_79 : decode cX2_setSites 79 = .ok (.istore 6, 2) := by decide +kernel
theorem dX2_setSites_81 : decode cX2_setSites 81 = .ok (.aload_n 1, 1) := by decide +kernel
theorem dX2_setSites_82 : decode cX2_setSites 82 = .ok (.getfield 69, 3) := by decide +kernel
theorem dX2_setSites_85 : decode cX2_setSites 85 = .ok (.iload 4, 2) := by decide +kernel
theorem dX2_setSites_87 : decode cX2_setSites 87 = .ok (.iaload, 1) := by decide +kernel
theorem dX2_setSites_88 : decode cX2_setSites 88 = .ok (.ifCond .ne 50, 3) := by decide +kernel
theorem dX2_setSites_91 : decode cX2_setSites 91 = .ok (.aload_n 0, 1) := by decide +kernel
theorem dX2_setSites_92 : decode cX2_setSites 92 = .ok (.getfield 9, 3) := by decide +kernel
theorem dX2_setSites_95 : decode cX2_setSites 95 = .ok (.iload 5, 2) := by decide +kernel
theorem dX2_setSites_97 : decode cX2_setSites 97 = .ok (.aload_n 2, 1) := by decide +kernel
theorem dX2_setSites_98 : decode cX2_setSites 98 = .ok (.getfield 9, 3) := by decide +kernel
theorem dX2_setSites_101 : decode cX2_setSites 101 = .ok (.iload 5, 2) := by decide +kernel
theorem dX2_setSites_103 : decode cX2_setSites 103 = .ok (.laload, 1) := by decide +kernel
theorem dX2_setSites_104 : decode cX2_setSites 104 = .ok (.aload_n 2, 1) := by decide +kernel
theorem dX2_setSites_105 : decode cX2_setSites 105 = .ok (.getfield 9, 3) := by decide +kernel
theorem dX2_setSites_108 : decode cX2_setSites 108 = .ok (.iload 6, 2) := by decide +kernel
theorem dX2_setSites_110 : decode cX2_setSites 110 = .ok (.laload, 1) := by decide +kernel
theorem dX2_setSites_111 : decode cX2_setSites 111 = .ok (.lor, 1) := by decide +kernel
theorem dX2_setSites_112 : decode cX2_setSites 112 = .ok (.lastore, 1) := by decide +kernel
theorem dX2_setSites_113 : decode cX2_setSites 113 = .ok (.aload_n 0, 1) := by decide +kernel
theorem dX2_setSites_114 : decode cX2_setSites 114 = .ok (.getfield 15, 3) := by decide +kernel
theorem dX2_setSites_117 : decode cX2_setSites 117 = .ok (.iload 5, 2) := by decide +kernel
theorem dX2_setSites_119 : decode cX2_setSites 119 = .ok (.aload_n 2, 1) := by decide +kernel
theorem dX2_setSites_120 : decode cX2_setSites 120 = .ok (.getfield 15, 3) := by decide +kernel
theorem dX2_setSites_123 : decode cX2_setSites 123 = .ok (.iload 5, 2) := by decide +kernel
theorem dX2_setSites_125 : decode cX2_setSites 125 = .ok (.laload, 1) := by decide +kernel
theorem dX2_setSites_126 : decode cX2_setSites 126 = .ok (.aload_n 2, 1) := by decide +kernel
theorem dX2_setSites_127 : decode cX2_setSites 127 = .ok (.getfield 15, 3) := by decide +kernel
theorem dX2_setSites_130 : decode cX2_setSites 130 = .ok (.iload 6, 2) := by decide +kernel
theorem dX2_setSites_132 : decode cX2_setSites 132 = .ok (.laload, 1) := by decide +kernel
theorem dX2_setSites_133 : decode cX2_setSites 133 = .ok (.land, 1) := by decide +kernel
theorem dX2_setSites_134 : decode cX2_setSites 134 = .ok (.lastore, 1) := by decide +kernel
theorem dX2_setSites_135 : decode cX2_setSites 135 = .ok (.goto 47, 3) := by decide +kernel
theorem dX2_setSites_138 : decode cX2_setSites 138 = .ok (.aload_n 0, 1) := by decide +kernel
theorem dX2_setSites_139 : decode cX2_setSites 139 = .ok (.getfield 9, 3) := by decide +kernel
theorem dX2_setSites_142 : decode cX2_setSites 142 = .ok (.iload 5, 2) := by decide +kernel
theorem dX2_setSites_144 : decode cX2_setSites 144 = .ok (.aload_n 2, 1) := by decide +kernel
theorem dX2_setSites_145 : decode cX2_setSites 145 = .ok (.getfield 9, 3) := by decide +kernel
theorem dX2_setSites_148 : decode cX2_setSites 148 = .ok (.iload 5, 2) := by decide +kernel
theorem dX2_setSites_150 : decode cX2_setSites 150 = .ok (.laload, 1) := by decide +kernel
theorem dX2_setSites_151 : decode cX2_setSites 151 = .ok (.aload_n 2, 1) := by decide +kernel
theorem dX2_setSites_152 : decode cX2_setSites 152 = .ok (.getfield 9, 3) := by decide +kernel
theorem dX2_setSites_155 : decode cX2_setSites 155 = .ok (.iload 6, 2) := by decide +kernel
theorem dX2_setSites_157 : decode cX2_setSites 157 = .ok (.laload, 1) := by decide +kernel
theorem dX2_setSites_158 : decode cX2_setSites 158 = .ok (.land, 1) := by decide +kernel
theorem dX2_setSites_159 : decode cX2_setSites 159 = .ok (.lastore, 1) := by decide +kernel
theorem dX2_setSites_160 : decode cX2_setSites 160 = .ok (.aload_n 0, 1) := by decide +kernel
theorem dX2_setSites_161 : decode cX2_setSites 161 = .ok (.getfield 15, 3) := by decide +kernel
theorem dX2_setSites_164 : decode cX2_setSites 164 = .ok (.iload 5, 2) := by decide +kernel
theorem dX2_setSites_166 : decode cX2_setSites 166 = .ok (.aload_n 2, 1) := by decide +kernel
theorem dX2_setSites_167 : decode cX2_setSites 167 = .ok (.getfield 15, 3) := by decide +kernel
theorem dX2_setSites_170 : decode cX2_setSites 170 = .ok (.iload 5, 2) := by decide +kernel
theorem dX2_setSites_172 : decode cX2_setSites 172 = .ok (.laload, 1) := by decide +kernel
theorem dX2_setSites_173 : decode cX2_setSites 173 = .ok (.aload_n 2, 1) := by decide +kernel
theorem dX2_setSites_174 : decode cX2_setSites 174 = .ok (.getfield 15, 3) := by decide +kernel
theorem dX2_setSites_177 : decode cX2_setSites 177 = .ok (.iload 6, 2) := by decide +kernel
theorem dX2_setSites_179 : decode cX2_setSites 179 = .ok (.laload, 1) := by decide +kernel
theorem dX2_setSites_180 : decode cX2_setSites 180 = .ok (.lor, 1) := by decide +kernel
theorem dX2_setSites_181 : decode cX2_setSites 181 = .ok (.lastore, 1) := by decide +kernel
theorem dX2_setSites_182 : decode cX2_setSites 182 = .ok (.aload_n 0, 1) := by decide +kernel
theorem dX2_setSites_183 : decode cX2_setSites 183 = .ok (.getfield 9, 3) := by decide +kernel
theorem dX2_setSites_186 : decode cX2_setSites 186 = .ok (.iload 6, 2) := by decide +kernel
theorem dX2_setSites_188 : decode cX2_setSites 188 = .ok (.aload_n 0, 1) := by decide +kernel
theorem dX2_setSites_189 : decode cX2_setSites 189 = .ok (.getfield 9, 3) := by decide +kernel
theorem dX2_setSites_192 : decode cX2_setSites 192 = .ok (.iload 5, 2) := by decide +kernel
theorem dX2_setSites_194 : decode cX2_setSites 194 = .ok (.laload, 1) := by decide +kernel
theorem dX2_setSites_195 : decode cX2_setSites 195 = .ok (.lastore, 1) := by decide +kernel
theorem dX2_setSites_196 : decode cX2_setSites 196 = .ok (.aload_n 0, 1) := by decide +kernel
theorem dX2_setSites_197 : decode cX2_setSites 197 = .ok (.getfield 15, 3) := by decide +kernel
theorem dX2_setSites_200 : decode cX2_setSites 200 = .ok (.iload 6, 2) := by decide +kernel
theorem dX2_setSites_202 : decode cX2_setSites 202 = .ok (.aload_n 0, 1) := by decide +kernel
theorem dX2_setSites_203 : decode cX2_setSites 203 = .ok (.getfield 15, 3) := by decide +kernel
theorem dX2_setSites_206 : decode cX2_setSites 206 = .ok (.iload 5, 2) := by decide +kernel
theorem dX2_setSites_208 : decode cX2_setSites 208 = .ok (.laload, 1) := by decide +kernel
theorem dX2_setSites_209 : decode cX2_setSites 209 = .ok (.lastore, 1) := by decide +kernel
theorem dX2_setSites_210 : decode cX2_setSites 210 = .ok (.iconst 1, 1) := by decide +kernel
theorem dX2_setSites_211 : decode cX2_setSites 211 = .ok (.iload 5, 2) := by decide +kernel
theorem dX2_setSites_213 : decode cX2_setSites 213 = .ok (.ishl, 1) := by decide +kernel
theorem dX2_setSites_214 : decode cX2_setSites 214 = .ok (.iconst 1, 1) := by decide +kernel
theorem dX2_setSites_215 : decode cX2_setSites 215 = .ok (.iload 6, 2) := by decide +kernel
theorem dX2_setSites_217 : decode cX2_setSites 217 = .ok (.ishl, 1) := by decide +kernel
theorem dX2_setSites_218 : decode cX2_setSites 218 = .ok (.ior, 1) := by decide +kernel
theorem dX2_setSites_219 : decode cX2_setSites 219 = .ok (.ireturn, 1) := by decide +kernel
theorem dX2_runGate_0 : decode cX2_runGate 0 = .ok (.aload_n 1, 1) := by decide +kernel
theorem dX2_runGate_1 : decode cX2_runGate 1 = .ok (.getfield 72, 3) := by decide +kernel
theorem dX2_runGate_4 : decode cX2_runGate 4 = .ok (.iload_n 2, 1) := by decide +kernel
theorem dX2_runGate_5 : decode cX2_runGate 5 = .ok (.iaload, 1) := by decide +kernel
theorem dX2_runGate_6 : decode cX2_runGate 6 = .ok (.istore_n 3, 1) := by decide +kernel
theorem dX2_runGate_7 : decode cX2_runGate 7 = .ok (.iload_n 2, 1) := by decide +kernel
theorem dX2_runGate_8 : decode cX2_runGate 8 = .ok (.iconst 4, 1) := by decide +kernel
theorem dX2_runGate_9 : decode cX2_runGate 9 = .ok (.imul, 1) := by decide +kernel
theorem dX2_runGate_10 : decode cX2_runGate 10 = .ok (.istore 4, 2) := by decide +kernel
theorem dX2_runGate_12 : decode cX2_runGate 12 = .ok (.iload_n 3, 1) := by decide +kernel
theorem dX2_runGate_13 : decode cX2_runGate 13 = .ok (.bipush 8, 2) := by decide +kernel
theorem dX2_runGate_15 : decode cX2_runGate 15 = .ok (.if_icmp .ne 141, 3) := by decide +kernel
theorem dX2_runGate_18 : decode cX2_runGate 18 = .ok (.aload_n 1, 1) := by decide +kernel
theorem dX2_runGate_19 : decode cX2_runGate 19 = .ok (.getfield 75, 3) := by decide +kernel
theorem dX2_runGate_22 : decode cX2_runGate 22 = .ok (.iload 4, 2) := by decide +kernel
theorem dX2_runGate_24 : decode cX2_runGate 24 = .ok (.iaload, 1) := by decide +kernel
theorem dX2_runGate_25 : decode cX2_runGate 25 = .ok (.istore 5, 2) := by decide +kernel
theorem dX2_runGate_27 : decode cX2_runGate 27 = .ok (.aload_n 1, 1) := by decide +kernel
theorem dX2_runGate_28 : decode cX2_runGate 28 = .ok (.getfield 75, 3) := by decide +kernel
theorem dX2_runGate_31 : decode cX2_runGate 31 = .ok (.iload 4, 2) := by decide +kernel
theorem dX2_runGate_33 : decode cX2_runGate 33 = .ok (.iconst 1, 1) := by decide +kernel
theorem dX2_runGate_34 : decode cX2_runGate 34 = .ok (.iadd, 1) := by decide +kernel
theorem dX2_runGate_35 : decode cX2_runGate 35 = .ok (.iaload, 1) := by decide +kernel
theorem dX2_runGate_36 : decode cX2_runGate 36 = .ok (.istore 6, 2) := by decide +kernel
theorem dX2_runGate_38 : decode cX2_runGate 38 = .ok (.aload_n 1, 1) := by decide +kernel
theorem dX2_runGate_39 : decode cX2_runGate 39 = .ok (.getfield 75, 3) := by decide +kernel
theorem dX2_runGate_42 : decode cX2_runGate 42 = .ok (.iload 4, 2) := by decide +kernel
theorem dX2_runGate_44 : decode cX2_runGate 44 = .ok (.iconst 2, 1) := by decide +kernel
theorem dX2_runGate_45 : decode cX2_runGate 45 = .ok (.iadd, 1) := by decide +kernel
theorem dX2_runGate_46 : decode cX2_runGate 46 = .ok (.iaload, 1) := by decide +kernel
theorem dX2_runGate_47 : decode cX2_runGate 47 = .ok (.istore 7, 2) := by decide +kernel
theorem dX2_runGate_49 : decode cX2_runGate 49 = .ok (.aload_n 0, 1) := by decide +kernel
theorem dX2_runGate_50 : decode cX2_runGate 50 = .ok (.getfield 9, 3) := by decide +kernel
theorem dX2_runGate_53 : decode cX2_runGate 53 = .ok (.iload_n 2, 1) := by decide +kernel
theorem dX2_runGate_54 : decode cX2_runGate 54 = .ok (.aload_n 0, 1) := by decide +kernel
theorem dX2_runGate_55 : decode cX2_runGate 55 = .ok (.getfield 9, 3) := by decide +kernel
theorem dX2_runGate_58 : decode cX2_runGate 58 = .ok (.iload 5, 2) := by decide +kernel
theorem dX2_runGate_60 : decode cX2_runGate 60 = .ok (.laload, 1) := by decide +kernel
theorem dX2_runGate_61 : decode cX2_runGate 61 = .ok (.aload_n 0, 1) := by decide +kernel
theorem dX2_runGate_62 : decode cX2_runGate 62 = .ok (.getfield 9, 3) := by decide +kernel
theorem dX2_runGate_65 : decode cX2_runGate 65 = .ok (.iload 6, 2) := by decide +kernel
theorem dX2_runGate_67 : decode cX2_runGate 67 = .ok (.laload, 1) := by decide +kernel
theorem dX2_runGate_68 : decode cX2_runGate 68 = .ok (.land, 1) := by decide +kernel
theorem dX2_runGate_69 : decode cX2_runGate 69 = .ok (.aload_n 0, 1) := by decide +kernel
theorem dX2_runGate_70 : decode cX2_runGate 70 = .ok (.getfield 15, 3) := by decide +kernel
theorem dX2_runGate_73 : decode cX2_runGate 73 = .ok (.iload 5, 2) := by decide +kernel
theorem dX2_runGate_75 : decode cX2_runGate 75 = .ok (.laload, 1) := by decide +kernel
theorem dX2_runGate_76 : decode cX2_runGate 76 = .ok (.aload_n 0, 1) := by decide +kernel
theorem dX2_runGate_77 : decode cX2_runGate 77 = .ok (.getfield 9, 3) := by decide +kernel
theorem dX2_runGate_80 : decode cX2_runGate 80 = .ok (.iload 7, 2) := by decide +kernel
theorem dX2_runGate_82 : decode cX2_runGate 82 = .ok (.laload, 1) := by decide +kernel
theorem dX2_runGate_83 : decode cX2_runGate 83 = .ok (.land, 1) := by decide +kernel
theorem dX2_runGate_84 : decode cX2_runGate 84 = .ok (.lor, 1) := by decide +kernel
theorem dX2_runGate_85 : decode cX2_runGate 85 = .ok (.aload_n 0, 1) := by decide +kernel
theorem dX2_runGate_86 : decode cX2_runGate 86 = .ok (.getfield 9, 3) := by decide +kernel
theorem dX2_runGate_89 : decode cX2_runGate 89 = .ok (.iload 6, 2) := by decide +kernel
theorem dX2_runGate_91 : decode cX2_runGate 91 = .ok (.laload, 1) := by decide +kernel
theorem dX2_runGate_92 : decode cX2_runGate 92 = .ok (.aload_n 0, 1) := by decide +kernel
theorem dX2_runGate_93 : decode cX2_runGate 93 = .ok (.getfield 9, 3) := by decide +kernel
theorem dX2_runGate_96 : decode cX2_runGate 96 = .ok (.iload 7, 2) := by decide +kernel
theorem dX2_runGate_98 : decode cX2_runGate 98 = .ok (.laload, 1) := by decide +kernel
theorem dX2_runGate_99 : decode cX2_runGate 99 = .ok (.land, 1) := by decide +kernel
theorem dX2_runGate_100 : decode cX2_runGate 100 = .ok (.lor, 1) := by decide +kernel
theorem dX2_runGate_101 : decode cX2_runGate 101 = .ok (.lastore, 1) := by decide +kernel
theorem dX2_runGate_102 : decode cX2_runGate 102 = .ok (.aload_n 0, 1) := by decide +kernel
theorem dX2_runGate_103 : decode cX2_runGate 103 = .ok (.getfield 15, 3) := by decide +kernel
theorem dX2_runGate_106 : decode cX2_runGate 106 = .ok (.iload_n 2, 1) := by decide +kernel
theorem dX2_runGate_107 : decode cX2_runGate 107 = .ok (.aload_n 0, 1) := by decide +kernel
theorem dX2_runGate_108 : decode cX2_runGate 108 = .ok (.getfield 9, 3) := by decide +kernel
theorem dX2_runGate_111 : decode cX2_runGate 111 = .ok (.iload 5, 2) := by decide +kernel
theorem dX2_runGate_113 : decode cX2_runGate 113 = .ok (.laload, 1) := by decide +kernel
theorem dX2_runGate_114 : decode cX2_runGate 114 = .ok (.aload_n 0, 1) := by decide +kernel
theorem dX2_runGate_115 : decode cX2_runGate 115 = .ok (.getfield 15, 3) := by decide +kernel
theorem dX2_runGate_118 : decode cX2_runGate 118 = .ok (.iload 6, 2) := by decide +kernel
theorem dX2_runGate_120 : decode cX2_runGate 120 = .ok (.laload, 1) := by decide +kernel
theorem dX2_runGate_121 : decode cX2_runGate 121 = .ok (.land, 1) := by decide +kernel
theorem dX2_runGate_122 : decode cX2_runGate 122 = .ok (.aload_n 0, 1) := by decide +kernel
theorem dX2_runGate_123 : decode cX2_runGate 123 = .ok (.getfield 15, 3) := by decide +kernel
theorem dX2_runGate_126 : decode cX2_runGate 126 = .ok (.iload 5, 2) := by decide +kernel
theorem dX2_runGate_128 : decode cX2_runGate 128 = .ok (.laload, 1) := by decide +kernel
theorem dX2_runGate_129 : decode cX2_runGate 129 = .ok (.aload_n 0, 1) := by decide +kernel
theorem dX2_runGate_130 : decode cX2_runGate 130 = .ok (.getfield 15, 3) := by decide +kernel
theorem dX2_runGate_133 : decode cX2_runGate 133 = .ok (.iload 7, 2) := by decide +kernel
theorem dX2_runGate_135 : decode cX2_runGate 135 = .ok (.laload, 1) := by decide +kernel
theorem dX2_runGate_136 : decode cX2_runGate 136 = .ok (.land, 1) := by decide +kernel
theorem dX2_runGate_137 : decode cX2_runGate 137 = .ok (.lor, 1) := by decide +kernel
theorem dX2_runGate_138 : decode cX2_runGate 138 = .ok (.aload_n 0, 1) := by decide +kernel
theorem dX2_runGate_139 : decode cX2_runGate 139 = .ok (.getfield 15, 3) := by decide +kernel
theorem dX2_runGate_142 : decode cX2_runGate 142 = .ok (.iload 6, 2) := by decide +kernel
theorem dX2_runGate_144 : decode cX2_runGate 144 = .ok (.laload, 1) := by decide +kernel
theorem dX2_runGate_145 : decode cX2_runGate 145 = .ok (.aload_n 0, 1) := by decide +kernel
theorem dX2_runGate_146 : decode cX2_runGate 146 = .ok (.getfield 15, 3) := by decide +kernel
theorem dX2_runGate_149 : decode cX2_runGate 149 = .ok (.iload 7, 2) := by decide +kernel
theorem dX2_runGate_151 : decode cX2_runGate 151 = .ok (.laload, 1) := by decide +kernel
theorem dX2_runGate_152 : decode cX2_runGate 152 = .ok (.land, 1) := by decide +kernel
theorem dX2_runGate_153 : decode cX2_runGate 153 = .ok (.lor, 1) := by decide +kernel
theorem dX2_runGate_154 : decode cX2_runGate 154 = .ok (.lastore, 1) := by decide +kernel
theorem dX2_runGate_155 : decode cX2_runGate 155 = .ok (.return_, 1) := by decide +kernel
theorem dX2_runGate_156 : decode cX2_runGate 156 = .ok (.aload_n 0, 1) := by decide +kernel
theorem dX2_runGate_157 : decode cX2_runGate 157 = .ok (.getfield 9, 3) := by decide +kernel
theorem dX2_runGate_160 : decode cX2_runGate 160 = .ok (.aload_n 1, 1) := by decide +kernel
theorem dX2_runGate_161 : decode cX2_runGate 161 = .ok (.getfield 75, 3) := by decide +kernel
theorem dX2_runGate_164 : decode cX2_runGate 164 = .ok (.iload 4, 2) := by decide +kernel
theorem dX2_runGate_166 : decode cX2_runGate 166 = .ok (.iaload, 1) := by decide +kernel
theorem dX2_runGate_167 : decode cX2_runGate 167 = .ok (.laload, 1) := by decide +kernel
theorem dX2_runGate_168 : decode cX2_runGate 168 = .ok (.lstore 5, 2) := by decide +kernel
theorem dX2_runGate_170 : decode cX2_runGate 170 = .ok (.aload_n 0, 1) := by decide +kernel
theorem dX2_runGate_171 : decode cX2_runGate 171 = .ok (.getfield 15, 3) := by decide +kernel
theorem dX2_runGate_174 : decode cX2_runGate 174 = .ok (.aload_n 1, 1) := by decide +kernel
theorem dX2_runGate_175 : decode cX2_runGate 175 = .ok (.getfield 75, 3) := by decide +kernel
theorem dX2_runGate_178 : decode cX2_runGate 178 = .ok (.iload 4, 2) := by decide +kernel
theorem dX2_runGate_180 : decode cX2_runGate 180 = .ok (.iaload, 1) := by decide +kernel
theorem dX2_runGate_181 : decode cX2_runGate 181 = .ok (.laload, 1) := by decide +kernel
theorem dX2_runGate_182 : decode cX2_runGate 182 = .ok (.lstore 7, 2) := by decide +kernel
theorem dX2_runGate_184 : decode cX2_runGate 184 = .ok (.iconst 1, 1) := by decide +kernel
theorem dX2_runGate_185 : decode cX2_runGate 185 = .ok (.istore 9, 2) := by decide +kernel
theorem dX2_runGate_187 : decode cX2_runGate 187 = .ok (.iload 9, 2) := by decide +kernel
theorem dX2_runGate_189 : decode cX2_runGate 189 = .ok (.aload_n 1, 1) := by decide +kernel
theorem dX2_runGate_190 : decode cX2_runGate 190 = .ok (.getfield 78, 3) := by decide +kernel
theorem dX2_runGate_193 : decode cX2_runGate 193 = .ok (.iload_n 2, 1) := by decide +kernel
theorem dX2_runGate_194 : decode cX2_runGate 194 = .ok (.iaload, 1) := by decide +kernel
theorem dX2_runGate_195 : decode cX2_runGate 195 = .ok (.if_icmp .ge 126, 3) := by decide +kernel
theorem dX2_runGate_198 : decode cX2_runGate 198 = .ok (.aload_n 0, 1) := by decide +kernel
theorem dX2_runGate_199 : decode cX2_runGate 199 = .ok (.getfield 9, 3) := by decide +kernel
theorem dX2_runGate_202 : decode cX2_runGate 202 = .ok (.aload_n 1, 1) := by decide +kernel
theorem dX2_runGate_203 : decode cX2_runGate 203 = .ok (.getfield 75, 3) := by decide +kernel
theorem dX2_runGate_206 : decode cX2_runGate 206 = .ok (.iload 4, 2) := by decide +kernel
theorem dX2_runGate_208 : decode cX2_runGate 208 = .ok (.iload 9, 2) := by decide +kernel
theorem dX2_runGate_210 : decode cX2_runGate 210 = .ok (.iadd, 1) := by decide +kernel
theorem dX2_runGate_211 : decode cX2_runGate 211 = .ok (.iaload, 1) := by decide +kernel
theorem dX2_runGate_212 : decode cX2_runGate 212 = .ok (.laload, 1) := by decide +kernel
theorem dX2_runGate_213 : decode cX2_runGate 213 = .ok (.lstore 10, 2) := by decide +kernel
theorem dX2_runGate_215 : decode cX2_runGate 215 = .ok (.aload_n 0, 1) := by decide +kernel
theorem dX2_runGate_216 : decode cX2_runGate 216 = .ok (.getfield 15, 3) := by decide +kernel
theorem dX2_runGate_219 : decode cX2_runGate 219 = .ok (.aload_n 1, 1) := by decide +kernel
theorem dX2_runGate_220 : decode cX2_runGate 220 = .ok (.getfield 75, 3) := by decide +kernel
theorem dX2_runGate_223 : decode cX2_runGate 223 = .ok (.iload 4, 2) := by decide +kernel
theorem dX2_runGate_225 : decode cX2_runGate 225 = .ok (.iload 9, 2) := by decide +kernel
theorem dX2_runGate_227 : decode cX2_runGate 227 = .ok (.iadd, 1) := by decide +kernel
theorem dX2_runGate_228 : decode cX2_runGate 228 = .ok (.iaload, 1) := by decide +kernel
theorem dX2_runGate_229 : decode cX2_runGate 229 = .ok (.laload, 1) := by decide +kernel
theorem dX2_runGate_230 : decode cX2_runGate 230 = .ok (.lstore 12, 2) := by decide +kernel
theorem dX2_runGate_232 : decode cX2_runGate 232 = .ok (.iload_n 3, 1) := by decide +kernel
theorem dX2_runGate_233 : decode cX2_runGate 233 = .ok (.ifCond .eq 8, 3) := by decide +kernel
theorem dX2_runGate_236 : decode cX2_runGate 236 = .ok (.iload_n 3, 1) := by decide +kernel
theorem dX2_runGate_237 : decode cX2_runGate 237 = .ok (.iconst 2, 1) := by decide +kernel
theorem dX2_runGate_238 : decode cX2_runGate 238 = .ok (.if_icmp .ne 20, 3) := by decide +kernel
theorem dX2_runGate_241 : decode cX2_runGate 241 = .ok (.lload 5, 2) := by decide +kernel
theorem dX2_runGate_243 : decode cX2_runGate 243 = .ok (.lload 10, 2) := by decide +kernel
theorem dX2_runGate_245 : decode cX2_runGate 245 = .ok (.lor, 1) := by decide +kernel
theorem dX2_runGate_246 : decode cX2_runGate 246 = .ok (.lstore 5, 2) := by decide +kernel
theorem dX2_runGate_248 : decode cX2_runGate 248 = .ok (.lload 7, 2) := by decide +kernel
theorem dX2_runGate_250 : decode cX2_runGate 250 = .ok (.lload 12, 2) := by decide +kernel
theorem dX2_runGate_252 : decode cX2_runGate 252 = .ok (.land, 1) := by decide +kernel
theorem dX2_runGate_253 : decode cX2_runGate 253 = .ok (.lstore 7, 2) := by decide +kernel
theorem dX2_runGate_255 : decode cX2_runGate 255 = .ok (.goto 60, 3) := by decide +kernel
theorem dX2_runGate_258 : decode cX2_runGate 258 = .ok (.iload_n 3, 1) := by decide +kernel
theorem dX2_runGate_259 : decode cX2_runGate 259 = .ok (.iconst 1, 1) := by decide +kernel
theorem dX2_runGate_260 : decode cX2_runGate 260 = .ok (.if_icmp .eq 8, 3) := by decide +kernel
theorem dX2_runGate_263 : decode cX2_runGate 263 = .ok (.iload_n 3, 1) := by decide +kernel
theorem dX2_runGate_264 : decode cX2_runGate 264 = .ok (.iconst 3, 1) := by decide +kernel
theorem dX2_runGate_265 : decode cX2_runGate 265 = .ok (.if_icmp .ne 20, 3) := by decide +kernel
theorem dX2_runGate_268 : decode cX2_runGate 268 = .ok (.lload 5, 2) := by decide +kernel
theorem dX2_runGate_270 : decode cX2_runGate 270 = .ok (.lload 10, 2) := by decide +kernel
theorem dX2_runGate_272 : decode cX2_runGate 272 = .ok (.land, 1) := by decide +kernel
theorem dX2_runGate_273 : decode cX2_runGate 273 = .ok (.lstore 5, 2) := by decide +kernel
theorem dX2_runGate_275 : decode cX2_runGate 275 = .ok (.lload 7, 2) := by decide +kernel
theorem dX2_runGate_277 : decode cX2_runGate 277 = .ok (.lload 12, 2) := by decide +kernel
theorem dX2_runGate_279 : decode cX2_runGate 279 = .ok (.lor, 1) := by decide +kernel
theorem dX2_runGate_280 : decode cX2_runGate 280 = .ok (.lstore 7, 2) := by decide +kernel
theorem dX2_runGate_282 : decode cX2_runGate 282 = .ok (.goto 33, 3) := by decide +kernel
theorem dX2_runGate_285 : decode cX2_runGate 285 = .ok (.lload 5, 2) := by decide +kernel
theorem dX2_runGate_287 : decode cX2_runGate 287 = .ok (.lload 12, 2) := by decide +kernel
theorem dX2_runGate_289 : decode cX2_runGate 289 = .ok (.land, 1) := by decide +kernel
theorem dX2_runGate_290 : decode cX2_runGate 290 = .ok (.lload 7, 2) := by decide +kernel
theorem dX2_runGate_292 : decode cX2_runGate 292 = .ok (.lload 10, 2) := by decide +kernel
theorem dX2_runGate_294 : decode cX2_runGate 294 = .ok (.land, 1) := by decide +kernel
theorem dX2_runGate_295 : decode cX2_runGate 295 = .ok (.lor, 1) := by decide +kernel
theorem dX2_runGate_296 : decode cX2_runGate 296 = .ok (.lstore 14, 2) := by decide +kernel
theorem dX2_runGate_298 : decode cX2_runGate 298 = .ok (.lload 5, 2) := by decide +kernel
theorem dX2_runGate_300 : decode cX2_runGate 300 = .ok (.lload 10, 2) := by decide +kernel
theorem dX2_runGate_302 : decode cX2_runGate 302 = .ok (.land, 1) := by decide +kernel
theorem dX2_runGate_303 : decode cX2_runGate 303 = .ok (.lload 7, 2) := by decide +kernel
theorem dX2_runGate_305 : decode cX2_runGate 305 = .ok (.lload 12, 2) := by decide +kernel
theorem dX2_runGate_307 : decode cX2_runGate 307 = .ok (.land, 1) := by decide +kernel
theorem dX2_runGate_308 : decode cX2_runGate 308 = .ok (.lor, 1) := by decide +kernel
theorem dX2_runGate_309 : decode cX2_runGate 309 = .ok (.lstore 5, 2) := by decide +kernel
theorem dX2_runGate_311 : decode cX2_runGate 311 = .ok (.lload 14, 2) := by decide +kernel
theorem dX2_runGate_313 : decode cX2_runGate 313 = .ok (.lstore 7, 2) := by decide +kernel
theorem dX2_runGate_315 : decode cX2_runGate 315 = .ok (.iinc 9 1, 3) := by decide +kernel
theorem dX2_runGate_318 : decode cX2_runGate 318 = .ok (.goto (-131), 3) := by decide +kernel
theorem dX2_runGate_321 : decode cX2_runGate 321 = .ok (.iload_n 3, 1) := by decide +kernel
theorem dX2_runGate_322 : decode cX2_runGate 322 = .ok (.iconst 2, 1) := by decide +kernel
theorem dX2_runGate_323 : decode cX2_runGate 323 = .ok (.if_icmp .eq 19, 3) := by decide +kernel
theorem dX2_runGate_326 : decode cX2_runGate 326 = .ok (.iload_n 3, 1) := by decide +kernel
theorem dX2_runGate_327 : decode cX2_runGate 327 = .ok (.iconst 3, 1) := by decide +kernel
theorem dX2_runGate_328 : decode cX2_runGate 328 = .ok (.if_icmp .eq 14, 3) := by decide +kernel
theorem dX2_runGate_331 : decode cX2_runGate 331 = .ok (.iload_n 3, 1) := by decide +kernel
theorem dX2_runGate_332 : decode cX2_runGate 332 = .ok (.iconst 5, 1) := by decide +kernel
theorem dX2_runGate_333 : decode cX2_runGate 333 = .ok (.if_icmp .eq 9, 3) := by decide +kernel
theorem dX2_runGate_336 : decode cX2_runGate 336 = .ok (.iload_n 3, 1) := by decide +kernel
theorem dX2_runGate_337 : decode cX2_runGate 337 = .ok (.bipush 6, 2) := by decide +kernel
theorem dX2_runGate_339 : decode cX2_runGate 339 = .ok (.if_icmp .ne 7, 3) := by decide +kernel
theorem dX2_runGate_342 : decode cX2_runGate 342 = .ok (.iconst 1, 1) := by decide +kernel
theorem dX2_runGate_343 : decode cX2_runGate 343 = .ok (.goto 4, 3) := by decide +kernel
theorem dX2_runGate_346 : decode cX2_runGate 346 = .ok (.iconst 0, 1) := by decide +kernel
theorem dX2_runGate_347 : decode cX2_runGate 347 = .ok (.istore 9, 2) := by decide +kernel
theorem dX2_runGate_349 : decode cX2_runGate 349 = .ok (.aload_n 0, 1) := by decide +kernel
theorem dX2_runGate_350 : decode cX2_runGate 350 = .ok (.getfield 9, 3) := by decide +kernel
theorem dX2_runGate_353 : decode cX2_runGate 353 = .ok (.iload_n 2, 1) := by decide +kernel
theorem dX2_runGate_354 : decode cX2_runGate 354 = .ok (.iload 9, 2) := by decide +kernel
theorem dX2_runGate_356 : decode cX2_runGate 356 = .ok (.ifCond .eq 8, 3) := by decide +kernel
theorem dX2_runGate_359 : decode cX2_runGate 359 = .ok (.lload 7, 2) := by decide +kernel
theorem dX2_runGate_361 : decode cX2_runGate 361 = .ok (.goto 5, 3) := by decide +kernel
theorem dX2_runGate_364 : decode cX2_runGate 364 = .ok (.lload 5, 2) := by decide +kernel
theorem dX2_runGate_366 : decode cX2_runGate 366 = .ok (.lastore, 1) := by decide +kernel
theorem dX2_runGate_367 : decode cX2_runGate 367 = .ok (.aload_n 0, 1) := by decide +kernel
theorem dX2_runGate_368 : decode cX2_runGate 368 = .ok (.getfield 15, 3) := by decide +kernel
theorem dX2_runGate_371 : decode cX2_runGate 371 = .ok (.iload_n 2, 1) := by decide +kernel
theorem dX2_runGate_372 : decode cX2_runGate 372 = .ok (.iload 9, 2) := by decide +kernel
theorem dX2_runGate_374 : decode cX2_runGate 374 = .ok (.ifCond .eq 8, 3) := by decide +kernel
theorem dX2_runGate_377 : decode cX2_runGate 377 = .ok (.lload 5, 2) := by decide +kernel
theorem dX2_runGate_379 : decode cX2_runGate 379 = .ok (.goto 5, 3) := by decide +kernel
theorem dX2_runGate_382 : decode cX2_runGate 382 = .ok (.lload 7, 2) := by decide +kernel
theorem dX2_runGate_384 : decode cX2_runGate 384 = .ok (.lastore, 1) := by decide +kernel
theorem dX2_runGate_385 : decode cX2_runGate 385 = .ok (.return_, 1) := by decide +kernel
set_option maxRecDepth 20000 in
theorem ggX3_init_X2_init : GoodIn wsX3_init wsX2_init := goodIn_r _ [14, 15, 2, 3, 10, 16, 17, 18, 19] (by decide +kernel) (by decide +kernel)
set_option maxRecDepth 20000 in
theorem gX3_init_X2_init_n11 : GoodIn wsX3_init (wsX2_init) := ggX3_init_X2_init
theorem dX3_init_0 : decode cX3_init 0 = .ok (.aload_n 0, 1) := by decide +kernel
theorem dX3_init_1 : decode cX3_init 1 = .ok (.invokespecial 3, 3) := by decide +kernel
theorem dX3_init_4 : decode cX3_init 4 = .ok (.aload_n 0, 1) := by decide +kernel
theorem dX3_init_5 : decode cX3_init 5 = .ok (.new 9, 3) := by decide +kernel
theorem dX3_init_8 : decode cX3_init 8 = .ok (.dup, 1) := by decide +kernel
theorem dX3_init_9 : decode cX3_init 9 = .ok (.invokespecial 11, 3) := by decide +kernel
theorem dX3_init_12 : decode cX3_init 12 = .ok (.putfield 12, 3) := by decide +kernel
theorem dX3_init_15 : decode cX3_init 15 = .ok (.aload_n 0, 1) := by decide +kernel
theorem dX3_init_16 : decode cX3_init 16 = .ok (.new 9, 3) := by decide +kernel
theorem dX3_init_19 : decode cX3_init 19 = .ok (.dup, 1) := by decide +kernel
theorem dX3_init_20 : decode cX3_init 20 = .ok (.invokespecial 11, 3) := by decide +kernel
theorem dX3_init_23 : decode cX3_init 23 = .ok (.putfield 18, 3) := by decide +kernel
theorem dX3_init_26 : decode cX3_init 26 = .ok (.aload_n 0, 1) := by decide +kernel
theorem dX3_init_27 : decode cX3_init 27 = .ok (.iload_n 1, 1) := by decide +kernel
theorem dX3_init_28 : decode cX3_init 28 = .ok (.putfield 21, 3) := by decide +kernel
theorem dX3_init_31 : decode cX3_init 31 = .ok (.aload_n 0, 1) := by decide +kernel
theorem dX3_init_32 : decode cX3_init 32 = .ok (.sipush 342, 3) := by decide +kernel
theorem dX3_init_35 : decode cX3_init 35 = .ok (.iload_n 1, 1) := by decide +kernel
theorem dX3_init_36 : decode cX3_init 36 = .ok (.imul, 1) := by decide +kernel
theorem dX3_init_37 : decode cX3_init 37 = .ok (.newarray .long, 2) := by decide +kernel
theorem dX3_init_39 : decode cX3_init 39 = .ok (.putfield 25, 3) := by decide +kernel
theorem dX3_init_42 : decode cX3_init 42 = .ok (.aload_n 0, 1) := by decide +kernel
theorem dX3_init_43 : decode cX3_init 43 = .ok (.sipush 342, 3) := by decide +kernel
theorem dX3_init_46 : decode cX3_init 46 = .ok (.iload_n 1, 1) := by decide +kernel
theorem dX3_init_47 : decode cX3_init 47 = .ok (.imul, 1) := by decide +kernel
theorem dX3_init_48 : decode cX3_init 48 = .ok (.newarray .long, 2) := by decide +kernel
theorem dX3_init_50 : decode cX3_init 50 = .ok (.putfield 29, 3) := by decide +kernel
theorem dX3_init_53 : decode cX3_init 53 = .ok (.return_, 1) := by decide +kernel
theorem dX3_rowOf_0 : decode cX3_rowOf 0 = .ok (.iload_n 1, 1) := by decide +kernel
theorem dX3_rowOf_1 : decode cX3_rowOf 1 = .ok (.iconst 1, 1) := by decide +kernel
theorem dX3_rowOf_2 : decode cX3_rowOf 2 = .ok (.iadd, 1) := by decide +kernel
theorem dX3_rowOf_3 : decode cX3_rowOf 3 = .ok (.bipush 6, 2) := by decide +kernel
theorem dX3_rowOf_5 : decode cX3_rowOf 5 = .ok (.imul, 1) := by decide +kernel
theorem dX3_rowOf_6 : decode cX3_rowOf 6 = .ok (.iload_n 2, 1) := by decide +kernel
theorem dX3_rowOf_7 : decode cX3_rowOf 7 = .ok (.iadd, 1) := by decide +kernel
theorem dX3_rowOf_8 : decode cX3_rowOf 8 = .ok (.aload_n 0, 1) := by decide +kernel
theorem dX3_rowOf_9 : decode cX3_rowOf 9 = .ok (.getfield 21, 3) := by decide +kernel
theorem dX3_rowOf_12 : decode cX3_rowOf 12 = .ok (.imul, 1) := by decide +kernel
theorem dX3_rowOf_13 : decode cX3_rowOf 13 = .ok (.iload_n 3, 1) := by decide +kernel
theorem dX3_rowOf_14 : decode cX3_rowOf 14 = .ok (.iadd, 1) := by decide +kernel
theorem dX3_rowOf_15 : decode cX3_rowOf 15 = .ok (.ireturn, 1) := by decide +kernel
set_option maxRecDepth 20000 in
theorem ggX3_work_X0_faultCount : GoodIn wsX3_work wsX0_faultCount := goodIn_r _ [7, 8, 9, 63, 64, 65, 66, 67, 68, 69, 70, 71, 72, 73, 74, 75, 76] (by decide +kernel) (by decide +kernel)
set_option maxRecDepth 20000 in
theorem gX3_work_X0_faultCount : GoodIn wsX3_work (wsV RX3 32 RX0 yX0_faultCount wsX0_faultCount) := goodIn_app (goodIn_of _ (by decide +kernel)) ggX3_work_X0_faultCount
set_option maxRecDepth 20000 in
theorem ggX3_work_X2_runGates : GoodIn wsX3_work wsX2_runGates := goodIn_r _ [14, 15, 16, 17, 18, 19, 13, 20, 21, 22, 23, 24, 25, 63, 64, 65, 66, 67, 68, 69, 70, 71, 72, 73, 74, 75, 76, 77, 78] (by decide +kernel) (by decide +kernel)
set_option maxRecDepth 20000 in
theorem gX3_work_X2_runGates : GoodIn wsX3_work (wsV RX3 38 RX2 yX2_runGates wsX2_runGates) := goodIn_app (goodIn_of _ (by decide +kernel)) ggX3_work_X2_runGates
set_option maxRecDepth 20000 in
theorem ggX3_work_X3_store : GoodIn wsX3_work wsX3_store := goodIn_r _ [30, 31, 32, 33, 34, 35, 36, 37, 38, 39, 29, 40, 41, 63, 64, 65, 66, 67, 68, 69, 70, 71, 72, 73, 74, 75, 76, 58, 59, 60, 61, 62, 77, 78] (by decide +kernel) (by decide +kernel)
set_option maxRecDepth 20000 in
theorem gX3_work_X3_store : GoodIn wsX3_work (wsV RX3 42 RX3 yX3_store wsX3_store) := goodIn_app (goodIn_of _ (by decide +kernel)) ggX3_work_X3_store
set_option maxRecDepth 20000 in
theorem ggX3_work_X2_runFault : GoodIn wsX3_work wsX2_runFault := goodIn_r _ [45, 16, 46, 23, 24, 47, 48, 49, 13, 50, 51, 52, 53, 54, 55, 56, 6, 57, 17, 18, 19, 20, 21, 22, 25, 63, 64, 65, 66, 67, 68, 69, 70, 71, 72, 73, 74, 75, 76, 77, 78] (by decide +kernel) (by decide +kernel)
set_option maxRecDepth 20000 in
theorem gX3_work_X2_runFault : GoodIn wsX3_work (wsV RX3 46 RX2 yX2_runFault wsX2_runFault) := goodIn_app (goodIn_of _ (by decide +kernel)) ggX3_work_X2_runFault
theorem dX3_work_0 : decode cX3_work 0 = .ok (.aload_n 1, 1) := by decide +kernel
theorem dX3_work_1 : decode cX3_work 1 = .ok (.invokevirtual 32, 3) := by decide +kernel
theorem dX3_work_4 : decode cX3_work 4 = .ok (.istore_n 3, 1) := by decide +kernel
theorem dX3_work_5 : decode cX3_work 5 = .ok (.aload_n 0, 1) := by decide +kernel
theorem dX3_work_6 : decode cX3_work 6 = .ok (.getfield 12, 3) := by decide +kernel
theorem dX3_work_9 : decode cX3_work 9 = .ok (.aload_n 1, 1) := by decide +kernel
theorem dX3_work_10 : decode cX3_work 10 = .ok (.invokevirtual 38, 3) := by decide +kernel
theorem dX3_work_13 : decode cX3_work 13 = .ok (.aload_n 0, 1) := by decide +kernel
theorem dX3_work_14 : decode cX3_work 14 = .ok (.aload_n 1, 1) := by decide +kernel
theorem dX3_work_15 : decode cX3_work 15 = .ok (.aload_n 0, 1) := by decide +kernel
theorem dX3_work_16 : decode cX3_work 16 = .ok (.getfield 12, 3) := by decide +kernel
theorem dX3_work_19 : decode cX3_work 19 = .ok (.iconst (-1), 1) := by decide +kernel
theorem dX3_work_20 : decode cX3_work 20 = .ok (.iload_n 2, 1) := by decide +kernel
theorem dX3_work_21 : decode cX3_work 21 = .ok (.invokevirtual 42, 3) := by decide +kernel
theorem dX3_work_24 : decode cX3_work 24 = .ok (.iconst 0, 1) := by decide +kernel
theorem dX3_work_25 : decode cX3_work 25 = .ok (.istore 4, 2) := by decide +kernel
theorem dX3_work_27 : decode cX3_work 27 = .ok (.iload 4, 2) := by decide +kernel
theorem dX3_work_29 : decode cX3_work 29 = .ok (.iload_n 3, 1) := by decide +kernel
theorem dX3_work_30 : decode cX3_work 30 = .ok (.if_icmp .ge 35, 3) := by decide +kernel
theorem dX3_work_33 : decode cX3_work 33 = .ok (.aload_n 0, 1) := by decide +kernel
theorem dX3_work_34 : decode cX3_work 34 = .ok (.getfield 18, 3) := by decide +kernel
theorem dX3_work_37 : decode cX3_work 37 = .ok (.aload_n 1, 1) := by decide +kernel
theorem dX3_work_38 : decode cX3_work 38 = .ok (.aload_n 0, 1) := by decide +kernel
theorem dX3_work_39 : decode cX3_work 39 = .ok (.getfield 12, 3) := by decide +kernel
theorem dX3_work_42 : decode cX3_work 42 = .ok (.iload 4, 2) := by decide +kernel
theorem dX3_work_44 : decode cX3_work 44 = .ok (.invokevirtual 46, 3) := by decide +kernel
theorem dX3_work_47 : decode cX3_work 47 = .ok (.aload_n 0, 1) := by decide +kernel
theorem dX3_work_48 : decode cX3_work 48 = .ok (.aload_n 1, 1) := by decide +kernel
theorem dX3_work_49 : decode cX3_work 49 = .ok (.aload_n 0, 1) := by decide +kernel
theorem dX3_work_50 : decode cX3_work 50 = .ok (.getfield 18, 3) := by decide +kernel
theorem dX3_work_53 : decode cX3_work 53 = .ok (.iload 4, 2) := by decide +kernel
theorem dX3_work_55 : decode cX3_work 55 = .ok (.iload_n 2, 1) := by decide +kernel
theorem dX3_work_56 : decode cX3_work 56 = .ok (.invokevirtual 42, 3) := by decide +kernel
theorem dX3_work_59 : decode cX3_work 59 = .ok (.iinc 4 1, 3) := by decide +kernel
theorem dX3_work_62 : decode cX3_work 62 = .ok (.goto (-35), 3) := by decide +kernel
theorem dX3_work_65 : decode cX3_work 65 = .ok (.return_, 1) := by decide +kernel
set_option maxRecDepth 20000 in
theorem ggX3_store_X3_rowOf : GoodIn wsX3_store wsX3_rowOf := goodIn_r _ [11, 12, 27, 28, 29, 30, 31] (by decide +kernel) (by decide +kernel)
set_option maxRecDepth 20000 in
theorem gX3_store_X3_rowOf : GoodIn wsX3_store (wsV RX3 53 RX3 yX3_rowOf wsX3_rowOf) := goodIn_app (goodIn_of _ (by decide +kernel)) ggX3_store_X3_rowOf
theorem dX3_store_0 : decode cX3_store 0 = .ok (.iconst 0, 1) := by decide +kernel
theorem dX3_store_1 : decode cX3_store 1 = .ok (.istore 5, 2) := by decide +kernel
theorem dX3_store_3 : decode cX3_store 3 = .ok (.iload 5, 2) := by decide +kernel
theorem dX3_store_5 : decode cX3_store 5 = .ok (.aload_n 1, 1) := by decide +kernel
theorem dX3_store_6 : decode cX3_store 6 = .ok (.getfield 50, 3) := by decide +kernel
theorem dX3_store_9 : decode cX3_store 9 = .ok (.if_icmp .ge 58, 3) := by decide +kernel
theorem dX3_store_12 : decode cX3_store 12 = .ok (.aload_n 0, 1) := by decide +kernel
theorem dX3_store_13 : decode cX3_store 13 = .ok (.iload_n 3, 1) := by decide +kernel
theorem dX3_store_14 : decode cX3_store 14 = .ok (.iload 5, 2) := by decide +kernel
theorem dX3_store_16 : decode cX3_store 16 = .ok (.iload 4, 2) := by decide +kernel
theorem dX3_store_18 : decode cX3_store 18 = .ok (.invokevirtual 53, 3) := by decide +kernel
theorem dX3_store_21 : decode cX3_store 21 = .ok (.istore 6, 2) := by decide +kernel
theorem dX3_store_23 : decode cX3_store 23 = .ok (.aload_n 0, 1) := by decide +kernel
theorem dX3_store_24 : decode cX3_store 24 = .ok (.getfield 25, 3) := by decide +kernel
theorem dX3_store_27 : decode cX3_store 27 = .ok (.iload 6, 2) := by decide +kernel
theorem dX3_store_29 : decode cX3_store 29 = .ok (.aload_n 2, 1) := by decide +kernel
theorem dX3_store_30 : decode cX3_store 30 = .ok (.getfield 57, 3) := by decide +kernel
theorem dX3_store_33 : decode cX3_store 33 = .ok (.aload_n 1, 1) := by decide +kernel
theorem dX3_store_34 : decode cX3_store 34 = .ok (.getfield 58, 3) := by decide +kernel
theorem dX3_store_37 : decode cX3_store 37 = .ok (.iload 5, 2) := by decide +kernel
theorem dX3_store_39 : decode cX3_store 39 = .ok (.iaload, 1) := by decide +kernel
theorem dX3_store_40 : decode cX3_store 40 = .ok (.laload, 1) := by decide +kernel
theorem dX3_store_41 : decode cX3_store 41 = .ok (.lastore, 1) := by decide +kernel
theorem dX3_store_42 : decode cX3_store 42 = .ok (.aload_n 0, 1) := by decide +kernel
theorem dX3_store_43 : decode cX3_store 43 = .ok (.getfield 29, 3) := by decide +kernel
theorem dX3_store_46 : decode cX3_store 46 = .ok (.iload 6, 2) := by decide +kernel
theorem dX3_store_48 : decode cX3_store 48 = .ok (.aload_n 2, 1) := by decide +kernel
theorem dX3_store_49 : decode cX3_store 49 = .ok (.getfield 62, 3) := by decide +kernel
theorem dX3_store_52 : decode cX3_store 52 = .ok (.aload_n 1, 1) := by decide +kernel
theorem dX3_store_53 : decode cX3_store 53 = .ok (.getfield 58, 3) := by decide +kernel
theorem dX3_store_56 : decode cX3_store 56 = .ok (.iload 5, 2) := by decide +kernel
theorem dX3_store_58 : decode cX3_store 58 = .ok (.iaload, 1) := by decide +kernel
theorem dX3_store_59 : decode cX3_store 59 = .ok (.laload, 1) := by decide +kernel
theorem dX3_store_60 : decode cX3_store 60 = .ok (.lastore, 1) := by decide +kernel
theorem dX3_store_61 : decode cX3_store 61 = .ok (.iinc 5 1, 3) := by decide +kernel
theorem dX3_store_64 : decode cX3_store 64 = .ok (.goto (-61), 3) := by decide +kernel
theorem dX3_store_67 : decode cX3_store 67 = .ok (.return_, 1) := by decide +kernel
set_option maxRecDepth 20000 in
theorem ggX3_apart_X3_rowOf : GoodIn wsX3_apart wsX3_rowOf := goodIn_r _ [8, 9, 24, 25, 26, 27, 28] (by decide +kernel) (by decide +kernel)
set_option maxRecDepth 20000 in
theorem gX3_apart_X3_rowOf : GoodIn wsX3_apart (wsV RX3 53 RX3 yX3_rowOf wsX3_rowOf) := goodIn_app (goodIn_of _ (by decide +kernel)) ggX3_apart_X3_rowOf
theorem dX3_apart_0 : decode cX3_apart 0 = .ok (.lconst 0, 1) := by decide +kernel
theorem dX3_apart_1 : decode cX3_apart 1 = .ok (.lstore 5, 2) := by decide +kernel
theorem dX3_apart_3 : decode cX3_apart 3 = .ok (.iconst 0, 1) := by decide +kernel
theorem dX3_apart_4 : decode cX3_apart 4 = .ok (.istore 7, 2) := by decide +kernel
theorem dX3_apart_6 : decode cX3_apart 6 = .ok (.iload 7, 2) := by decide +kernel
theorem dX3_apart_8 : decode cX3_apart 8 = .ok (.aload_n 1, 1) := by decide +kernel
theorem dX3_apart_9 : decode cX3_apart 9 = .ok (.getfield 50, 3) := by decide +kernel
theorem dX3_apart_12 : decode cX3_apart 12 = .ok (.if_icmp .ge 67, 3) := by decide +kernel
theorem dX3_apart_15 : decode cX3_apart 15 = .ok (.aload_n 0, 1) := by decide +kernel
theorem dX3_apart_16 : decode cX3_apart 16 = .ok (.iload_n 2, 1) := by decide +kernel
theorem dX3_apart_17 : decode cX3_apart 17 = .ok (.iload 7, 2) := by decide +kernel
theorem dX3_apart_19 : decode cX3_apart 19 = .ok (.iload 4, 2) := by decide +kernel
theorem dX3_apart_21 : decode cX3_apart 21 = .ok (.invokevirtual 53, 3) := by decide +kernel
theorem dX3_apart_24 : decode cX3_apart 24 = .ok (.istore 8, 2) := by decide +kernel
theorem dX3_apart_26 : decode cX3_apart 26 = .ok (.aload_n 0, 1) := by decide +kernel
theorem dX3_apart_27 : decode cX3_apart 27 = .ok (.iload_n 3, 1) := by decide +kernel
theorem dX3_apart_28 : decode cX3_apart 28 = .ok (.iload 7, 2) := by decide +kernel
theorem dX3_apart_30 : decode cX3_apart 30 = .ok (.iload 4, 2) := by decide +kernel
theorem dX3_apart_32 : decode cX3_apart 32 = .ok (.invokevirtual 53, 3) := by decide +kernel
theorem dX3_apart_35 : decode cX3_apart 35 = .ok (.istore 9, 2) := by decide +kernel
theorem dX3_apart_37 : decode cX3_apart 37 = .ok (.lload 5, 2) := by decide +kernel
theorem dX3_apart_39 : decode cX3_apart 39 = .ok (.aload_n 0, 1) := by decide +kernel
theorem dX3_apart_40 : decode cX3_apart 40 = .ok (.getfield 25, 3) := by decide +kernel
theorem dX3_apart_43 : decode cX3_apart 43 = .ok (.iload 8, 2) := by decide +kernel
theorem dX3_apart_45 : decode cX3_apart 45 = .ok (.laload, 1) := by decide +kernel
theorem dX3_apart_46 : decode cX3_apart 46 = .ok (.aload_n 0, 1) := by decide +kernel
theorem dX3_apart_47 : decode cX3_apart 47 = .ok (.getfield 29, 3) := by decide +kernel
theorem dX3_apart_50 : decode cX3_apart 50 = .ok (.iload 9, 2) := by decide +kernel
theorem dX3_apart_52 : decode cX3_apart 52 = .ok (.laload, 1) := by decide +kernel
theorem dX3_apart_53 : decode cX3_apart 53 = .ok (.land, 1) := by decide +kernel
theorem dX3_apart_54 : decode cX3_apart 54 = .ok (.aload_n 0, 1) := by decide +kernel
theorem dX3_apart_55 : decode cX3_apart 55 = .ok (.getfield 29, 3) := by decide +kernel
theorem dX3_apart_58 : decode cX3_apart 58 = .ok (.iload 8, 2) := by decide +kernel
theorem dX3_apart_60 : decode cX3_apart 60 = .ok (.laload, 1) := by decide +kernel
theorem dX3_apart_61 : decode cX3_apart 61 = .ok (.aload_n 0, 1) := by decide +kernel
theorem dX3_apart_62 : decode cX3_apart 62 = .ok (.getfield 25, 3) := by decide +kernel
theorem dX3_apart_65 : decode cX3_apart 65 = .ok (.iload 9, 2) := by decide +kernel
theorem dX3_apart_67 : decode cX3_apart 67 = .ok (.laload, 1) := by decide +kernel
theorem dX3_apart_68 : decode cX3_apart 68 = .ok (.land, 1) := by decide +kernel
theorem dX3_apart_69 : decode cX3_apart 69 = .ok (.lor, 1) := by decide +kernel
theorem dX3_apart_70 : decode cX3_apart 70 = .ok (.lor, 1) := by decide +kernel
theorem dX3_apart_71 : decode cX3_apart 71 = .ok (.lstore 5, 2) := by decide +kernel
theorem dX3_apart_73 : decode cX3_apart 73 = .ok (.iinc 7 1, 3) := by decide +kernel
theorem dX3_apart_76 : decode cX3_apart 76 = .ok (.goto (-70), 3) := by decide +kernel
theorem dX3_apart_79 : decode cX3_apart 79 = .ok (.lload 5, 2) := by decide +kernel
theorem dX3_apart_81 : decode cX3_apart 81 = .ok (.lreturn, 1) := by decide +kernel
set_option maxRecDepth 20000 in
theorem ggX3_blurred_X3_rowOf : GoodIn wsX3_blurred wsX3_rowOf := goodIn_r _ [9, 10, 25, 26, 27, 28, 29] (by decide +kernel) (by decide +kernel)
set_option maxRecDepth 20000 in
theorem gX3_blurred_X3_rowOf : GoodIn wsX3_blurred (wsV RX3 53 RX3 yX3_rowOf wsX3_rowOf) := goodIn_app (goodIn_of _ (by decide +kernel)) ggX3_blurred_X3_rowOf
theorem dX3_blurred_0 : decode cX3_blurred 0 = .ok (.lconst 0, 1) := by decide +kernel
theorem dX3_blurred_1 : decode cX3_blurred 1 = .ok (.lstore 4, 2) := by decide +kernel
theorem dX3_blurred_3 : decode cX3_blurred 3 = .ok (.iconst 0, 1) := by decide +kernel
theorem dX3_blurred_4 : decode cX3_blurred 4 = .ok (.istore 6, 2) := by decide +kernel
theorem dX3_blurred_6 : decode cX3_blurred 6 = .ok (.iload 6, 2) := by decide +kernel
theorem dX3_blurred_8 : decode cX3_blurred 8 = .ok (.aload_n 1, 1) := by decide +kernel
theorem dX3_blurred_9 : decode cX3_blurred 9 = .ok (.getfield 50, 3) := by decide +kernel
theorem dX3_blurred_12 : decode cX3_blurred 12 = .ok (.if_icmp .ge 69, 3) := by decide +kernel
theorem dX3_blurred_15 : decode cX3_blurred 15 = .ok (.aload_n 0, 1) := by decide +kernel
theorem dX3_blurred_16 : decode cX3_blurred 16 = .ok (.iload_n 2, 1) := by decide +kernel
theorem dX3_blurred_17 : decode cX3_blurred 17 = .ok (.iload 6, 2) := by decide +kernel
theorem dX3_blurred_19 : decode cX3_blurred 19 = .ok (.iload_n 3, 1) := by decide +kernel
theorem dX3_blurred_20 : decode cX3_blurred 20 = .ok (.invokevirtual 53, 3) := by decide +kernel
theorem dX3_blurred_23 : decode cX3_blurred 23 = .ok (.istore 7, 2) := by decide +kernel
theorem dX3_blurred_25 : decode cX3_blurred 25 = .ok (.aload_n 0, 1) := by decide +kernel
theorem dX3_blurred_26 : decode cX3_blurred 26 = .ok (.iconst (-1), 1) := by decide +kernel
theorem dX3_blurred_27 : decode cX3_blurred 27 = .ok (.iload 6, 2) := by decide +kernel
theorem dX3_blurred_29 : decode cX3_blurred 29 = .ok (.iload_n 3, 1) := by decide +kernel
theorem dX3_blurred_30 : decode cX3_blurred 30 = .ok (.invokevirtual 53, 3) := by decide +kernel
theorem dX3_blurred_33 : decode cX3_blurred 33 = .ok (.istore 8, 2) := by decide +kernel
theorem dX3_blurred_35 : decode cX3_blurred 35 = .ok (.lload 4, 2) := by decide +kernel
theorem dX3_blurred_37 : decode cX3_blurred 37 = .ok (.aload_n 0, 1) := by decide +kernel
theorem dX3_blurred_38 : decode cX3_blurred 38 = .ok (.getfield 25, 3) := by decide +kernel
theorem dX3_blurred_41 : decode cX3_blurred 41 = .ok (.iload 8, 2) := by decide +kernel
theorem dX3_blurred_43 : decode cX3_blurred 43 = .ok (.laload, 1) := by decide +kernel
theorem dX3_blurred_44 : decode cX3_blurred 44 = .ok (.aload_n 0, 1) := by decide +kernel
theorem dX3_blurred_45 : decode cX3_blurred 45 = .ok (.getfield 29, 3) := by decide +kernel
theorem dX3_blurred_48 : decode cX3_blurred 48 = .ok (.iload 8, 2) := by decide +kernel
theorem dX3_blurred_50 : decode cX3_blurred 50 = .ok (.laload, 1) := by decide +kernel
theorem dX3_blurred_51 : decode cX3_blurred 51 = .ok (.lor, 1) := by decide +kernel
theorem dX3_blurred_52 : decode cX3_blurred 52 = .ok (.aload_n 0, 1) := by decide +kernel
theorem dX3_blurred_53 : decode cX3_blurred 53 = .ok (.getfield 25, 3) := by decide +kernel
theorem dX3_blurred_56 : decode cX3_blurred 56 = .ok (.iload 7, 2) := by decide +kernel
theorem dX3_blurred_58 : decode cX3_blurred 58 = .ok (.laload, 1) := by decide +kernel
theorem dX3_blurred_59 : decode cX3_blurred 59 = .ok (.aload_n 0, 1) := by decide +kernel
theorem dX3_blurred_60 : decode cX3_blurred 60 = .ok (.getfield 29, 3) := by decide +kernel
theorem dX3_blurred_63 : decode cX3_blurred 63 = .ok (.iload 7, 2) := by decide +kernel
theorem dX3_blurred_65 : decode cX3_blurred 65 = .ok (.laload, 1) := by decide +kernel
theorem dX3_blurred_66 : decode cX3_blurred 66 = .ok (.lor, 1) := by decide +kernel
theorem dX3_blurred_67 : decode cX3_blurred 67 = .ok (.ldc2_w 63, 3) := by decide +kernel
theorem dX3_blurred_70 : decode cX3_blurred 70 = .ok (.lxor, 1) := by decide +kernel
theorem dX3_blurred_71 : decode cX3_blurred 71 = .ok (.land, 1) := by decide +kernel
theorem dX3_blurred_72 : decode cX3_blurred 72 = .ok (.lor, 1) := by decide +kernel
theorem dX3_blurred_73 : decode cX3_blurred 73 = .ok (.lstore 4, 2) := by decide +kernel
theorem dX3_blurred_75 : decode cX3_blurred 75 = .ok (.iinc 6 1, 3) := by decide +kernel
theorem dX3_blurred_78 : decode cX3_blurred 78 = .ok (.goto (-72), 3) := by decide +kernel
theorem dX3_blurred_81 : decode cX3_blurred 81 = .ok (.lload 4, 2) := by decide +kernel
theorem dX3_blurred_83 : decode cX3_blurred 83 = .ok (.lreturn, 1) := by decide +kernel
set_option maxRecDepth 20000 in
theorem ggX3_firstApart_X0_fullWords : GoodIn wsX3_firstApart wsX0_fullWords := goodIn_r _ [10, 11, 36, 37, 38, 39, 40, 41, 42, 43, 44, 45, 46, 47, 48, 49] (by decide +kernel) (by decide +kernel)
set_option maxRecDepth 20000 in
theorem gX3_firstApart_X0_fullWords : GoodIn wsX3_firstApart (wsV RX3 65 RX0 yX0_fullWords wsX0_fullWords) := goodIn_app (goodIn_of _ (by decide +kernel)) ggX3_firstApart_X0_fullWords
set_option maxRecDepth 20000 in
theorem ggX3_firstApart_X3_apart : GoodIn wsX3_firstApart wsX3_apart := goodIn_r _ [16, 17, 18, 19, 20, 21, 22, 15, 23, 1, 36, 37, 38, 39, 40, 41, 42, 43, 44, 45, 46, 47, 48, 49, 31, 32, 33, 34, 35] (by decide +kernel) (by decide +kernel)
set_option maxRecDepth 20000 in
theorem gX3_firstApart_X3_apart : GoodIn wsX3_firstApart (wsV RX3 74 RX3 yX3_apart wsX3_apart) := goodIn_app (goodIn_of _ (by decide +kernel)) ggX3_firstApart_X3_apart
set_option maxRecDepth 20000 in
theorem ggX3_firstApart_J13_bitCount_95d88 : GoodIn wsX3_firstApart wsJ13_bitCount_95d88 := goodIn_r _ [27, 28, 29, 30] (by decide +kernel) (by decide +kernel)
set_option maxRecDepth 20000 in
theorem gX3_firstApart_J13_bitCount_95d88 : GoodIn wsX3_firstApart (va_wsS RX3 78 yJ13_bitCount_95d88 wsJ13_bitCount_95d88) := goodIn_app (goodIn_of _ (by decide +kernel)) ggX3_firstApart_J13_bitCount_95d88
theorem dX3_firstApart_0 : decode cX3_firstApart 0 = .ok (.aload_n 1, 1) := by decide +kernel
theorem dX3_firstApart_1 : decode cX3_firstApart 1 = .ok (.invokevirtual 65, 3) := by decide +kernel
theorem dX3_firstApart_4 : decode cX3_firstApart 4 = .ok (.aload_n 0, 1) := by decide +kernel
theorem dX3_firstApart_5 : decode cX3_firstApart 5 = .ok (.getfield 21, 3) := by decide +kernel
theorem dX3_firstApart_8 : decode cX3_firstApart 8 = .ok (.invokestatic 68, 3) := by decide +kernel
theorem dX3_firstApart_11 : decode cX3_firstApart 11 = .ok (.istore 4, 2) := by decide +kernel
theorem dX3_firstApart_13 : decode cX3_firstApart 13 = .ok (.iconst 0, 1) := by decide +kernel
theorem dX3_firstApart_14 : decode cX3_firstApart 14 = .ok (.istore 5, 2) := by decide +kernel
theorem dX3_firstApart_16 : decode cX3_firstApart 16 = .ok (.iload 5, 2) := by decide +kernel
theorem dX3_firstApart_18 : decode cX3_firstApart 18 = .ok (.iload 4, 2) := by decide +kernel
theorem dX3_firstApart_20 : decode cX3_firstApart 20 = .ok (.if_icmp .ge 45, 3) := by decide +kernel
theorem dX3_firstApart_23 : decode cX3_firstApart 23 = .ok (.aload_n 0, 1) := by decide +kernel
theorem dX3_firstApart_24 : decode cX3_firstApart 24 = .ok (.aload_n 1, 1) := by decide +kernel
theorem dX3_firstApart_25 : decode cX3_firstApart 25 = .ok (.iload_n 2, 1) := by decide +kernel
theorem dX3_firstApart_26 : decode cX3_firstApart 26 = .ok (.iload_n 3, 1) := by decide +kernel
theorem dX3_firstApart_27 : decode cX3_firstApart 27 = .ok (.iload 5, 2) := by decide +kernel
theorem dX3_firstApart_29 : decode cX3_firstApart 29 = .ok (.invokevirtual 74, 3) := by decide +kernel
theorem dX3_firstApart_32 : decode cX3_firstApart 32 = .ok (.lstore 6, 2) := by decide +kernel
theorem dX3_firstApart_34 : decode cX3_firstApart 34 = .ok (.lload 6, 2) := by decide +kernel
theorem dX3_firstApart_36 : decode cX3_firstApart 36 = .ok (.lconst 0, 1) := by decide +kernel
theorem dX3_firstApart_37 : decode cX3_firstApart 37 = .ok (.lcmp, 1) := by decide +kernel
theorem dX3_firstApart_38 : decode cX3_firstApart 38 = .ok (.ifCond .eq 21, 3) := by decide +kernel
theorem dX3_firstApart_41 : decode cX3_firstApart 41 = .ok (.iload 5, 2) := by decide +kernel
theorem dX3_firstApart_43 : decode cX3_firstApart 43 = .ok (.bipush 64, 2) := by decide +kernel
theorem dX3_firstApart_45 : decode cX3_firstApart 45 = .ok (.imul, 1) := by decide +kernel
theorem dX3_firstApart_46 : decode cX3_firstApart 46 = .ok (.lload 6, 2) := by decide +kernel
theorem dX3_firstApart_48 : decode cX3_firstApart 48 = .ok (.lload 6, 2) := by decide +kernel
theorem dX3_firstApart_50 : decode cX3_firstApart 50 = .ok (.lneg, 1) := by decide +kernel
theorem dX3_firstApart_51 : decode cX3_firstApart 51 = .ok (.land, 1) := by decide +kernel
theorem dX3_firstApart_52 : decode cX3_firstApart 52 = .ok (.lconst 1, 1) := by decide +kernel
theorem dX3_firstApart_53 : decode cX3_firstApart 53 = .ok (.lsub, 1) := by decide +kernel
theorem dX3_firstApart_54 : decode cX3_firstApart 54 = .ok (.invokestatic 78, 3) := by decide +kernel
theorem dX3_firstApart_57 : decode cX3_firstApart 57 = .ok (.iadd, 1) := by decide +kernel
theorem dX3_firstApart_58 : decode cX3_firstApart 58 = .ok (.ireturn, 1) := by decide +kernel
theorem dX3_firstApart_59 : decode cX3_firstApart 59 = .ok (.iinc 5 1, 3) := by decide +kernel
theorem dX3_firstApart_62 : decode cX3_firstApart 62 = .ok (.goto (-46), 3) := by decide +kernel
theorem dX3_firstApart_65 : decode cX3_firstApart 65 = .ok (.iconst (-1), 1) := by decide +kernel
theorem dX3_firstApart_66 : decode cX3_firstApart 66 = .ok (.ireturn, 1) := by decide +kernel
set_option maxRecDepth 20000 in
theorem ggX3_partOf_X3_rowOf : GoodIn wsX3_partOf wsX3_rowOf := goodIn_r _ [8, 9, 27, 28, 29, 30, 31] (by decide +kernel) (by decide +kernel)
set_option maxRecDepth 20000 in
theorem gX3_partOf_X3_rowOf : GoodIn wsX3_partOf (wsV RX3 53 RX3 yX3_rowOf wsX3_rowOf) := goodIn_app (goodIn_of _ (by decide +kernel)) ggX3_partOf_X3_rowOf
set_option maxRecDepth 20000 in
theorem ggX3_partOf_X7_hasLane : GoodIn wsX3_partOf wsX7_hasLane := goodIn_r _ [12] (by decide +kernel) (by decide +kernel)
set_option maxRecDepth 20000 in
theorem gX3_partOf_X7_hasLane_n84 : GoodIn wsX3_partOf (wsX7_hasLane) := ggX3_partOf_X7_hasLane
theorem dX3_partOf_0 : decode cX3_partOf 0 = .ok (.iconst 0, 1) := by decide +kernel
theorem dX3_partOf_1 : decode cX3_partOf 1 = .ok (.istore 4, 2) := by decide +kernel
theorem dX3_partOf_3 : decode cX3_partOf 3 = .ok (.iconst 0, 1) := by decide +kernel
theorem dX3_partOf_4 : decode cX3_partOf 4 = .ok (.istore 5, 2) := by decide +kernel
theorem dX3_partOf_6 : decode cX3_partOf 6 = .ok (.iload 5, 2) := by decide +kernel
theorem dX3_partOf_8 : decode cX3_partOf 8 = .ok (.aload_n 1, 1) := by decide +kernel
theorem dX3_partOf_9 : decode cX3_partOf 9 = .ok (.getfield 50, 3) := by decide +kernel
theorem dX3_partOf_12 : decode cX3_partOf 12 = .ok (.if_icmp .ge 67, 3) := by decide +kernel
theorem dX3_partOf_15 : decode cX3_partOf 15 = .ok (.aload_n 0, 1) := by decide +kernel
theorem dX3_partOf_16 : decode cX3_partOf 16 = .ok (.iload_n 2, 1) := by decide +kernel
theorem dX3_partOf_17 : decode cX3_partOf 17 = .ok (.iload 5, 2) := by decide +kernel
theorem dX3_partOf_19 : decode cX3_partOf 19 = .ok (.iconst 0, 1) := by decide +kernel
theorem dX3_partOf_20 : decode cX3_partOf 20 = .ok (.invokevirtual 53, 3) := by decide +kernel
theorem dX3_partOf_23 : decode cX3_partOf 23 = .ok (.istore 6, 2) := by decide +kernel
theorem dX3_partOf_25 : decode cX3_partOf 25 = .ok (.aload_n 0, 1) := by decide +kernel
theorem dX3_partOf_26 : decode cX3_partOf 26 = .ok (.getfield 25, 3) := by decide +kernel
theorem dX3_partOf_29 : decode cX3_partOf 29 = .ok (.iload 6, 2) := by decide +kernel
theorem dX3_partOf_31 : decode cX3_partOf 31 = .ok (.laload, 1) := by decide +kernel
theorem dX3_partOf_32 : decode cX3_partOf 32 = .ok (.iload_n 3, 1) := by decide +kernel
theorem dX3_partOf_33 : decode cX3_partOf 33 = .ok (.invokestatic 84, 3) := by decide +kernel
theorem dX3_partOf_36 : decode cX3_partOf 36 = .ok (.ifCond .eq 7, 3) := by decide +kernel
theorem dX3_partOf_39 : decode cX3_partOf 39 = .ok (.iconst 0, 1) := by decide +kernel
theorem dX3_partOf_40 : decode cX3_partOf 40 = .ok (.goto 22, 3) := by decide +kernel
theorem dX3_partOf_43 : decode cX3_partOf 43 = .ok (.aload_n 0, 1) := by decide +kernel
theorem dX3_partOf_44 : decode cX3_partOf 44 = .ok (.getfield 29, 3) := by decide +kernel
theorem dX3_partOf_47 : decode cX3_partOf 47 = .ok (.iload 6, 2) := by decide +kernel
theorem dX3_partOf_49 : decode cX3_partOf 49 = .ok (.laload, 1) := by decide +kernel
theorem dX3_partOf_50 : decode cX3_partOf 50 = .ok (.iload_n 3, 1) := by decide +kernel
theorem dX3_partOf_51 : decode cX3_partOf 51 = .ok (.invokestatic 84, 3) := by decide +kernel
theorem dX3_partOf_54 : decode cX3_partOf 54 = .ok (.ifCond .eq 7, 3) := by decide +kernel
theorem dX3_partOf_57 : decode cX3_partOf 57 = .ok (.iconst 1, 1) := by decide +kernel
theorem dX3_partOf_58 : decode cX3_partOf 58 = .ok (.goto 4, 3) := by decide +kernel
theorem dX3_partOf_61 : decode cX3_partOf 61 = .ok (.iconst 2, 1) := by decide +kernel
theorem dX3_partOf_62 : decode cX3_partOf 62 = .ok (.istore 7, 2) := by decide +kernel
theorem dX3_partOf_64 : decode cX3_partOf 64 = .ok (.iload 4, 2) := by decide +kernel
theorem dX3_partOf_66 : decode cX3_partOf 66 = .ok (.iconst 3, 1) := by decide +kernel
theorem dX3_partOf_67 : decode cX3_partOf 67 = .ok (.imul, 1) := by decide +kernel
theorem dX3_partOf_68 : decode cX3_partOf 68 = .ok (.iload 7, 2) := by decide +kernel
theorem dX3_partOf_70 : decode cX3_partOf 70 = .ok (.iadd, 1) := by decide +kernel
theorem dX3_partOf_71 : decode cX3_partOf 71 = .ok (.istore 4, 2) := by decide +kernel
theorem dX3_partOf_73 : decode cX3_partOf 73 = .ok (.iinc 5 1, 3) := by decide +kernel
theorem dX3_partOf_76 : decode cX3_partOf 76 = .ok (.goto (-70), 3) := by decide +kernel
theorem dX3_partOf_79 : decode cX3_partOf 79 = .ok (.iload 4, 2) := by decide +kernel
theorem dX3_partOf_81 : decode cX3_partOf 81 = .ok (.ireturn, 1) := by decide +kernel
set_option maxRecDepth 20000 in
theorem ggX4_init_X0_init : GoodIn wsX4_init wsX0_init := goodIn_r _ [14, 15, 2, 3, 16, 17, 18, 19, 20, 21, 22, 23, 24, 25, 26, 27, 28, 29, 6, 30, 31, 32, 33, 34, 43, 44, 45, 46, 47, 48, 49, 50, 51, 52, 53, 54, 55, 56] (by decide +kernel) (by decide +kernel)
set_option maxRecDepth 20000 in
theorem gX4_init_X0_init : GoodIn wsX4_init (wsX0_init) := ggX4_init_X0_init
set_option maxRecDepth 20000 in
theorem ggX4_init_X6_init : GoodIn wsX4_init wsX6_init := goodIn_r _ [36, 37, 2, 3, 38, 16, 39, 40, 41, 42, 59, 60, 61, 62, 63] (by decide +kernel) (by decide +kernel)
set_option maxRecDepth 20000 in
theorem gX4_init_X6_init_n18 : GoodIn wsX4_init (wsX6_init) := ggX4_init_X6_init
theorem dX4_init_0 : decode cX4_init 0 = .ok (.aload_n 0, 1) := by decide +kernel
theorem dX4_init_1 : decode cX4_init 1 = .ok (.invokespecial 1, 3) := by decide +kernel
theorem dX4_init_4 : decode cX4_init 4 = .ok (.aload_n 0, 1) := by decide +kernel
theorem dX4_init_5 : decode cX4_init 5 = .ok (.new 7, 3) := by decide +kernel
theorem dX4_init_8 : decode cX4_init 8 = .ok (.dup, 1) := by decide +kernel
theorem dX4_init_9 : decode cX4_init 9 = .ok (.invokespecial 9, 3) := by decide +kernel
theorem dX4_init_12 : decode cX4_init 12 = .ok (.putfield 10, 3) := by decide +kernel
theorem dX4_init_15 : decode cX4_init 15 = .ok (.aload_n 0, 1) := by decide +kernel
theorem dX4_init_16 : decode cX4_init 16 = .ok (.new 16, 3) := by decide +kernel
theorem dX4_init_19 : decode cX4_init 19 = .ok (.dup, 1) := by decide +kernel
theorem dX4_init_20 : decode cX4_init 20 = .ok (.invokespecial 18, 3) := by decide +kernel
theorem dX4_init_23 : decode cX4_init 23 = .ok (.putfield 19, 3) := by decide +kernel
theorem dX4_init_26 : decode cX4_init 26 = .ok (.return_, 1) := by decide +kernel
set_option maxRecDepth 20000 in
theorem ggX4_clear_X0_clear : GoodIn wsX4_clear wsX0_clear := goodIn_r _ [7, 8, 9, 10, 11, 12, 13, 14, 15, 16, 31, 32, 33, 34, 35, 36, 37, 38, 39, 40, 41, 42, 43, 44] (by decide +kernel) (by decide +kernel)
set_option maxRecDepth 20000 in
theorem gX4_clear_X0_clear : GoodIn wsX4_clear (wsV RX4 23 RX0 yX0_clear wsX0_clear) := goodIn_app (goodIn_of _ (by decide +kernel)) ggX4_clear_X0_clear
set_option maxRecDepth 20000 in
theorem ggX4_clear_X6_clear : GoodIn wsX4_clear wsX6_clear := goodIn_r _ [21, 22, 23, 24, 25, 20, 26, 27, 28, 45, 46, 47, 48, 49] (by decide +kernel) (by decide +kernel)
set_option maxRecDepth 20000 in
theorem gX4_clear_X6_clear : GoodIn wsX4_clear (wsV RX4 27 RX6 yX6_clear wsX6_clear) := goodIn_app (goodIn_of _ (by decide +kernel)) ggX4_clear_X6_clear
theorem dX4_clear_0 : decode cX4_clear 0 = .ok (.aload_n 0, 1) := by decide +kernel
theorem dX4_clear_1 : decode cX4_clear 1 = .ok (.getfield 10, 3) := by decide +kernel
theorem dX4_clear_4 : decode cX4_clear 4 = .ok (.iload_n 1, 1) := by decide +kernel
theorem dX4_clear_5 : decode cX4_clear 5 = .ok (.invokevirtual 23, 3) := by decide +kernel
theorem dX4_clear_8 : decode cX4_clear 8 = .ok (.aload_n 0, 1) := by decide +kernel
theorem dX4_clear_9 : decode cX4_clear 9 = .ok (.getfield 19, 3) := by decide +kernel
theorem dX4_clear_12 : decode cX4_clear 12 = .ok (.invokevirtual 27, 3) := by decide +kernel
theorem dX4_clear_15 : decode cX4_clear 15 = .ok (.return_, 1) := by decide +kernel
set_option maxRecDepth 20000 in
theorem ggX4_copyFrom_X0_copyFrom : GoodIn wsX4_copyFrom wsX0_copyFrom := goodIn_r _ [7, 8, 9, 10, 11, 12, 13, 14, 15, 16, 17, 18, 19, 20, 21, 22, 23, 24, 25, 39, 40, 41, 42, 43, 44, 45, 46, 47, 48, 49, 50, 51, 52] (by decide +kernel) (by decide +kernel)
set_option maxRecDepth 20000 in
theorem gX4_copyFrom_X0_copyFrom : GoodIn wsX4_copyFrom (wsV RX4 29 RX0 yX0_copyFrom wsX0_copyFrom) := goodIn_app (goodIn_of _ (by decide +kernel)) ggX4_copyFrom_X0_copyFrom
set_option maxRecDepth 20000 in
theorem ggX4_copyFrom_X6_copyFrom : GoodIn wsX4_copyFrom wsX6_copyFrom := goodIn_r _ [30, 31, 32, 33, 14, 15, 16, 34, 35, 36, 53, 54, 55, 56, 57] (by decide +kernel) (by decide +kernel)
set_option maxRecDepth 20000 in
theorem gX4_copyFrom_X6_copyFrom : GoodIn wsX4_copyFrom (wsV RX4 33 RX6 yX6_copyFrom wsX6_copyFrom) := goodIn_app (goodIn_of _ (by decide +kernel)) ggX4_copyFrom_X6_copyFrom
