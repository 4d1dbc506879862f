theorem dX0_init_0 : decode cX0_init 0 = .ok (.aload_n 0, 1) := by decide +kernel
theorem dX0_init_1 : decode cX0_init 1 = .ok (.invokespecial 3, 3) := by decide +kernel
theorem dX0_init_4 : decode cX0_init 4 = .ok (.aload_n 0, 1) := by decide +kernel
theorem dX0_init_5 : decode cX0_init 5 = .ok (.iconst 0, 1) := by decide +kernel
theorem dX0_init_6 : decode cX0_init 6 = .ok (.putfield 9, 3) := by decide +kernel
theorem dX0_init_9 : decode cX0_init 9 = .ok (.aload_n 0, 1) := by decide +kernel
theorem dX0_init_10 : decode cX0_init 10 = .ok (.iconst 0, 1) := by decide +kernel
theorem dX0_init_11 : decode cX0_init 11 = .ok (.putfield 15, 3) := by decide +kernel
theorem dX0_init_14 : decode cX0_init 14 = .ok (.aload_n 0, 1) := by decide +kernel
theorem dX0_init_15 : decode cX0_init 15 = .ok (.iconst 0, 1) := by decide +kernel
theorem dX0_init_16 : decode cX0_init 16 = .ok (.putfield 18, 3) := by decide +kernel
theorem dX0_init_19 : decode cX0_init 19 = .ok (.aload_n 0, 1) := by decide +kernel
theorem dX0_init_20 : decode cX0_init 20 = .ok (.iconst 0, 1) := by decide +kernel
theorem dX0_init_21 : decode cX0_init 21 = .ok (.putfield 21, 3) := by decide +kernel
theorem dX0_init_24 : decode cX0_init 24 = .ok (.aload_n 0, 1) := by decide +kernel
theorem dX0_init_25 : decode cX0_init 25 = .ok (.bipush 8, 2) := by decide +kernel
theorem dX0_init_27 : decode cX0_init 27 = .ok (.newarray .int, 2) := by decide +kernel
theorem dX0_init_29 : decode cX0_init 29 = .ok (.putfield 24, 3) := by decide +kernel
theorem dX0_init_32 : decode cX0_init 32 = .ok (.aload_n 0, 1) := by decide +kernel
theorem dX0_init_33 : decode cX0_init 33 = .ok (.bipush 8, 2) := by decide +kernel
theorem dX0_init_35 : decode cX0_init 35 = .ok (.newarray .int, 2) := by decide +kernel
theorem dX0_init_37 : decode cX0_init 37 = .ok (.putfield 28, 3) := by decide +kernel
theorem dX0_init_40 : decode cX0_init 40 = .ok (.aload_n 0, 1) := by decide +kernel
theorem dX0_init_41 : decode cX0_init 41 = .ok (.bipush 8, 2) := by decide +kernel
theorem dX0_init_43 : decode cX0_init 43 = .ok (.newarray .int, 2) := by decide +kernel
theorem dX0_init_45 : decode cX0_init 45 = .ok (.putfield 31, 3) := by decide +kernel
theorem dX0_init_48 : decode cX0_init 48 = .ok (.aload_n 0, 1) := by decide +kernel
theorem dX0_init_49 : decode cX0_init 49 = .ok (.iconst 4, 1) := by decide +kernel
theorem dX0_init_50 : decode cX0_init 50 = .ok (.newarray .int, 2) := by decide +kernel
theorem dX0_init_52 : decode cX0_init 52 = .ok (.putfield 34, 3) := by decide +kernel
theorem dX0_init_55 : decode cX0_init 55 = .ok (.aload_n 0, 1) := by decide +kernel
theorem dX0_init_56 : decode cX0_init 56 = .ok (.iconst 4, 1) := by decide +kernel
theorem dX0_init_57 : decode cX0_init 57 = .ok (.newarray .int, 2) := by decide +kernel
theorem dX0_init_59 : decode cX0_init 59 = .ok (.putfield 37, 3) := by decide +kernel
theorem dX0_init_62 : decode cX0_init 62 = .ok (.aload_n 0, 1) := by decide +kernel
theorem dX0_init_63 : decode cX0_init 63 = .ok (.iconst 4, 1) := by decide +kernel
theorem dX0_init_64 : decode cX0_init 64 = .ok (.newarray .int, 2) := by decide +kernel
theorem dX0_init_66 : decode cX0_init 66 = .ok (.putfield 40, 3) := by decide +kernel
theorem dX0_init_69 : decode cX0_init 69 = .ok (.aload_n 0, 1) := by decide +kernel
theorem dX0_init_70 : decode cX0_init 70 = .ok (.iconst 4, 1) := by decide +kernel
theorem dX0_init_71 : decode cX0_init 71 = .ok (.newarray .int, 2) := by decide +kernel
theorem dX0_init_73 : decode cX0_init 73 = .ok (.putfield 43, 3) := by decide +kernel
theorem dX0_init_76 : decode cX0_init 76 = .ok (.aload_n 0, 1) := by decide +kernel
theorem dX0_init_77 : decode cX0_init 77 = .ok (.iconst 3, 1) := by decide +kernel
theorem dX0_init_78 : decode cX0_init 78 = .ok (.newarray .int, 2) := by decide +kernel
theorem dX0_init_80 : decode cX0_init 80 = .ok (.putfield 46, 3) := by decide +kernel
theorem dX0_init_83 : decode cX0_init 83 = .ok (.aload_n 0, 1) := by decide +kernel
theorem dX0_init_84 : decode cX0_init 84 = .ok (.iconst 3, 1) := by decide +kernel
theorem dX0_init_85 : decode cX0_init 85 = .ok (.newarray .int, 2) := by decide +kernel
theorem dX0_init_87 : decode cX0_init 87 = .ok (.putfield 49, 3) := by decide +kernel
theorem dX0_init_90 : decode cX0_init 90 = .ok (.aload_n 0, 1) := by decide +kernel
theorem dX0_init_91 : decode cX0_init 91 = .ok (.iconst 4, 1) := by decide +kernel
theorem dX0_init_92 : decode cX0_init 92 = .ok (.newarray .int, 2) := by decide +kernel
theorem dX0_init_94 : decode cX0_init 94 = .ok (.putfield 52, 3) := by decide +kernel
theorem dX0_init_97 : decode cX0_init 97 = .ok (.aload_n 0, 1) := by decide +kernel
theorem dX0_init_98 : decode cX0_init 98 = .ok (.iconst 4, 1) := by decide +kernel
theorem dX0_init_99 : decode cX0_init 99 = .ok (.newarray .int, 2) := by decide +kernel
theorem dX0_init_101 : decode cX0_init 101 = .ok (.putfield 55, 3) := by decide +kernel
theorem dX0_init_104 : decode cX0_init 104 = .ok (.aload_n 0, 1) := by decide +kernel
theorem dX0_init_105 : decode cX0_init 105 = .ok (.bipush 6, 2) := by decide +kernel
theorem dX0_init_107 : decode cX0_init 107 = .ok (.newarray .int, 2) := by decide +kernel
theorem dX0_init_109 : decode cX0_init 109 = .ok (.putfield 58, 3) := by decide +kernel
theorem dX0_init_112 : decode cX0_init 112 = .ok (.aload_n 0, 1) := by decide +kernel
theorem dX0_init_113 : decode cX0_init 113 = .ok (.bipush 6, 2) := by decide +kernel
theorem dX0_init_115 : decode cX0_init 115 = .ok (.newarray .int, 2) := by decide +kernel
theorem dX0_init_117 : decode cX0_init 117 = .ok (.putfield 61, 3) := by decide +kernel
theorem dX0_init_120 : decode cX0_init 120 = .ok (.return_, 1) := by decide +kernel
set_option maxRecDepth 20000 in
theorem ggX0_hasCase_X6_isIn : GoodIn wsX0_hasCase wsX6_isIn := goodIn_r _ [4] (by decide +kernel) (by decide +kernel)
set_option maxRecDepth 20000 in
theorem gX0_hasCase_X6_isIn_n64 : GoodIn wsX0_hasCase (wsX6_isIn) := ggX0_hasCase_X6_isIn
theorem dX0_hasCase_0 : decode cX0_hasCase 0 = .ok (.lload_n 1, 1) := by decide +kernel
theorem dX0_hasCase_1 : decode cX0_hasCase 1 = .ok (.iconst 0, 1) := by decide +kernel
theorem dX0_hasCase_2 : decode cX0_hasCase 2 = .ok (.aload_n 0, 1) := by decide +kernel
theorem dX0_hasCase_3 : decode cX0_hasCase 3 = .ok (.getfield 9, 3) := by decide +kernel
theorem dX0_hasCase_6 : decode cX0_hasCase 6 = .ok (.iconst 1, 1) := by decide +kernel
theorem dX0_hasCase_7 : decode cX0_hasCase 7 = .ok (.isub, 1) := by decide +kernel
theorem dX0_hasCase_8 : decode cX0_hasCase 8 = .ok (.invokestatic 64, 3) := by decide +kernel
theorem dX0_hasCase_11 : decode cX0_hasCase 11 = .ok (.ireturn, 1) := by decide +kernel
set_option maxRecDepth 20000 in
theorem ggX0_hasJudge_X6_isIn : GoodIn wsX0_hasJudge wsX6_isIn := goodIn_r _ [4] (by decide +kernel) (by decide +kernel)
set_option maxRecDepth 20000 in
theorem gX0_hasJudge_X6_isIn_n64 : GoodIn wsX0_hasJudge (wsX6_isIn) := ggX0_hasJudge_X6_isIn
theorem dX0_hasJudge_0 : decode cX0_hasJudge 0 = .ok (.iload_n 1, 1) := by decide +kernel
theorem dX0_hasJudge_1 : decode cX0_hasJudge 1 = .ok (.i2l, 1) := by decide +kernel
theorem dX0_hasJudge_2 : decode cX0_hasJudge 2 = .ok (.iconst 0, 1) := by decide +kernel
theorem dX0_hasJudge_3 : decode cX0_hasJudge 3 = .ok (.aload_n 0, 1) := by decide +kernel
theorem dX0_hasJudge_4 : decode cX0_hasJudge 4 = .ok (.getfield 15, 3) := by decide +kernel
theorem dX0_hasJudge_7 : decode cX0_hasJudge 7 = .ok (.iconst 1, 1) := by decide +kernel
theorem dX0_hasJudge_8 : decode cX0_hasJudge 8 = .ok (.isub, 1) := by decide +kernel
theorem dX0_hasJudge_9 : decode cX0_hasJudge 9 = .ok (.invokestatic 64, 3) := by decide +kernel
theorem dX0_hasJudge_12 : decode cX0_hasJudge 12 = .ok (.ireturn, 1) := by decide +kernel
theorem dX0_clear_0 : decode cX0_clear 0 = .ok (.aload_n 0, 1) := by decide +kernel
theorem dX0_clear_1 : decode cX0_clear 1 = .ok (.iconst 0, 1) := by decide +kernel
theorem dX0_clear_2 : decode cX0_clear 2 = .ok (.putfield 9, 3) := by decide +kernel
theorem dX0_clear_5 : decode cX0_clear 5 = .ok (.aload_n 0, 1) := by decide +kernel
theorem dX0_clear_6 : decode cX0_clear 6 = .ok (.iconst 0, 1) := by decide +kernel
theorem dX0_clear_7 : decode cX0_clear 7 = .ok (.putfield 15, 3) := by decide +kernel
theorem dX0_clear_10 : decode cX0_clear 10 = .ok (.aload_n 0, 1) := by decide +kernel
theorem dX0_clear_11 : decode cX0_clear 11 = .ok (.iconst 0, 1) := by decide +kernel
theorem dX0_clear_12 : decode cX0_clear 12 = .ok (.putfield 18, 3) := by decide +kernel
theorem dX0_clear_15 : decode cX0_clear 15 = .ok (.aload_n 0, 1) := by decide +kernel
theorem dX0_clear_16 : decode cX0_clear 16 = .ok (.iconst 0, 1) := by decide +kernel
theorem dX0_clear_17 : decode cX0_clear 17 = .ok (.putfield 21, 3) := by decide +kernel
theorem dX0_clear_20 : decode cX0_clear 20 = .ok (.return_, 1) := by decide +kernel
set_option maxRecDepth 20000 in
theorem ggX0_becomes_X6_copyRow : GoodIn wsX0_becomes wsX6_copyRow := goodIn_r _ [20, 21, 22, 23, 24, 25, 26, 27, 28] (by decide +kernel) (by decide +kernel)
set_option maxRecDepth 20000 in
theorem gX0_becomes_X6_copyRow_n68 : GoodIn wsX0_becomes (wsX6_copyRow) := ggX0_becomes_X6_copyRow
theorem dX0_becomes_0 : decode cX0_becomes 0 = .ok (.aload_n 0, 1) := by decide +kernel
theorem dX0_becomes_1 : decode cX0_becomes 1 = .ok (.aload_n 1, 1) := by decide +kernel
theorem dX0_becomes_2 : decode cX0_becomes 2 = .ok (.getfield 9, 3) := by decide +kernel
theorem dX0_becomes_5 : decode cX0_becomes 5 = .ok (.putfield 9, 3) := by decide +kernel
theorem dX0_becomes_8 : decode cX0_becomes 8 = .ok (.aload_n 0, 1) := by decide +kernel
theorem dX0_becomes_9 : decode cX0_becomes 9 = .ok (.aload_n 1, 1) := by decide +kernel
theorem dX0_becomes_10 : decode cX0_becomes 10 = .ok (.getfield 15, 3) := by decide +kernel
theorem dX0_becomes_13 : decode cX0_becomes 13 = .ok (.putfield 15, 3) := by decide +kernel
theorem dX0_becomes_16 : decode cX0_becomes 16 = .ok (.aload_n 0, 1) := by decide +kernel
theorem dX0_becomes_17 : decode cX0_becomes 17 = .ok (.aload_n 1, 1) := by decide +kernel
theorem dX0_becomes_18 : decode cX0_becomes 18 = .ok (.getfield 18, 3) := by decide +kernel
theorem dX0_becomes_21 : decode cX0_becomes 21 = .ok (.putfield 18, 3) := by decide +kernel
theorem dX0_becomes_24 : decode cX0_becomes 24 = .ok (.aload_n 0, 1) := by decide +kernel
theorem dX0_becomes_25 : decode cX0_becomes 25 = .ok (.aload_n 1, 1) := by decide +kernel
theorem dX0_becomes_26 : decode cX0_becomes 26 = .ok (.getfield 21, 3) := by decide +kernel
theorem dX0_becomes_29 : decode cX0_becomes 29 = .ok (.putfield 21, 3) := by decide +kernel
theorem dX0_becomes_32 : decode cX0_becomes 32 = .ok (.aload_n 1, 1) := by decide +kernel
theorem dX0_becomes_33 : decode cX0_becomes 33 = .ok (.getfield 24, 3) := by decide +kernel
theorem dX0_becomes_36 : decode cX0_becomes 36 = .ok (.aload_n 0, 1) := by decide +kernel
theorem dX0_becomes_37 : decode cX0_becomes 37 = .ok (.getfield 24, 3) := by decide +kernel
theorem dX0_becomes_40 : decode cX0_becomes 40 = .ok (.invokestatic 68, 3) := by decide +kernel
theorem dX0_becomes_43 : decode cX0_becomes 43 = .ok (.aload_n 1, 1) := by decide +kernel
theorem dX0_becomes_44 : decode cX0_becomes 44 = .ok (.getfield 28, 3) := by decide +kernel
theorem dX0_becomes_47 : decode cX0_becomes 47 = .ok (.aload_n 0, 1) := by decide +kernel
theorem dX0_becomes_48 : decode cX0_becomes 48 = .ok (.getfield 28, 3) := by decide +kernel
theorem dX0_becomes_51 : decode cX0_becomes 51 = .ok (.invokestatic 68, 3) := by decide +kernel
theorem dX0_becomes_54 : decode cX0_becomes 54 = .ok (.aload_n 1, 1) := by decide +kernel
theorem dX0_becomes_55 : decode cX0_becomes 55 = .ok (.getfield 31, 3) := by decide +kernel
theorem dX0_becomes_58 : decode cX0_becomes 58 = .ok (.aload_n 0, 1) := by decide +kernel
theorem dX0_becomes_59 : decode cX0_becomes 59 = .ok (.getfield 31, 3) := by decide +kernel
theorem dX0_becomes_62 : decode cX0_becomes 62 = .ok (.invokestatic 68, 3) := by decide +kernel
theorem dX0_becomes_65 : decode cX0_becomes 65 = .ok (.aload_n 1, 1) := by decide +kernel
theorem dX0_becomes_66 : decode cX0_becomes 66 = .ok (.getfield 34, 3) := by decide +kernel
theorem dX0_becomes_69 : decode cX0_becomes 69 = .ok (.aload_n 0, 1) := by decide +kernel
theorem dX0_becomes_70 : decode cX0_becomes 70 = .ok (.getfield 34, 3) := by decide +kernel
theorem dX0_becomes_73 : decode cX0_becomes 73 = .ok (.invokestatic 68, 3) := by decide +kernel
theorem dX0_becomes_76 : decode cX0_becomes 76 = .ok (.aload_n 1, 1) := by decide +kernel
theorem dX0_becomes_77 : decode cX0_becomes 77 = .ok (.getfield 37, 3) := by decide +kernel
theorem dX0_becomes_80 : decode cX0_becomes 80 = .ok (.aload_n 0, 1) := by decide +kernel
theorem dX0_becomes_81 : decode cX0_becomes 81 = .ok (.getfield 37, 3) := by decide +kernel
theorem dX0_becomes_84 : decode cX0_becomes 84 = .ok (.invokestatic 68, 3) := by decide +kernel
theorem dX0_becomes_87 : decode cX0_becomes 87 = .ok (.aload_n 1, 1) := by decide +kernel
theorem dX0_becomes_88 : decode cX0_becomes 88 = .ok (.getfield 40, 3) := by decide +kernel
theorem dX0_becomes_91 : decode cX0_becomes 91 = .ok (.aload_n 0, 1) := by decide +kernel
theorem dX0_becomes_92 : decode cX0_becomes 92 = .ok (.getfield 40, 3) := by decide +kernel
theorem dX0_becomes_95 : decode cX0_becomes 95 = .ok (.invokestatic 68, 3) := by decide +kernel
theorem dX0_becomes_98 : decode cX0_becomes 98 = .ok (.aload_n 1, 1) := by decide +kernel
theorem dX0_becomes_99 : decode cX0_becomes 99 = .ok (.getfield 43, 3) := by decide +kernel
theorem dX0_becomes_102 : decode cX0_becomes 102 = .ok (.aload_n 0, 1) := by decide +kernel
theorem dX0_becomes_103 : decode cX0_becomes 103 = .ok (.getfield 43, 3) := by decide +kernel
theorem dX0_becomes_106 : decode cX0_becomes 106 = .ok (.invokestatic 68, 3) := by decide +kernel
theorem dX0_becomes_109 : decode cX0_becomes 109 = .ok (.aload_n 1, 1) := by decide +kernel
theorem dX0_becomes_110 : decode cX0_becomes 110 = .ok (.getfield 46, 3) := by decide +kernel
theorem dX0_becomes_113 : decode cX0_becomes 113 = .ok (.aload_n 0, 1) := by decide +kernel
theorem dX0_becomes_114 : decode cX0_becomes 114 = .ok (.getfield 46, 3) := by decide +kernel
theorem dX0_becomes_117 : decode cX0_becomes 117 = .ok (.invokestatic 68, 3) := by decide +kernel
theorem dX0_becomes_120 : decode cX0_becomes 120 = .ok (.aload_n 1, 1) := by decide +kernel
theorem dX0_becomes_121 : decode cX0_becomes 121 = .ok (.getfield 49, 3) := by decide +kernel
theorem dX0_becomes_124 : decode cX0_becomes 124 = .ok (.aload_n 0, 1) := by decide +kernel
theorem dX0_becomes_125 : decode cX0_becomes 125 = .ok (.getfield 49, 3) := by decide +kernel
theorem dX0_becomes_128 : decode cX0_becomes 128 = .ok (.invokestatic 68, 3) := by decide +kernel
theorem dX0_becomes_131 : decode cX0_becomes 131 = .ok (.aload_n 1, 1) := by decide +kernel
theorem dX0_becomes_132 : decode cX0_becomes 132 = .ok (.getfield 52, 3) := by decide +kernel
theorem dX0_becomes_135 : decode cX0_becomes 135 = .ok (.aload_n 0, 1) := by decide +kernel
theorem dX0_becomes_136 : decode cX0_becomes 136 = .ok (.getfield 52, 3) := by decide +kernel
theorem dX0_becomes_139 : decode cX0_becomes 139 = .ok (.invokestatic 68, 3) := by decide +kernel
theorem dX0_becomes_142 : decode cX0_becomes 142 = .ok (.aload_n 1, 1) := by decide +kernel
theorem dX0_becomes_143 : decode cX0_becomes 143 = .ok (.getfield 55, 3) := by decide +kernel
theorem dX0_becomes_146 : decode cX0_becomes 146 = .ok (.aload_n 0, 1) := by decide +kernel
theorem dX0_becomes_147 : decode cX0_becomes 147 = .ok (.getfield 55, 3) := by decide +kernel
theorem dX0_becomes_150 : decode cX0_becomes 150 = .ok (.invokestatic 68, 3) := by decide +kernel
theorem dX0_becomes_153 : decode cX0_becomes 153 = .ok (.aload_n 1, 1) := by decide +kernel
theorem dX0_becomes_154 : decode cX0_becomes 154 = .ok (.getfield 58, 3) := by decide +kernel
theorem dX0_becomes_157 : decode cX0_becomes 157 = .ok (.aload_n 0, 1) := by decide +kernel
theorem dX0_becomes_158 : decode cX0_becomes 158 = .ok (.getfield 58, 3) := by decide +kernel
theorem dX0_becomes_161 : decode cX0_becomes 161 = .ok (.invokestatic 68, 3) := by decide +kernel
theorem dX0_becomes_164 : decode cX0_becomes 164 = .ok (.aload_n 1, 1) := by decide +kernel
theorem dX0_becomes_165 : decode cX0_becomes 165 = .ok (.getfield 61, 3) := by decide +kernel
theorem dX0_becomes_168 : decode cX0_becomes 168 = .ok (.aload_n 0, 1) := by decide +kernel
theorem dX0_becomes_169 : decode cX0_becomes 169 = .ok (.getfield 61, 3) := by decide +kernel
theorem dX0_becomes_172 : decode cX0_becomes 172 = .ok (.invokestatic 68, 3) := by decide +kernel
theorem dX0_becomes_175 : decode cX0_becomes 175 = .ok (.return_, 1) := by decide +kernel
theorem dX0_addCase_0 : decode cX0_addCase 0 = .ok (.aload_n 0, 1) := by decide +kernel
theorem dX0_addCase_1 : decode cX0_addCase 1 = .ok (.getfield 9, 3) := by decide +kernel
theorem dX0_addCase_4 : decode cX0_addCase 4 = .ok (.iconst 4, 1) := by decide +kernel
theorem dX0_addCase_5 : decode cX0_addCase 5 = .ok (.if_icmp .ge 55, 3) := by decide +kernel
theorem dX0_addCase_8 : decode cX0_addCase 8 = .ok (.aload_n 0, 1) := by decide +kernel
theorem dX0_addCase_9 : decode cX0_addCase 9 = .ok (.getfield 34, 3) := by decide +kernel
theorem dX0_addCase_12 : decode cX0_addCase 12 = .ok (.aload_n 0, 1) := by decide +kernel
theorem dX0_addCase_13 : decode cX0_addCase 13 = .ok (.getfield 9, 3) := by decide +kernel
theorem dX0_addCase_16 : decode cX0_addCase 16 = .ok (.iconst 0, 1) := by decide +kernel
theorem dX0_addCase_17 : decode cX0_addCase 17 = .ok (.iastore, 1) := by decide +kernel
theorem dX0_addCase_18 : decode cX0_addCase 18 = .ok (.aload_n 0, 1) := by decide +kernel
theorem dX0_addCase_19 : decode cX0_addCase 19 = .ok (.getfield 37, 3) := by decide +kernel
theorem dX0_addCase_22 : decode cX0_addCase 22 = .ok (.aload_n 0, 1) := by decide +kernel
theorem dX0_addCase_23 : decode cX0_addCase 23 = .ok (.getfield 9, 3) := by decide +kernel
theorem dX0_addCase_26 : decode cX0_addCase 26 = .ok (.iconst 0, 1) := by decide +kernel
theorem dX0_addCase_27 : decode cX0_addCase 27 = .ok (.iastore, 1) := by decide +kernel
theorem dX0_addCase_28 : decode cX0_addCase 28 = .ok (.aload_n 0, 1) := by decide +kernel
theorem dX0_addCase_29 : decode cX0_addCase 29 = .ok (.getfield 40, 3) := by decide +kernel
theorem dX0_addCase_32 : decode cX0_addCase 32 = .ok (.aload_n 0, 1) := by decide +kernel
theorem dX0_addCase_33 : decode cX0_addCase 33 = .ok (.getfield 9, 3) := by decide +kernel
theorem dX0_addCase_36 : decode cX0_addCase 36 = .ok (.bipush (-4), 2) := by decide +kernel
theorem dX0_addCase_38 : decode cX0_addCase 38 = .ok (.iastore, 1) := by decide +kernel
theorem dX0_addCase_39 : decode cX0_addCase 39 = .ok (.aload_n 0, 1) := by decide +kernel
theorem dX0_addCase_40 : decode cX0_addCase 40 = .ok (.getfield 43, 3) := by decide +kernel
theorem dX0_addCase_43 : decode cX0_addCase 43 = .ok (.aload_n 0, 1) := by decide +kernel
theorem dX0_addCase_44 : decode cX0_addCase 44 = .ok (.getfield 9, 3) := by decide +kernel
theorem dX0_addCase_47 : decode cX0_addCase 47 = .ok (.bipush (-4), 2) := by decide +kernel
theorem dX0_addCase_49 : decode cX0_addCase 49 = .ok (.iastore, 1) := by decide +kernel
theorem dX0_addCase_50 : decode cX0_addCase 50 = .ok (.aload_n 0, 1) := by decide +kernel
theorem dX0_addCase_51 : decode cX0_addCase 51 = .ok (.dup, 1) := by decide +kernel
theorem dX0_addCase_52 : decode cX0_addCase 52 = .ok (.getfield 9, 3) := by decide +kernel
theorem dX0_addCase_55 : decode cX0_addCase 55 = .ok (.iconst 1, 1) := by decide +kernel
theorem dX0_addCase_56 : decode cX0_addCase 56 = .ok (.iadd, 1) := by decide +kernel
theorem dX0_addCase_57 : decode cX0_addCase 57 = .ok (.putfield 9, 3) := by decide +kernel
theorem dX0_addCase_60 : decode cX0_addCase 60 = .ok (.return_, 1) := by decide +kernel
theorem dX0_addJudge_0 : decode cX0_addJudge 0 = .ok (.aload_n 0, 1) := by decide +kernel
theorem dX0_addJudge_1 : decode cX0_addJudge 1 = .ok (.getfield 15, 3) := by decide +kernel
theorem dX0_addJudge_4 : decode cX0_addJudge 4 = .ok (.iconst 3, 1) := by decide +kernel
theorem dX0_addJudge_5 : decode cX0_addJudge 5 = .ok (.if_icmp .lt 5, 3) := by decide +kernel
theorem dX0_addJudge_8 : decode cX0_addJudge 8 = .ok (.iconst 0, 1) := by decide +kernel
theorem dX0_addJudge_9 : decode cX0_addJudge 9 = .ok (.ireturn, 1) := by decide +kernel
theorem dX0_addJudge_10 : decode cX0_addJudge 10 = .ok (.aload_n 0, 1) := by decide +kernel
theorem dX0_addJudge_11 : decode cX0_addJudge 11 = .ok (.getfield 46, 3) := by decide +kernel
theorem dX0_addJudge_14 : decode cX0_addJudge 14 = .ok (.aload_n 0, 1) := by decide +kernel
theorem dX0_addJudge_15 : decode cX0_addJudge 15 = .ok (.getfield 15, 3) := by decide +kernel
theorem dX0_addJudge_18 : decode cX0_addJudge 18 = .ok (.iload_n 1, 1) := by decide +kernel
theorem dX0_addJudge_19 : decode cX0_addJudge 19 = .ok (.iastore, 1) := by decide +kernel
theorem dX0_addJudge_20 : decode cX0_addJudge 20 = .ok (.aload_n 0, 1) := by decide +kernel
theorem dX0_addJudge_21 : decode cX0_addJudge 21 = .ok (.getfield 49, 3) := by decide +kernel
theorem dX0_addJudge_24 : decode cX0_addJudge 24 = .ok (.aload_n 0, 1) := by decide +kernel
theorem dX0_addJudge_25 : decode cX0_addJudge 25 = .ok (.getfield 15, 3) := by decide +kernel
theorem dX0_addJudge_28 : decode cX0_addJudge 28 = .ok (.iload_n 2, 1) := by decide +kernel
theorem dX0_addJudge_29 : decode cX0_addJudge 29 = .ok (.iastore, 1) := by decide +kernel
theorem dX0_addJudge_30 : decode cX0_addJudge 30 = .ok (.aload_n 0, 1) := by decide +kernel
theorem dX0_addJudge_31 : decode cX0_addJudge 31 = .ok (.dup, 1) := by decide +kernel
theorem dX0_addJudge_32 : decode cX0_addJudge 32 = .ok (.getfield 15, 3) := by decide +kernel
theorem dX0_addJudge_35 : decode cX0_addJudge 35 = .ok (.iconst 1, 1) := by decide +kernel
theorem dX0_addJudge_36 : decode cX0_addJudge 36 = .ok (.iadd, 1) := by decide +kernel
theorem dX0_addJudge_37 : decode cX0_addJudge 37 = .ok (.putfield 15, 3) := by decide +kernel
theorem dX0_addJudge_40 : decode cX0_addJudge 40 = .ok (.iconst 1, 1) := by decide +kernel
theorem dX0_addJudge_41 : decode cX0_addJudge 41 = .ok (.ireturn, 1) := by decide +kernel
theorem dX0_addDraught_0 : decode cX0_addDraught 0 = .ok (.aload_n 0, 1) := by decide +kernel
theorem dX0_addDraught_1 : decode cX0_addDraught 1 = .ok (.getfield 18, 3) := by decide +kernel
theorem dX0_addDraught_4 : decode cX0_addDraught 4 = .ok (.iconst 4, 1) := by decide +kernel
theorem dX0_addDraught_5 : decode cX0_addDraught 5 = .ok (.if_icmp .lt 5, 3) := by decide +kernel
theorem dX0_addDraught_8 : decode cX0_addDraught 8 = .ok (.iconst 0, 1) := by decide +kernel
theorem dX0_addDraught_9 : decode cX0_addDraught 9 = .ok (.ireturn, 1) := by decide +kernel
theorem dX0_addDraught_10 : decode cX0_addDraught 10 = .ok (.aload_n 0, 1) := by decide +kernel
theorem dX0_addDraught_11 : decode cX0_addDraught 11 = .ok (.getfield 52, 3) := by decide +kernel
theorem dX0_addDraught_14 : decode cX0_addDraught 14 = .ok (.aload_n 0, 1) := by decide +kernel
theorem dX0_addDraught_15 : decode cX0_addDraught 15 = .ok (.getfield 18, 3) := by decide +kernel
theorem dX0_addDraught_18 : decode cX0_addDraught 18 = .ok (.iload_n 1, 1) := by decide +kernel
theorem dX0_addDraught_19 : decode cX0_addDraught 19 = .ok (.iastore, 1) := by decide +kernel
theorem dX0_addDraught_20 : decode cX0_addDraught 20 = .ok (.aload_n 0, 1) := by decide +kernel
theorem dX0_addDraught_21 : decode cX0_addDraught 21 = .ok (.getfield 55, 3) := by decide +kernel
theorem dX0_addDraught_24 : decode cX0_addDraught 24 = .ok (.aload_n 0, 1) := by decide +kernel
theorem dX0_addDraught_25 : decode cX0_addDraught 25 = .ok (.getfield 18, 3) := by decide +kernel
theorem dX0_addDraught_28 : decode cX0_addDraught 28 = .ok (.iload_n 2, 1) := by decide +kernel
theorem dX0_addDraught_29 : decode cX0_addDraught 29 = .ok (.iastore, 1) := by decide +kernel
theorem dX0_addDraught_30 : decode cX0_addDraught 30 = .ok (.aload_n 0, 1) := by decide +kernel
theorem dX0_addDraught_31 : decode cX0_addDraught 31 = .ok (.dup, 1) := by decide +kernel
theorem dX0_addDraught_32 : decode cX0_addDraught 32 = .ok (.getfield 18, 3) := by decide +kernel
theorem dX0_addDraught_35 : decode cX0_addDraught 35 = .ok (.iconst 1, 1) := by decide +kernel
theorem dX0_addDraught_36 : decode cX0_addDraught 36 = .ok (.iadd, 1) := by decide +kernel
theorem dX0_addDraught_37 : decode cX0_addDraught 37 = .ok (.putfield 18, 3) := by decide +kernel
theorem dX0_addDraught_40 : decode cX0_addDraught 40 = .ok (.iconst 1, 1) := by decide +kernel
theorem dX0_addDraught_41 : decode cX0_addDraught 41 = .ok (.ireturn, 1) := by decide +kernel
theorem dX0_addHearing_0 : decode cX0_addHearing 0 = .ok (.aload_n 0, 1) := by decide +kernel
theorem dX0_addHearing_1 : decode cX0_addHearing 1 = .ok (.getfield 21, 3) := by decide +kernel
theorem dX0_addHearing_4 : decode cX0_addHearing 4 = .ok (.bipush 6, 2) := by decide +kernel
theorem dX0_addHearing_6 : decode cX0_addHearing 6 = .ok (.if_icmp .lt 5, 3) := by decide +kernel
theorem dX0_addHearing_9 : decode cX0_addHearing 9 = .ok (.iconst 0, 1) := by decide +kernel
theorem dX0_addHearing_10 : decode cX0_addHearing 10 = .ok (.ireturn, 1) := by decide +kernel
theorem dX0_addHearing_11 : decode cX0_addHearing 11 = .ok (.aload_n 0, 1) := by decide +kernel
theorem dX0_addHearing_12 : decode cX0_addHearing 12 = .ok (.getfield 58, 3) := by decide +kernel
theorem dX0_addHearing_15 : decode cX0_addHearing 15 = .ok (.aload_n 0, 1) := by decide +kernel
theorem dX0_addHearing_16 : decode cX0_addHearing 16 = .ok (.getfield 21, 3) := by decide +kernel
theorem dX0_addHearing_19 : decode cX0_addHearing 19 = .ok (.iload_n 1, 1) := by decide +kernel
theorem dX0_addHearing_20 : decode cX0_addHearing 20 = .ok (.iastore, 1) := by decide +kernel
theorem dX0_addHearing_21 : decode cX0_addHearing 21 = .ok (.aload_n 0, 1) := by decide +kernel
theorem dX0_addHearing_22 : decode cX0_addHearing 22 = .ok (.getfield 61, 3) := by decide +kernel
theorem dX0_addHearing_25 : decode cX0_addHearing 25 = .ok (.aload_n 0, 1) := by decide +kernel
theorem dX0_addHearing_26 : decode cX0_addHearing 26 = .ok (.getfield 21, 3) := by decide +kernel
theorem dX0_addHearing_29 : decode cX0_addHearing 29 = .ok (.iload_n 2, 1) := by decide +kernel
theorem dX0_addHearing_30 : decode cX0_addHearing 30 = .ok (.iastore, 1) := by decide +kernel
theorem dX0_addHearing_31 : decode cX0_addHearing 31 = .ok (.aload_n 0, 1) := by decide +kernel
theorem dX0_addHearing_32 : decode cX0_addHearing 32 = .ok (.dup, 1) := by decide +kernel
theorem dX0_addHearing_33 : decode cX0_addHearing 33 = .ok (.getfield 21, 3) := by decide +kernel
theorem dX0_addHearing_36 : decode cX0_addHearing 36 = .ok (.iconst 1, 1) := by decide +kernel
theorem dX0_addHearing_37 : decode cX0_addHearing 37 = .ok (.iadd, 1) := by decide +kernel
theorem dX0_addHearing_38 : decode cX0_addHearing 38 = .ok (.putfield 21, 3) := by decide +kernel
theorem dX0_addHearing_41 : decode cX0_addHearing 41 = .ok (.iconst 1, 1) := by decide +kernel
theorem dX0_addHearing_42 : decode cX0_addHearing 42 = .ok (.ireturn, 1) := by decide +kernel
theorem dX0_changeDocketJudges_0 : decode cX0_changeDocketJudges 0 = .ok (.aload_n 0, 1) := by decide +kernel
theorem dX0_changeDocketJudges_1 : decode cX0_changeDocketJudges 1 = .ok (.getfield 61, 3) := by decide +kernel
theorem dX0_changeDocketJudges_4 : decode cX0_changeDocketJudges 4 = .ok (.iload_n 1, 1) := by decide +kernel
theorem dX0_changeDocketJudges_5 : decode cX0_changeDocketJudges 5 = .ok (.iaload, 1) := by decide +kernel
theorem dX0_changeDocketJudges_6 : decode cX0_changeDocketJudges 6 = .ok (.istore_n 3, 1) := by decide +kernel
theorem dX0_changeDocketJudges_7 : decode cX0_changeDocketJudges 7 = .ok (.aload_n 0, 1) := by decide +kernel
theorem dX0_changeDocketJudges_8 : decode cX0_changeDocketJudges 8 = .ok (.getfield 61, 3) := by decide +kernel
theorem dX0_changeDocketJudges_11 : decode cX0_changeDocketJudges 11 = .ok (.iload_n 1, 1) := by decide +kernel
theorem dX0_changeDocketJudges_12 : decode cX0_changeDocketJudges 12 = .ok (.aload_n 0, 1) := by decide +kernel
theorem dX0_changeDocketJudges_13 : decode cX0_changeDocketJudges 13 = .ok (.getfield 61, 3) := by decide +kernel
theorem dX0_changeDocketJudges_16 : decode cX0_changeDocketJudges 16 = .ok (.iload_n 2, 1) := by decide +kernel
theorem dX0_changeDocketJudges_17 : decode cX0_changeDocketJudges 17 = .ok (.iaload, 1) := by decide +kernel
theorem dX0_changeDocketJudges_18 : decode cX0_changeDocketJudges 18 = .ok (.iastore, 1) := by decide +kernel
theorem dX0_changeDocketJudges_19 : decode cX0_changeDocketJudges 19 = .ok (.aload_n 0, 1) := by decide +kernel
theorem dX0_changeDocketJudges_20 : decode cX0_changeDocketJudges 20 = .ok (.getfield 61, 3) := by decide +kernel
theorem dX0_changeDocketJudges_23 : decode cX0_changeDocketJudges 23 = .ok (.iload_n 2, 1) := by decide +kernel
theorem dX0_changeDocketJudges_24 : decode cX0_changeDocketJudges 24 = .ok (.iload_n 3, 1) := by decide +kernel
theorem dX0_changeDocketJudges_25 : decode cX0_changeDocketJudges 25 = .ok (.iastore, 1) := by decide +kernel
theorem dX0_changeDocketJudges_26 : decode cX0_changeDocketJudges 26 = .ok (.return_, 1) := by decide +kernel
theorem dX0_sumOf_0 : decode cX0_sumOf 0 = .ok (.iconst 0, 1) := by decide +kernel
theorem dX0_sumOf_1 : decode cX0_sumOf 1 = .ok (.istore_n 2, 1) := by decide +kernel
theorem dX0_sumOf_2 : decode cX0_sumOf 2 = .ok (.iconst 0, 1) := by decide +kernel
theorem dX0_sumOf_3 : decode cX0_sumOf 3 = .ok (.istore_n 3, 1) := by decide +kernel
theorem dX0_sumOf_4 : decode cX0_sumOf 4 = .ok (.iload_n 3, 1) := by decide +kernel
theorem dX0_sumOf_5 : decode cX0_sumOf 5 = .ok (.iconst 2, 1) := by decide +kernel
theorem dX0_sumOf_6 : decode cX0_sumOf 6 = .ok (.aload_n 0, 1) := by decide +kernel
theorem dX0_sumOf_7 : decode cX0_sumOf 7 = .ok (.getfield 9, 3) := by decide +kernel
theorem dX0_sumOf_10 : decode cX0_sumOf 10 = .ok (.imul, 1) := by decide +kernel
theorem dX0_sumOf_11 : decode cX0_sumOf 11 = .ok (.if_icmp .ge 21, 3) := by decide +kernel
theorem dX0_sumOf_14 : decode cX0_sumOf 14 = .ok (.iload_n 3, 1) := by decide +kernel
theorem dX0_sumOf_15 : decode cX0_sumOf 15 = .ok (.aload_n 1, 1) := by decide +kernel
theorem dX0_sumOf_16 : decode cX0_sumOf 16 = .ok (.arraylength, 1) := by decide +kernel
theorem dX0_sumOf_17 : decode cX0_sumOf 17 = .ok (.if_icmp .ge 15, 3) := by decide +kernel
theorem dX0_sumOf_20 : decode cX0_sumOf 20 = .ok (.iload_n 2, 1) := by decide +kernel
theorem dX0_sumOf_21 : decode cX0_sumOf 21 = .ok (.aload_n 1, 1) := by decide +kernel
theorem dX0_sumOf_22 : decode cX0_sumOf 22 = .ok (.iload_n 3, 1) := by decide +kernel
theorem dX0_sumOf_23 : decode cX0_sumOf 23 = .ok (.iaload, 1) := by decide +kernel
theorem dX0_sumOf_24 : decode cX0_sumOf 24 = .ok (.iadd, 1) := by decide +kernel
theorem dX0_sumOf_25 : decode cX0_sumOf 25 = .ok (.istore_n 2, 1) := by decide +kernel
theorem dX0_sumOf_26 : decode cX0_sumOf 26 = .ok (.iinc 3 1, 3) := by decide +kernel
theorem dX0_sumOf_29 : decode cX0_sumOf 29 = .ok (.goto (-25), 3) := by decide +kernel
theorem dX0_sumOf_32 : decode cX0_sumOf 32 = .ok (.iload_n 2, 1) := by decide +kernel
theorem dX0_sumOf_33 : decode cX0_sumOf 33 = .ok (.ireturn, 1) := by decide +kernel
theorem dX1_init_0 : decode cX1_init 0 = .ok (.aload_n 0, 1) := by decide +kernel
theorem dX1_init_1 : decode cX1_init 1 = .ok (.invokespecial 3, 3) := by decide +kernel
theorem dX1_init_4 : decode cX1_init 4 = .ok (.aload_n 0, 1) := by decide +kernel
theorem dX1_init_5 : decode cX1_init 5 = .ok (.bipush 6, 2) := by decide +kernel
theorem dX1_init_7 : decode cX1_init 7 = .ok (.newarray .int, 2) := by decide +kernel
theorem dX1_init_9 : decode cX1_init 9 = .ok (.putfield 9, 3) := by decide +kernel
theorem dX1_init_12 : decode cX1_init 12 = .ok (.aload_n 0, 1) := by decide +kernel
theorem dX1_init_13 : decode cX1_init 13 = .ok (.bipush 6, 2) := by decide +kernel
theorem dX1_init_15 : decode cX1_init 15 = .ok (.newarray .int, 2) := by decide +kernel
theorem dX1_init_17 : decode cX1_init 17 = .ok (.putfield 15, 3) := by decide +kernel
theorem dX1_init_20 : decode cX1_init 20 = .ok (.aload_n 0, 1) := by decide +kernel
theorem dX1_init_21 : decode cX1_init 21 = .ok (.bipush 6, 2) := by decide +kernel
theorem dX1_init_23 : decode cX1_init 23 = .ok (.newarray .int, 2) := by decide +kernel
theorem dX1_init_25 : decode cX1_init 25 = .ok (.putfield 18, 3) := by decide +kernel
theorem dX1_init_28 : decode cX1_init 28 = .ok (.aload_n 0, 1) := by decide +kernel
theorem dX1_init_29 : decode cX1_init 29 = .ok (.iconst 0, 1) := by decide +kernel
theorem dX1_init_30 : decode cX1_init 30 = .ok (.putfield 21, 3) := by decide +kernel
theorem dX1_init_33 : decode cX1_init 33 = .ok (.return_, 1) := by decide +kernel
theorem dX1_add_0 : decode cX1_add 0 = .ok (.aload_n 0, 1) := by decide +kernel
theorem dX1_add_1 : decode cX1_add 1 = .ok (.getfield 21, 3) := by decide +kernel
theorem dX1_add_4 : decode cX1_add 4 = .ok (.bipush 6, 2) := by decide +kernel
theorem dX1_add_6 : decode cX1_add 6 = .ok (.if_icmp .lt 5, 3) := by decide +kernel
theorem dX1_add_9 : decode cX1_add 9 = .ok (.iconst 0, 1) := by decide +kernel
theorem dX1_add_10 : decode cX1_add 10 = .ok (.ireturn, 1) := by decide +kernel
theorem dX1_add_11 : decode cX1_add 11 = .ok (.aload_n 0, 1) := by decide +kernel
theorem dX1_add_12 : decode cX1_add 12 = .ok (.getfield 9, 3) := by decide +kernel
theorem dX1_add_15 : decode cX1_add 15 = .ok (.aload_n 0, 1) := by decide +kernel
theorem dX1_add_16 : decode cX1_add 16 = .ok (.getfield 21, 3) := by decide +kernel
theorem dX1_add_19 : decode cX1_add 19 = .ok (.iload_n 1, 1) := by decide +kernel
theorem dX1_add_20 : decode cX1_add 20 = .ok (.iastore, 1) := by decide +kernel
theorem dX1_add_21 : decode cX1_add 21 = .ok (.aload_n 0, 1) := by decide +kernel
theorem dX1_add_22 : decode cX1_add 22 = .ok (.getfield 15, 3) := by decide +kernel
theorem dX1_add_25 : decode cX1_add 25 = .ok (.aload_n 0, 1) := by decide +kernel
theorem dX1_add_26 : decode cX1_add 26 = .ok (.getfield 21, 3) := by decide +kernel
theorem dX1_add_29 : decode cX1_add 29 = .ok (.iload_n 2, 1) := by decide +kernel
theorem dX1_add_30 : decode cX1_add 30 = .ok (.iastore, 1) := by decide +kernel
theorem dX1_add_31 : decode cX1_add 31 = .ok (.aload_n 0, 1) := by decide +kernel
theorem dX1_add_32 : decode cX1_add 32 = .ok (.getfield 18, 3) := by decide +kernel
theorem dX1_add_35 : decode cX1_add 35 = .ok (.aload_n 0, 1) := by decide +kernel
theorem dX1_add_36 : decode cX1_add 36 = .ok (.getfield 21, 3) := by decide +kernel
theorem dX1_add_39 : decode cX1_add 39 = .ok (.iload_n 3, 1) := by decide +kernel
theorem dX1_add_40 : decode cX1_add 40 = .ok (.iastore, 1) := by decide +kernel
theorem dX1_add_41 : decode cX1_add 41 = .ok (.aload_n 0, 1) := by decide +kernel
theorem dX1_add_42 : decode cX1_add 42 = .ok (.dup, 1) := by decide +kernel
theorem dX1_add_43 : decode cX1_add 43 = .ok (.getfield 21, 3) := by decide +kernel
theorem dX1_add_46 : decode cX1_add 46 = .ok (.iconst 1, 1) := by decide +kernel
theorem dX1_add_47 : decode cX1_add 47 = .ok (.iadd, 1) := by decide +kernel
theorem dX1_add_48 : decode cX1_add 48 = .ok (.putfield 21, 3) := by decide +kernel
theorem dX1_add_51 : decode cX1_add 51 = .ok (.iconst 1, 1) := by decide +kernel
theorem dX1_add_52 : decode cX1_add 52 = .ok (.ireturn, 1) := by decide +kernel
set_option maxRecDepth 20000 in
theorem ggX1_fits_X5_prepare : GoodIn wsX1_fits wsX5_prepare := goodIn_r _ [11, 12, 13, 14, 15, 16, 17, 18, 19, 20, 21, 22, 23, 24, 25, 26, 27, 28, 10, 29, 30, 31, 32, 33, 51, 52, 53, 54, 55, 56, 57, 58, 59, 60, 61, 62, 63, 64, 65, 66, 67, 68, 69, 70, 71, 72, 73, 74] (by decide +kernel) (by decide +kernel)
set_option maxRecDepth 20000 in
theorem gX1_fits_X5_prepare : GoodIn wsX1_fits (wsV RX1 25 RX5 yX5_prepare wsX5_prepare) := goodIn_app (goodIn_of _ (by decide +kernel)) ggX1_fits_X5_prepare
set_option maxRecDepth 20000 in
theorem ggX1_fits_X5_verdictHeld : GoodIn wsX1_fits wsX5_verdictHeld := goodIn_r _ [37, 38, 21, 14, 12, 30, 31, 32, 33, 39, 40, 41, 10, 42, 16, 22, 43, 44, 45, 46, 19, 51, 52, 53, 54, 55, 56, 57] (by decide +kernel) (by decide +kernel)
set_option maxRecDepth 20000 in
theorem gX1_fits_X5_verdictHeld : GoodIn wsX1_fits (wsV RX1 37 RX5 yX5_verdictHeld wsX5_verdictHeld) := goodIn_app (goodIn_of _ (by decide +kernel)) ggX1_fits_X5_verdictHeld
theorem dX1_fits_0 : decode cX1_fits 0 = .ok (.iconst 0, 1) := by decide +kernel
theorem dX1_fits_1 : decode cX1_fits 1 = .ok (.istore 6, 2) := by decide +kernel
theorem dX1_fits_3 : decode cX1_fits 3 = .ok (.iload 6, 2) := by decide +kernel
theorem dX1_fits_5 : decode cX1_fits 5 = .ok (.aload_n 0, 1) := by decide +kernel
theorem dX1_fits_6 : decode cX1_fits 6 = .ok (.getfield 21, 3) := by decide +kernel
theorem dX1_fits_9 : decode cX1_fits 9 = .ok (.if_icmp .ge 68, 3) := by decide +kernel
theorem dX1_fits_12 : decode cX1_fits 12 = .ok (.aload_n 2, 1) := by decide +kernel
theorem dX1_fits_13 : decode cX1_fits 13 = .ok (.aload_n 1, 1) := by decide +kernel
theorem dX1_fits_14 : decode cX1_fits 14 = .ok (.aload_n 0, 1) := by decide +kernel
theorem dX1_fits_15 : decode cX1_fits 15 = .ok (.getfield 9, 3) := by decide +kernel
theorem dX1_fits_18 : decode cX1_fits 18 = .ok (.iload 6, 2) := by decide +kernel
theorem dX1_fits_20 : decode cX1_fits 20 = .ok (.iaload, 1) := by decide +kernel
theorem dX1_fits_21 : decode cX1_fits 21 = .ok (.aload_n 0, 1) := by decide +kernel
theorem dX1_fits_22 : decode cX1_fits 22 = .ok (.getfield 15, 3) := by decide +kernel
theorem dX1_fits_25 : decode cX1_fits 25 = .ok (.iload 6, 2) := by decide +kernel
theorem dX1_fits_27 : decode cX1_fits 27 = .ok (.iaload, 1) := by decide +kernel
theorem dX1_fits_28 : decode cX1_fits 28 = .ok (.iconst 0, 1) := by decide +kernel
theorem dX1_fits_29 : decode cX1_fits 29 = .ok (.invokevirtual 25, 3) := by decide +kernel
theorem dX1_fits_32 : decode cX1_fits 32 = .ok (.aload_n 0, 1) := by decide +kernel
theorem dX1_fits_33 : decode cX1_fits 33 = .ok (.getfield 15, 3) := by decide +kernel
theorem dX1_fits_36 : decode cX1_fits 36 = .ok (.iload 6, 2) := by decide +kernel
theorem dX1_fits_38 : decode cX1_fits 38 = .ok (.iaload, 1) := by decide +kernel
theorem dX1_fits_39 : decode cX1_fits 39 = .ok (.iload_n 3, 1) := by decide +kernel
theorem dX1_fits_40 : decode cX1_fits 40 = .ok (.if_icmp .ne 15, 3) := by decide +kernel
theorem dX1_fits_43 : decode cX1_fits 43 = .ok (.aload_n 2, 1) := by decide +kernel
theorem dX1_fits_44 : decode cX1_fits 44 = .ok (.iload 4, 2) := by decide +kernel
theorem dX1_fits_46 : decode cX1_fits 46 = .ok (.putfield 31, 3) := by decide +kernel
theorem dX1_fits_49 : decode cX1_fits 49 = .ok (.aload_n 2, 1) := by decide +kernel
theorem dX1_fits_50 : decode cX1_fits 50 = .ok (.iload 5, 2) := by decide +kernel
theorem dX1_fits_52 : decode cX1_fits 52 = .ok (.putfield 34, 3) := by decide +kernel
theorem dX1_fits_55 : decode cX1_fits 55 = .ok (.aload_n 2, 1) := by decide +kernel
theorem dX1_fits_56 : decode cX1_fits 56 = .ok (.invokevirtual 37, 3) := by decide +kernel
theorem dX1_fits_59 : decode cX1_fits 59 = .ok (.aload_n 0, 1) := by decide +kernel
theorem dX1_fits_60 : decode cX1_fits 60 = .ok (.getfield 18, 3) := by decide +kernel
theorem dX1_fits_63 : decode cX1_fits 63 = .ok (.iload 6, 2) := by decide +kernel
theorem dX1_fits_65 : decode cX1_fits 65 = .ok (.iaload, 1) := by decide +kernel
theorem dX1_fits_66 : decode cX1_fits 66 = .ok (.if_icmp .eq 5, 3) := by decide +kernel
theorem dX1_fits_69 : decode cX1_fits 69 = .ok (.iconst 0, 1) := by decide +kernel
theorem dX1_fits_70 : decode cX1_fits 70 = .ok (.ireturn, 1) := by decide +kernel
theorem dX1_fits_71 : decode cX1_fits 71 = .ok (.iinc 6 1, 3) := by decide +kernel
theorem dX1_fits_74 : decode cX1_fits 74 = .ok (.goto (-71), 3) := by decide +kernel
theorem dX1_fits_77 : decode cX1_fits 77 = .ok (.iconst 1, 1) := by decide +kernel
theorem dX1_fits_78 : decode cX1_fits 78 = .ok (.ireturn, 1) := by decide +kernel
set_option maxRecDepth 20000 in
theorem ggX2_init_X0_init : GoodIn wsX2_init wsX0_init := goodIn_r _ [18, 19, 2, 3, 20, 21, 22, 23, 4, 24, 25, 26, 27, 28, 29, 30, 31, 32, 33, 34, 35, 36, 46, 47, 48, 49, 50, 51, 52, 53, 54, 55, 56, 57, 58, 59, 60, 61, 62] (by decide +kernel) (by decide +kernel)
set_option maxRecDepth 20000 in
theorem gX2_init_X0_init_n17 : GoodIn wsX2_init (wsX0_init) := ggX2_init_X0_init
theorem dX2_init_0 : decode cX2_init 0 = .ok (.aload_n 0, 1) := by decide +kernel
theorem dX2_init_1 : decode cX2_init 1 = .ok (.invokespecial 3, 3) := by decide +kernel
theorem dX2_init_4 : decode cX2_init 4 = .ok (.aload_n 0, 1) := by decide +kernel
theorem dX2_init_5 : decode cX2_init 5 = .ok (.sipush 160, 3) := by decide +kernel
theorem dX2_init_8 : decode cX2_init 8 = .ok (.newarray .int, 2) := by decide +kernel
theorem dX2_init_10 : decode cX2_init 10 = .ok (.putfield 9, 3) := by decide +kernel
theorem dX2_init_13 : decode cX2_init 13 = .ok (.aload_n 0, 1) := by decide +kernel
theorem dX2_init_14 : decode cX2_init 14 = .ok (.new 15, 3) := by decide +kernel
theorem dX2_init_17 : decode cX2_init 17 = .ok (.dup, 1) := by decide +kernel
theorem dX2_init_18 : decode cX2_init 18 = .ok (.invokespecial 17, 3) := by decide +kernel
theorem dX2_init_21 : decode cX2_init 21 = .ok (.putfield 18, 3) := by decide +kernel
theorem dX2_init_24 : decode cX2_init 24 = .ok (.aload_n 0, 1) := by decide +kernel
theorem dX2_init_25 : decode cX2_init 25 = .ok (.iconst 0, 1) := by decide +kernel
theorem dX2_init_26 : decode cX2_init 26 = .ok (.putfield 22, 3) := by decide +kernel
theorem dX2_init_29 : decode cX2_init 29 = .ok (.aload_n 0, 1) := by decide +kernel
theorem dX2_init_30 : decode cX2_init 30 = .ok (.iconst 0, 1) := by decide +kernel
theorem dX2_init_31 : decode cX2_init 31 = .ok (.putfield 26, 3) := by decide +kernel
theorem dX2_init_34 : decode cX2_init 34 = .ok (.aload_n 0, 1) := by decide +kernel
theorem dX2_init_35 : decode cX2_init 35 = .ok (.iconst 0, 1) := by decide +kernel
theorem dX2_init_36 : decode cX2_init 36 = .ok (.putfield 29, 3) := by decide +kernel
theorem dX2_init_39 : decode cX2_init 39 = .ok (.aload_n 0, 1) := by decide +kernel
theorem dX2_init_40 : decode cX2_init 40 = .ok (.iconst 0, 1) := by decide +kernel
theorem dX2_init_41 : decode cX2_init 41 = .ok (.putfield 33, 3) := by decide +kernel
theorem dX2_init_44 : decode cX2_init 44 = .ok (.aload_n 0, 1) := by decide +kernel
theorem dX2_init_45 : decode cX2_init 45 = .ok (.iconst 0, 1) := by decide +kernel
theorem dX2_init_46 : decode cX2_init 46 = .ok (.putfield 36, 3) := by decide +kernel
theorem dX2_init_49 : decode cX2_init 49 = .ok (.aload_n 0, 1) := by decide +kernel
theorem dX2_init_50 : decode cX2_init 50 = .ok (.iconst 0, 1) := by decide +kernel
theorem dX2_init_51 : decode cX2_init 51 = .ok (.putfield 39, 3) := by decide +kernel
theorem dX2_init_54 : decode cX2_init 54 = .ok (.aload_n 0, 1) := by decide +kernel
theorem dX2_init_55 : decode cX2_init 55 = .ok (.iconst 0, 1) := by decide +kernel
theorem dX2_init_56 : decode cX2_init 56 = .ok (.putfield 42, 3) := by decide +kernel
theorem dX2_init_59 : decode cX2_init 59 = .ok (.return_, 1) := by decide +kernel
theorem dX2_add_0 : decode cX2_add 0 = .ok (.aload_n 0, 1) := by decide +kernel
theorem dX2_add_1 : decode cX2_add 1 = .ok (.getfield 22, 3) := by decide +kernel
theorem dX2_add_4 : decode cX2_add 4 = .ok (.sipush 160, 3) := by decide +kernel
theorem dX2_add_7 : decode cX2_add 7 = .ok (.if_icmp .lt 5, 3) := by decide +kernel
theorem dX2_add_10 : decode cX2_add 10 = .ok (.iconst 0, 1) := by decide +kernel
theorem dX2_add_11 : decode cX2_add 11 = .ok (.ireturn, 1) := by decide +kernel
theorem dX2_add_12 : decode cX2_add 12 = .ok (.aload_n 0, 1) := by decide +kernel
theorem dX2_add_13 : decode cX2_add 13 = .ok (.getfield 9, 3) := by decide +kernel
theorem dX2_add_16 : decode cX2_add 16 = .ok (.aload_n 0, 1) := by decide +kernel
theorem dX2_add_17 : decode cX2_add 17 = .ok (.getfield 22, 3) := by decide +kernel
theorem dX2_add_20 : decode cX2_add 20 = .ok (.iload_n 1, 1) := by decide +kernel
theorem dX2_add_21 : decode cX2_add 21 = .ok (.iastore, 1) := by decide +kernel
theorem dX2_add_22 : decode cX2_add 22 = .ok (.aload_n 0, 1) := by decide +kernel
theorem dX2_add_23 : decode cX2_add 23 = .ok (.dup, 1) := by decide +kernel
theorem dX2_add_24 : decode cX2_add 24 = .ok (.getfield 22, 3) := by decide +kernel
theorem dX2_add_27 : decode cX2_add 27 = .ok (.iconst 1, 1) := by decide +kernel
theorem dX2_add_28 : decode cX2_add 28 = .ok (.iadd, 1) := by decide +kernel
theorem dX2_add_29 : decode cX2_add 29 = .ok (.putfield 22, 3) := by decide +kernel
theorem dX2_add_32 : decode cX2_add 32 = .ok (.iconst 1, 1) := by decide +kernel
theorem dX2_add_33 : decode cX2_add 33 = .ok (.ireturn, 1) := by decide +kernel
set_option maxRecDepth 20000 in
theorem ggX2_begins_X0_clear : GoodIn wsX2_begins wsX0_clear := goodIn_r _ [9, 10, 11, 12, 13, 44, 45, 46, 47, 48, 49, 50, 51, 52, 53, 54, 55, 56, 57, 58, 59, 60] (by decide +kernel) (by decide +kernel)
set_option maxRecDepth 20000 in
theorem gX2_begins_X0_clear : GoodIn wsX2_begins (wsV RX2 45 RX0 yX0_clear wsX0_clear) := goodIn_app (goodIn_of _ (by decide +kernel)) ggX2_begins_X0_clear
set_option maxRecDepth 20000 in
theorem ggX2_begins_X2_readsNext : GoodIn wsX2_begins wsX2_readsNext := goodIn_r _ [18, 4, 19, 20, 21, 22, 23, 24, 25, 17, 26, 27, 28, 29, 30, 3, 31, 32, 33, 34, 35, 36, 37, 38, 39, 40, 41, 42, 43] (by decide +kernel) (by decide +kernel)
set_option maxRecDepth 20000 in
theorem gX2_begins_X2_readsNext : GoodIn wsX2_begins (wsV RX2 48 RX2 yX2_readsNext wsX2_readsNext) := goodIn_app (goodIn_of _ (by decide +kernel)) ggX2_begins_X2_readsNext
theorem dX2_begins_0 : decode cX2_begins 0 = .ok (.aload_n 0, 1) := by decide +kernel
theorem dX2_begins_1 : decode cX2_begins 1 = .ok (.getfield 18, 3) := by decide +kernel
theorem dX2_begins_4 : decode cX2_begins 4 = .ok (.invokevirtual 45, 3) := by decide +kernel
theorem dX2_begins_7 : decode cX2_begins 7 = .ok (.aload_n 0, 1) := by decide +kernel
theorem dX2_begins_8 : decode cX2_begins 8 = .ok (.iconst 0, 1) := by decide +kernel
theorem dX2_begins_9 : decode cX2_begins 9 = .ok (.putfield 29, 3) := by decide +kernel
theorem dX2_begins_12 : decode cX2_begins 12 = .ok (.aload_n 0, 1) := by decide +kernel
theorem dX2_begins_13 : decode cX2_begins 13 = .ok (.iconst 0, 1) := by decide +kernel
theorem dX2_begins_14 : decode cX2_begins 14 = .ok (.putfield 26, 3) := by decide +kernel
theorem dX2_begins_17 : decode cX2_begins 17 = .ok (.aload_n 0, 1) := by decide +kernel
theorem dX2_begins_18 : decode cX2_begins 18 = .ok (.iconst 0, 1) := by decide +kernel
theorem dX2_begins_19 : decode cX2_begins 19 = .ok (.putfield 39, 3) := by decide +kernel
theorem dX2_begins_22 : decode cX2_begins 22 = .ok (.aload_n 0, 1) := by decide +kernel
theorem dX2_begins_23 : decode cX2_begins 23 = .ok (.invokevirtual 48, 3) := by decide +kernel
theorem dX2_begins_26 : decode cX2_begins 26 = .ok (.ireturn, 1) := by decide +kernel
theorem dX2_isAtEnd_0 : decode cX2_isAtEnd 0 = .ok (.aload_n 0, 1) := by decide +kernel
theorem dX2_isAtEnd_1 : decode cX2_isAtEnd 1 = .ok (.getfield 33, 3) := by decide +kernel
theorem dX2_isAtEnd_4 : decode cX2_isAtEnd 4 = .ok (.ifCond .ne 7, 3) := by decide +kernel
theorem dX2_isAtEnd_7 : decode cX2_isAtEnd 7 = .ok (.iconst 1, 1) := by decide +kernel
theorem dX2_isAtEnd_8 : decode cX2_isAtEnd 8 = .ok (.goto 4, 3) := by decide +kernel
theorem dX2_isAtEnd_11 : decode cX2_isAtEnd 11 = .ok (.iconst 0, 1) := by decide +kernel
theorem dX2_isAtEnd_12 : decode cX2_isAtEnd 12 = .ok (.ireturn, 1) := by decide +kernel
theorem dX2_fails_0 : decode cX2_fails 0 = .ok (.aload_n 0, 1) := by decide +kernel
theorem dX2_fails_1 : decode cX2_fails 1 = .ok (.iload_n 1, 1) := by decide +kernel
theorem dX2_fails_2 : decode cX2_fails 2 = .ok (.putfield 26, 3) := by decide +kernel
theorem dX2_fails_5 : decode cX2_fails 5 = .ok (.iconst 0, 1) := by decide +kernel
theorem dX2_fails_6 : decode cX2_fails 6 = .ok (.ireturn, 1) := by decide +kernel
set_option maxRecDepth 20000 in
theorem ggX2_docketStands_X0_hasCase : GoodIn wsX2_docketStands wsX0_hasCase := goodIn_r _ [9, 10, 11, 12, 13, 34, 35, 36, 37, 38, 39, 40, 41, 42, 43, 44, 45, 46, 47, 48, 49, 50] (by decide +kernel) (by decide +kernel)
set_option maxRecDepth 20000 in
theorem gX2_docketStands_X0_hasCase : GoodIn wsX2_docketStands (wsV RX2 58 RX0 yX0_hasCase wsX0_hasCase) := goodIn_app (goodIn_of _ (by decide +kernel)) ggX2_docketStands_X0_hasCase
set_option maxRecDepth 20000 in
theorem ggX2_docketStands_X0_hasJudge : GoodIn wsX2_docketStands wsX0_hasJudge := goodIn_r _ [17, 18, 11, 12, 13, 34, 35, 36, 37, 38, 39, 40, 41, 42, 43, 44, 45, 46, 47, 48, 49, 50] (by decide +kernel) (by decide +kernel)
set_option maxRecDepth 20000 in
theorem gX2_docketStands_X0_hasJudge : GoodIn wsX2_docketStands (wsV RX2 65 RX0 yX0_hasJudge wsX0_hasJudge) := goodIn_app (goodIn_of _ (by decide +kernel)) ggX2_docketStands_X0_hasJudge
set_option maxRecDepth 20000 in
theorem ggX2_docketStands_X2_fails : GoodIn wsX2_docketStands wsX2_fails := goodIn_r _ [23, 24, 25, 26, 27, 28, 29, 30, 31, 32, 33] (by decide +kernel) (by decide +kernel)
set_option maxRecDepth 20000 in
theorem gX2_docketStands_X2_fails : GoodIn wsX2_docketStands (wsV RX2 69 RX2 yX2_fails wsX2_fails) := goodIn_app (goodIn_of _ (by decide +kernel)) ggX2_docketStands_X2_fails
theorem dX2_docketStands_0 : decode cX2_docketStands 0 = .ok (.iconst 0, 1) := by decide +kernel
theorem dX2_docketStands_1 : decode cX2_docketStands 1 = .ok (.istore_n 1, 1) := by decide +kernel
theorem dX2_docketStands_2 : decode cX2_docketStands 2 = .ok (.iload_n 1, 1) := by decide +kernel
theorem dX2_docketStands_3 : decode cX2_docketStands 3 = .ok (.aload_n 0, 1) := by decide +kernel
theorem dX2_docketStands_4 : decode cX2_docketStands 4 = .ok (.getfield 18, 3) := by decide +kernel
theorem dX2_docketStands_7 : decode cX2_docketStands 7 = .ok (.getfield 52, 3) := by decide +kernel
theorem dX2_docketStands_10 : decode cX2_docketStands 10 = .ok (.if_icmp .ge 55, 3) := by decide +kernel
theorem dX2_docketStands_13 : decode cX2_docketStands 13 = .ok (.aload_n 0, 1) := by decide +kernel
theorem dX2_docketStands_14 : decode cX2_docketStands 14 = .ok (.getfield 18, 3) := by decide +kernel
theorem dX2_docketStands_17 : decode cX2_docketStands 17 = .ok (.aload_n 0, 1) := by decide +kernel
theorem dX2_docketStands_18 : decode cX2_docketStands 18 = .ok (.getfield 18, 3) := by decide +kernel
theorem dX2_docketStands_21 : decode cX2_docketStands 21 = .ok (.getfield 55, 3) := by decide +kernel
theorem dX2_docketStands_24 : decode cX2_docketStands 24 = .ok (.iload_n 1, 1) := by decide +kernel
theorem dX2_docketStands_25 : decode cX2_docketStands 25 = .ok (.iaload, 1) := by decide +kernel
theorem dX2_docketStands_26 : decode cX2_docketStands 26 = .ok (.i2l, 1) := by decide +kernel
theorem dX2_docketStands_27 : decode cX2_docketStands 27 = .ok (.invokevirtual 58, 3) := by decide +kernel
theorem dX2_docketStands_30 : decode cX2_docketStands 30 = .ok (.ifCond .eq 22, 3) := by decide +kernel
theorem dX2_docketStands_33 : decode cX2_docketStands 33 = .ok (.aload_n 0, 1) := by decide +kernel
theorem dX2_docketStands_34 : decode cX2_docketStands 34 = .ok (.getfield 18, 3) := by decide +kernel
theorem dX2_docketStands_37 : decode cX2_docketStands 37 = .ok (.aload_n 0, 1) := by decide +kernel
theorem dX2_docketStands_38 : decode cX2_docketStands 38 = .ok (.getfield 18, 3) := by decide +kernel
theorem dX2_docketStands_41 : decode cX2_docketStands 41 = .ok (.getfield 62, 3) := by decide +kernel
theorem dX2_docketStands_44 : decode cX2_docketStands 44 = .ok (.iload_n 1, 1) := by decide +kernel
theorem dX2_docketStands_45 : decode cX2_docketStands 45 = .ok (.iaload, 1) := by decide +kernel
theorem dX2_docketStands_46 : decode cX2_docketStands 46 = .ok (.invokevirtual 65, 3) := by decide +kernel
theorem dX2_docketStands_49 : decode cX2_docketStands 49 = .ok (.ifCond .ne 10, 3) := by decide +kernel
theorem dX2_docketStands_52 : decode cX2_docketStands 52 = .ok (.aload_n 0, 1) := by decide +kernel
theorem dX2_docketStands_53 : decode cX2_docketStands 53 = .ok (.bipush 6, 2) := by decide +kernel
theorem dX2_docketStands_55 : decode cX2_docketStands 55 = .ok (.invokevirtual 69, 3) := by decide +kernel
theorem dX2_docketStands_58 : decode cX2_docketStands 58 = .ok (.ireturn, 1) := by decide +kernel
theorem dX2_docketStands_59 : decode cX2_docketStands 59 = .ok (.iinc 1 1, 3) := by decide +kernel
theorem dX2_docketStands_62 : decode cX2_docketStands 62 = .ok (.goto (-60), 3) := by decide +kernel
theorem dX2_docketStands_65 : decode cX2_docketStands 65 = .ok (.iconst 1, 1) := by decide +kernel
theorem dX2_docketStands_66 : decode cX2_docketStands 66 = .ok (.ireturn, 1) := by decide +kernel
set_option maxRecDepth 20000 in
theorem ggX2_takesLine_X2_isNamed : GoodIn wsX2_takesLine wsX2_isNamed := goodIn_r _ [5, 6, 7, 8, 9, 10, 11, 12, 13, 14, 15, 16, 17, 18, 19, 20, 21, 22, 23, 24, 25, 26, 27, 28, 29, 30, 31, 32, 33, 34, 35, 36, 37, 38, 39, 40, 41, 42, 43, 44, 45, 46, 47, 48, 49, 50, 51, 52, 53, 54, 55, 56, 57, 58, 164, 165, 166, 167, 168, 169, 170, 171, 172] (by decide +kernel) (by decide +kernel)
set_option maxRecDepth 20000 in
theorem gX2_takesLine_X2_isNamed : GoodIn wsX2_takesLine (wsV RX2 74 RX2 yX2_isNamed wsX2_isNamed) := goodIn_app (goodIn_of _ (by decide +kernel)) ggX2_takesLine_X2_isNamed
set_option maxRecDepth 20000 in
theorem ggX2_takesLine_X2_takesCase : GoodIn wsX2_takesLine wsX2_takesCase := goodIn_r _ [62, 63, 64, 65, 66, 67, 4, 68, 69, 70, 71, 72, 73, 7, 74, 9, 8, 6, 75, 76, 77, 78, 79, 80, 81, 82, 83, 84, 85, 86, 87, 88, 89, 90, 91, 92, 93, 1, 2, 3, 5, 10, 11, 12, 13, 14, 15, 16, 17, 18, 19, 20, 21, 22, 23, 24, 25, 26, 27, 28, 29, 30, 31, 32, 33, 34, 35, 36, 37, 38, 39, 40, 41, 42, 43, 44, 45, 46, 47, 48, 49, 50, 51, 52, 53, 54, 55, 56, 57, 58, 94, 95, 96, 97, 98, 99, 100, 101, 102, 103, 104, 105, 106, 107, 108, 109, 110, 111, 112, 113, 114, 115, 116, 117, 118, 164, 165, 166, 167, 168, 169, 170, 171, 172, 173, 174, 175, 176, 177, 178, 179, 180, 181, 182, 183, 184, 185, 186, 187, 188, 189] (by decide +kernel) (by decide +kernel)
set_option maxRecDepth 20000 in
theorem gX2_takesLine_X2_takesCase : GoodIn wsX2_takesLine (wsV RX2 78 RX2 yX2_takesCase wsX2_takesCase) := goodIn_app (goodIn_of _ (by decide +kernel)) ggX2_takesLine_X2_takesCase
set_option maxRecDepth 20000 in
theorem ggX2_takesLine_X2_takesDraught : GoodIn wsX2_takesLine wsX2_takesDraught := goodIn_r _ [122, 63, 123, 75, 65, 66, 67, 4, 68, 69, 94, 95, 96, 97, 6, 70, 71, 72, 73, 7, 74, 9, 8, 76, 77, 78, 79, 80, 81, 82, 98, 99, 100, 101, 102, 103, 104, 124, 125, 126, 108, 127, 128, 129, 130, 115, 116, 117, 118, 164, 165, 166, 167, 168, 169, 170, 171, 172, 173, 174, 175, 176, 177, 178, 179, 180, 181, 182, 183, 184, 185, 186, 187, 188, 189] (by decide +kernel) (by decide +kernel)
set_option maxRecDepth 20000 in
theorem gX2_takesLine_X2_takesDraught : GoodIn wsX2_takesLine (wsV RX2 83 RX2 yX2_takesDraught wsX2_takesDraught) := goodIn_app (goodIn_of _ (by decide +kernel)) ggX2_takesLine_X2_takesDraught
set_option maxRecDepth 20000 in
theorem ggX2_takesLine_X2_takesDocket : GoodIn wsX2_takesLine wsX2_takesDocket := goodIn_r _ [134, 135, 6, 63, 136, 65, 66, 67, 4, 68, 69, 70, 71, 72, 73, 7, 74, 9, 8, 75, 76, 77, 78, 79, 80, 81, 82, 137, 138, 139, 140, 98, 99, 100, 101, 102, 103, 104, 94, 95, 96, 97, 141, 142, 143, 108, 144, 145, 146, 147, 115, 116, 117, 118, 164, 165, 166, 167, 168, 169, 170, 171, 172, 173, 174, 175, 176, 177, 178, 179, 180, 181, 182, 183, 184, 185, 186, 187, 188, 189] (by decide +kernel) (by decide +kernel)
set_option maxRecDepth 20000 in
theorem gX2_takesLine_X2_takesDocket : GoodIn wsX2_takesLine (wsV RX2 88 RX2 yX2_takesDocket wsX2_takesDocket) := goodIn_app (goodIn_of _ (by decide +kernel)) ggX2_takesLine_X2_takesDocket
set_option maxRecDepth 20000 in
theorem ggX2_takesLine_X2_habitNamed : GoodIn wsX2_takesLine wsX2_habitNamed := goodIn_r _ [151, 1, 2, 3, 4, 5, 6, 7, 8, 9, 10, 11, 12, 13, 14, 15, 16, 17, 18, 19, 20, 21, 22, 23, 24, 25, 26, 27, 28, 29, 30, 31, 32, 33, 34, 35, 36, 37, 38, 39, 40, 41, 42, 43, 44, 45, 46, 47, 48, 49, 50, 51, 52, 53, 54, 55, 56, 57, 58, 164, 165, 166, 167, 168, 169, 170, 171, 172] (by decide +kernel) (by decide +kernel)
set_option maxRecDepth 20000 in
theorem gX2_takesLine_X2_habitNamed : GoodIn wsX2_takesLine (wsV RX2 91 RX2 yX2_habitNamed wsX2_habitNamed) := goodIn_app (goodIn_of _ (by decide +kernel)) ggX2_takesLine_X2_habitNamed
set_option maxRecDepth 20000 in
theorem ggX2_takesLine_X2_fails : GoodIn wsX2_takesLine wsX2_fails := goodIn_r _ [68, 69, 164, 165, 166, 167, 168, 169, 170, 171, 172] (by decide +kernel) (by decide +kernel)
set_option maxRecDepth 20000 in
theorem gX2_takesLine_X2_fails : GoodIn wsX2_takesLine (wsV RX2 69 RX2 yX2_fails wsX2_fails) := goodIn_app (goodIn_of _ (by decide +kernel)) ggX2_takesLine_X2_fails
set_option maxRecDepth 20000 in
theorem ggX2_takesLine_X2_takesJudge : GoodIn wsX2_takesLine wsX2_takesJudge := goodIn_r _ [155, 63, 156, 75, 65, 66, 67, 4, 68, 69, 94, 95, 96, 97, 6, 70, 71, 72, 73, 7, 74, 9, 8, 76, 77, 78, 79, 80, 81, 82, 98, 99, 100, 101, 102, 103, 104, 157, 158, 159, 108, 160, 161, 162, 163, 115, 116, 117, 118, 164, 165, 166, 167, 168, 169, 170, 171, 172, 173, 174, 175, 176, 177, 178, 179, 180, 181, 182, 183, 184, 185, 186, 187, 188, 189] (by decide +kernel) (by decide +kernel)
set_option maxRecDepth 20000 in
theorem gX2_takesLine_X2_takesJudge : GoodIn wsX2_takesLine (wsV RX2 95 RX2 yX2_takesJudge wsX2_takesJudge) := goodIn_app (goodIn_of _ (by decide +kernel)) ggX2_takesLine_X2_takesJudge
theorem dX2_takesLine_0 : decode cX2_takesLine 0 = .ok (.aload_n 0, 1) := by decide +kernel
theorem dX2_takesLine_1 : decode cX2_takesLine 1 = .ok (.ldc 72, 2) := by decide +kernel
theorem dX2_takesLine_3 : decode cX2_takesLine 3 = .ok (.invokevirtual 74, 3) := by decide +kernel
theorem dX2_takesLine_6 : decode cX2_takesLine 6 = .ok (.ifCond .eq 8, 3) := by decide +kernel
theorem dX2_takesLine_9 : decode cX2_takesLine 9 = .ok (.aload_n 0, 1) := by decide +kernel
theorem dX2_takesLine_10 : decode cX2_takesLine 10 = .ok (.invokevirtual 78, 3) := by decide +kernel
theorem dX2_takesLine_13 : decode cX2_takesLine 13 = .ok (.ireturn, 1) := by decide +kernel
theorem dX2_takesLine_14 : decode cX2_takesLine 14 = .ok (.aload_n 0, 1) := by decide +kernel
theorem dX2_takesLine_15 : decode cX2_takesLine 15 = .ok (.ldc 81, 2) := by decide +kernel
theorem dX2_takesLine_17 : decode cX2_takesLine 17 = .ok (.invokevirtual 74, 3) := by decide +kernel
theorem dX2_takesLine_20 : decode cX2_takesLine 20 = .ok (.ifCond .eq 8, 3) := by decide +kernel
theorem dX2_takesLine_23 : decode cX2_takesLine 23 = .ok (.aload_n 0, 1) := by decide +kernel
theorem dX2_takesLine_24 : decode cX2_takesLine 24 = .ok (.invokevirtual 83, 3) := by decide +kernel
theorem dX2_takesLine_27 : decode cX2_takesLine 27 = .ok (.ireturn, 1) := by decide +kernel
theorem dX2_takesLine_28 : decode cX2_takesLine 28 = .ok (.aload_n 0, 1) := by decide +kernel
theorem dX2_takesLine_29 : decode cX2_takesLine 29 = .ok (.ldc 86, 2) := by decide +kernel
theorem dX2_takesLine_31 : decode cX2_takesLine 31 = .ok (.invokevirtual 74, 3) := by decide +kernel
theorem dX2_takesLine_34 : decode cX2_takesLine 34 = .ok (.ifCond .eq 8, 3) := by decide +kernel
theorem dX2_takesLine_37 : decode cX2_takesLine 37 = .ok (.aload_n 0, 1) := by decide +kernel
theorem dX2_takesLine_38 : decode cX2_takesLine 38 = .ok (.invokevirtual 88, 3) := by decide +kernel
theorem dX2_takesLine_41 : decode cX2_takesLine 41 = .ok (.ireturn, 1) := by decide +kernel
theorem dX2_takesLine_42 : decode cX2_takesLine 42 = .ok (.aload_n 0, 1) := by decide +kernel
theorem dX2_takesLine_43 : decode cX2_takesLine 43 = .ok (.invokevirtual 91, 3) := by decide +kernel
theorem dX2_takesLine_46 : decode cX2_takesLine 46 = .ok (.istore_n 1, 1) := by decide +kernel
theorem dX2_takesLine_47 : decode cX2_takesLine 47 = .ok (.iload_n 1, 1) := by decide +kernel
theorem dX2_takesLine_48 : decode cX2_takesLine 48 = .ok (.bipush (-4), 2) := by decide +kernel
theorem dX2_takesLine_50 : decode cX2_takesLine 50 = .ok (.if_icmp .ne 11, 3) := by decide +kernel
theorem dX2_takesLine_53 : decode cX2_takesLine 53 = .ok (.aload_n 0, 1) := by decide +kernel
theorem dX2_takesLine_54 : decode cX2_takesLine 54 = .ok (.iconst 2, 1) := by decide +kernel
theorem dX2_takesLine_55 : decode cX2_takesLine 55 = .ok (.invokevirtual 69, 3) := by decide +kernel
theorem dX2_takesLine_58 : decode cX2_takesLine 58 = .ok (.goto 8, 3) := by decide +kernel
theorem dX2_takesLine_61 : decode cX2_takesLine 61 = .ok (.aload_n 0, 1) := by decide +kernel
theorem dX2_takesLine_62 : decode cX2_takesLine 62 = .ok (.iload_n 1, 1) := by decide +kernel
theorem dX2_takesLine_63 : decode cX2_takesLine 63 = .ok (.invokevirtual 95, 3) := by decide +kernel
theorem dX2_takesLine_66 : decode cX2_takesLine 66 = .ok (.ireturn, 1) := by decide +kernel
set_option maxRecDepth 20000 in
theorem ggX2_takesCase_X2_fails : GoodIn wsX2_takesCase wsX2_fails := goodIn_r _ [7, 8, 115, 116, 117, 118, 119, 120, 121, 122, 123] (by decide +kernel) (by decide +kernel)
set_option maxRecDepth 20000 in
theorem gX2_takesCase_X2_fails : GoodIn wsX2_takesCase (wsV RX2 69 RX2 yX2_fails wsX2_fails) := goodIn_app (goodIn_of _ (by decide +kernel)) ggX2_takesCase_X2_fails
set_option maxRecDepth 20000 in
theorem ggX2_takesCase_X2_readsNext : GoodIn wsX2_takesCase wsX2_readsNext := goodIn_r _ [12, 13, 14, 15, 16, 17, 18, 19, 20, 6, 21, 3, 4, 5, 7, 8, 22, 23, 24, 25, 115, 116, 117, 118, 119, 120, 121, 122, 123] (by decide +kernel) (by decide +kernel)
set_option maxRecDepth 20000 in
theorem gX2_takesCase_X2_readsNext : GoodIn wsX2_takesCase (wsV RX2 48 RX2 yX2_readsNext wsX2_readsNext) := goodIn_app (goodIn_of _ (by decide +kernel)) ggX2_takesCase_X2_readsNext
set_option maxRecDepth 20000 in
theorem ggX2_takesCase_X2_takesFlame : GoodIn wsX2_takesCase wsX2_takesFlame := goodIn_r _ [29, 1, 30, 31, 18, 32, 17, 33, 34, 35, 6, 36, 37, 38, 39, 40, 13, 16, 15, 41, 42, 43, 44, 45, 46, 47, 48, 49, 50, 51, 52, 53, 54, 55, 56, 57, 58, 59, 60, 61, 62, 63, 64, 65, 66, 67, 68, 69, 70, 71, 72, 73, 74, 75, 76, 77, 78, 79, 80, 81, 82, 83, 84, 85, 86, 87, 88, 89, 3, 4, 5, 7, 8, 90, 91, 92, 93, 9, 10, 11, 12, 14, 19, 20, 21, 22, 23, 24, 25, 94, 95, 96, 97, 98, 99, 100, 115, 116, 117, 118, 119, 120, 121, 122, 123, 124, 125, 126, 127, 128, 129, 130, 131, 132, 133, 134, 135, 136, 137, 138, 139, 140] (by decide +kernel) (by decide +kernel)
set_option maxRecDepth 20000 in
theorem gX2_takesCase_X2_takesFlame : GoodIn wsX2_takesCase (wsV RX2 101 RX2 yX2_takesFlame wsX2_takesFlame) := goodIn_app (goodIn_of _ (by decide +kernel)) ggX2_takesCase_X2_takesFlame
set_option maxRecDepth 20000 in
theorem ggX2_takesCase_X0_addCase : GoodIn wsX2_takesCase wsX0_addCase := goodIn_r _ [105, 106, 107, 108, 109, 110, 124, 125, 126, 127, 128, 129, 130, 131, 132, 133, 134, 135, 136, 137, 138, 139, 140] (by decide +kernel) (by decide +kernel)
set_option maxRecDepth 20000 in
theorem gX2_takesCase_X0_addCase : GoodIn wsX2_takesCase (wsV RX2 104 RX0 yX0_addCase wsX0_addCase) := goodIn_app (goodIn_of _ (by decide +kernel)) ggX2_takesCase_X0_addCase
set_option maxRecDepth 20000 in
theorem ggX2_takesCase_X2_takesSign : GoodIn wsX2_takesCase wsX2_takesSign := goodIn_r _ [114, 17, 9, 10, 11, 6, 12, 13, 14, 15, 16, 18, 19, 20, 21, 3, 4, 5, 7, 8, 22, 23, 24, 25, 115, 116, 117, 118, 119, 120, 121, 122, 123] (by decide +kernel) (by decide +kernel)
set_option maxRecDepth 20000 in
theorem gX2_takesCase_X2_takesSign : GoodIn wsX2_takesCase (wsV RX2 107 RX2 yX2_takesSign wsX2_takesSign) := goodIn_app (goodIn_of _ (by decide +kernel)) ggX2_takesCase_X2_takesSign
theorem dX2_takesCase_0 : decode cX2_takesCase 0 = .ok (.aload_n 0, 1) := by decide +kernel
theorem dX2_takesCase_1 : decode cX2_takesCase 1 = .ok (.getfield 18, 3) := by decide +kernel
theorem dX2_takesCase_4 : decode cX2_takesCase 4 = .ok (.getfield 98, 3) := by decide +kernel
theorem dX2_takesCase_7 : decode cX2_takesCase 7 = .ok (.iconst 4, 1) := by decide +kernel
theorem dX2_takesCase_8 : decode cX2_takesCase 8 = .ok (.if_icmp .lt 9, 3) := by decide +kernel
theorem dX2_takesCase_11 : decode cX2_takesCase 11 = .ok (.aload_n 0, 1) := by decide +kernel
theorem dX2_takesCase_12 : decode cX2_takesCase 12 = .ok (.iconst 5, 1) := by decide +kernel
theorem dX2_takesCase_13 : decode cX2_takesCase 13 = .ok (.invokevirtual 69, 3) := by decide +kernel
theorem dX2_takesCase_16 : decode cX2_takesCase 16 = .ok (.ireturn, 1) := by decide +kernel
theorem dX2_takesCase_17 : decode cX2_takesCase 17 = .ok (.aload_n 0, 1) := by decide +kernel
theorem dX2_takesCase_18 : decode cX2_takesCase 18 = .ok (.invokevirtual 48, 3) := by decide +kernel
theorem dX2_takesCase_21 : decode cX2_takesCase 21 = .ok (.ifCond .eq 37, 3) := by decide +kernel
theorem dX2_takesCase_24 : decode cX2_takesCase 24 = .ok (.aload_n 0, 1) := by decide +kernel
theorem dX2_takesCase_25 : decode cX2_takesCase 25 = .ok (.iconst 2, 1) := by decide +kernel
theorem dX2_takesCase_26 : decode cX2_takesCase 26 = .ok (.aload_n 0, 1) := by decide +kernel
theorem dX2_takesCase_27 : decode cX2_takesCase 27 = .ok (.getfield 18, 3) := by decide +kernel
theorem dX2_takesCase_30 : decode cX2_takesCase 30 = .ok (.getfield 98, 3) := by decide +kernel
theorem dX2_takesCase_33 : decode cX2_takesCase 33 = .ok (.imul, 1) := by decide +kernel
theorem dX2_takesCase_34 : decode cX2_takesCase 34 = .ok (.invokevirtual 101, 3) := by decide +kernel
theorem dX2_takesCase_37 : decode cX2_takesCase 37 = .ok (.ifCond .eq 21, 3) := by decide +kernel
theorem dX2_takesCase_40 : decode cX2_takesCase 40 = .ok (.aload_n 0, 1) := by decide +kernel
theorem dX2_takesCase_41 : decode cX2_takesCase 41 = .ok (.iconst 2, 1) := by decide +kernel
theorem dX2_takesCase_42 : decode cX2_takesCase 42 = .ok (.aload_n 0, 1) := by decide +kernel
theorem dX2_takesCase_43 : decode cX2_takesCase 43 = .ok (.getfield 18, 3) := by decide +kernel
theorem dX2_takesCase_46 : decode cX2_takesCase 46 = .ok (.getfield 98, 3) := by decide +kernel
theorem dX2_takesCase_49 : decode cX2_takesCase 49 = .ok (.imul, 1) := by decide +kernel
theorem dX2_takesCase_50 : decode cX2_takesCase 50 = .ok (.iconst 1, 1) := by decide +kernel
theorem dX2_takesCase_51 : decode cX2_takesCase 51 = .ok (.iadd, 1) := by decide +kernel
theorem dX2_takesCase_52 : decode cX2_takesCase 52 = .ok (.invokevirtual 101, 3) := by decide +kernel
theorem dX2_takesCase_55 : decode cX2_takesCase 55 = .ok (.ifCond .ne 5, 3) := by decide +kernel
theorem dX2_takesCase_58 : decode cX2_takesCase 58 = .ok (.iconst 0, 1) := by decide +kernel
theorem dX2_takesCase_59 : decode cX2_takesCase 59 = .ok (.ireturn, 1) := by decide +kernel
theorem dX2_takesCase_60 : decode cX2_takesCase 60 = .ok (.aload_n 0, 1) := by decide +kernel
theorem dX2_takesCase_61 : decode cX2_takesCase 61 = .ok (.getfield 18, 3) := by decide +kernel
theorem dX2_takesCase_64 : decode cX2_takesCase 64 = .ok (.invokevirtual 104, 3) := by decide +kernel
theorem dX2_takesCase_67 : decode cX2_takesCase 67 = .ok (.aload_n 0, 1) := by decide +kernel
theorem dX2_takesCase_68 : decode cX2_takesCase 68 = .ok (.invokevirtual 107, 3) := by decide +kernel
theorem dX2_takesCase_71 : decode cX2_takesCase 71 = .ok (.ireturn, 1) := by decide +kernel
set_option maxRecDepth 20000 in
theorem ggX2_takesFlame_X2_kindNamed : GoodIn wsX2_takesFlame wsX2_kindNamed := goodIn_r _ [11, 12, 13, 14, 10, 15, 6, 16, 17, 18, 19, 20, 21, 22, 23, 24, 25, 26, 27, 28, 29, 30, 31, 32, 33, 34, 35, 36, 37, 38, 39, 40, 41, 42, 43, 44, 45, 46, 47, 48, 49, 50, 51, 52, 53, 54, 55, 56, 57, 58, 59, 60, 61, 62, 63, 64, 65, 66, 67, 96, 97, 98, 99, 100, 101, 102, 103, 104] (by decide +kernel) (by decide +kernel)
set_option maxRecDepth 20000 in
theorem gX2_takesFlame_X2_kindNamed : GoodIn wsX2_takesFlame (wsV RX2 110 RX2 yX2_kindNamed wsX2_kindNamed) := goodIn_app (goodIn_of _ (by decide +kernel)) ggX2_takesFlame_X2_kindNamed
set_option maxRecDepth 20000 in
theorem ggX2_takesFlame_X2_fails : GoodIn wsX2_takesFlame wsX2_fails := goodIn_r _ [71, 72, 96, 97, 98, 99, 100, 101, 102, 103, 104] (by decide +kernel) (by decide +kernel)
set_option maxRecDepth 20000 in
theorem gX2_takesFlame_X2_fails : GoodIn wsX2_takesFlame (wsV RX2 69 RX2 yX2_fails wsX2_fails) := goodIn_app (goodIn_of _ (by decide +kernel)) ggX2_takesFlame_X2_fails
set_option maxRecDepth 20000 in
theorem ggX2_takesFlame_X2_readsNumber : GoodIn wsX2_takesFlame wsX2_readsNumber := goodIn_r _ [76, 6, 77, 78, 79, 10, 80, 16, 81, 18, 17, 4, 82, 83, 84, 68, 69, 70, 71, 72, 85, 86, 87, 88, 89, 90, 91, 92, 93, 94, 95, 96, 97, 98, 99, 100, 101, 102, 103, 104] (by decide +kernel) (by decide +kernel)
set_option maxRecDepth 20000 in
theorem gX2_takesFlame_X2_readsNumber : GoodIn wsX2_takesFlame (wsV RX2 113 RX2 yX2_readsNumber wsX2_readsNumber) := goodIn_app (goodIn_of _ (by decide +kernel)) ggX2_takesFlame_X2_readsNumber
set_option maxRecDepth 20000 in
theorem ggX2_takesFlame_X2_readsNext : GoodIn wsX2_takesFlame wsX2_readsNext := goodIn_r _ [80, 16, 81, 18, 17, 6, 4, 82, 83, 10, 84, 68, 69, 70, 71, 72, 85, 86, 87, 88, 96, 97, 98, 99, 100, 101, 102, 103, 104] (by decide +kernel) (by decide +kernel)
set_option maxRecDepth 20000 in
theorem gX2_takesFlame_X2_readsNext : GoodIn wsX2_takesFlame (wsV RX2 48 RX2 yX2_readsNext wsX2_readsNext) := goodIn_app (goodIn_of _ (by decide +kernel)) ggX2_takesFlame_X2_readsNext
set_option maxRecDepth 20000 in
theorem ggX2_takesFlame_X2_isNumberIn : GoodIn wsX2_takesFlame wsX2_isNumberIn := goodIn_r _ [92, 4, 93, 94, 95, 68, 69, 70, 10, 71, 72, 96, 97, 98, 99, 100, 101, 102, 103, 104] (by decide +kernel) (by decide +kernel)
set_option maxRecDepth 20000 in
theorem gX2_takesFlame_X2_isNumberIn : GoodIn wsX2_takesFlame (wsV RX2 126 RX2 yX2_isNumberIn wsX2_isNumberIn) := goodIn_app (goodIn_of _ (by decide +kernel)) ggX2_takesFlame_X2_isNumberIn
theorem dX2_takesFlame_0 : decode cX2_takesFlame 0 = .ok (.aload_n 0, 1) := by decide +kernel
theorem dX2_takesFlame_1 : decode cX2_takesFlame 1 = .ok (.invokevirtual 110, 3) := by decide +kernel
theorem dX2_takesFlame_4 : decode cX2_takesFlame 4 = .ok (.istore_n 2, 1) := by decide +kernel
theorem dX2_takesFlame_5 : decode cX2_takesFlame 5 = .ok (.iload_n 2, 1) := by decide +kernel
theorem dX2_takesFlame_6 : decode cX2_takesFlame 6 = .ok (.bipush (-4), 2) := by decide +kernel
theorem dX2_takesFlame_8 : decode cX2_takesFlame 8 = .ok (.if_icmp .ne 9, 3) := by decide +kernel
theorem dX2_takesFlame_11 : decode cX2_takesFlame 11 = .ok (.aload_n 0, 1) := by decide +kernel
theorem dX2_takesFlame_12 : decode cX2_takesFlame 12 = .ok (.iconst 2, 1) := by decide +kernel
theorem dX2_takesFlame_13 : decode cX2_takesFlame 13 = .ok (.invokevirtual 69, 3) := by decide +kernel
theorem dX2_takesFlame_16 : decode cX2_takesFlame 16 = .ok (.ireturn, 1) := by decide +kernel
theorem dX2_takesFlame_17 : decode cX2_takesFlame 17 = .ok (.aload_n 0, 1) := by decide +kernel
theorem dX2_takesFlame_18 : decode cX2_takesFlame 18 = .ok (.iconst 0, 1) := by decide +kernel
theorem dX2_takesFlame_19 : decode cX2_takesFlame 19 = .ok (.bipush 99, 2) := by decide +kernel
theorem dX2_takesFlame_21 : decode cX2_takesFlame 21 = .ok (.invokevirtual 113, 3) := by decide +kernel
theorem dX2_takesFlame_24 : decode cX2_takesFlame 24 = .ok (.ifCond .ne 5, 3) := by decide +kernel
theorem dX2_takesFlame_27 : decode cX2_takesFlame 27 = .ok (.iconst 0, 1) := by decide +kernel
theorem dX2_takesFlame_28 : decode cX2_takesFlame 28 = .ok (.ireturn, 1) := by decide +kernel
theorem dX2_takesFlame_29 : decode cX2_takesFlame 29 = .ok (.aload_n 0, 1) := by decide +kernel
theorem dX2_takesFlame_30 : decode cX2_takesFlame 30 = .ok (.getfield 18, 3) := by decide +kernel
theorem dX2_takesFlame_33 : decode cX2_takesFlame 33 = .ok (.getfield 117, 3) := by decide +kernel
theorem dX2_takesFlame_36 : decode cX2_takesFlame 36 = .ok (.iload_n 1, 1) := by decide +kernel
theorem dX2_takesFlame_37 : decode cX2_takesFlame 37 = .ok (.iload_n 2, 1) := by decide +kernel
theorem dX2_takesFlame_38 : decode cX2_takesFlame 38 = .ok (.iastore, 1) := by decide +kernel
theorem dX2_takesFlame_39 : decode cX2_takesFlame 39 = .ok (.aload_n 0, 1) := by decide +kernel
theorem dX2_takesFlame_40 : decode cX2_takesFlame 40 = .ok (.getfield 18, 3) := by decide +kernel
theorem dX2_takesFlame_43 : decode cX2_takesFlame 43 = .ok (.getfield 120, 3) := by decide +kernel
theorem dX2_takesFlame_46 : decode cX2_takesFlame 46 = .ok (.iload_n 1, 1) := by decide +kernel
theorem dX2_takesFlame_47 : decode cX2_takesFlame 47 = .ok (.aload_n 0, 1) := by decide +kernel
theorem dX2_takesFlame_48 : decode cX2_takesFlame 48 = .ok (.getfield 42, 3) := by decide +kernel
theorem dX2_takesFlame_51 : decode cX2_takesFlame 51 = .ok (.iastore, 1) := by decide +kernel
theorem dX2_takesFlame_52 : decode cX2_takesFlame 52 = .ok (.aload_n 0, 1) := by decide +kernel
theorem dX2_takesFlame_53 : decode cX2_takesFlame 53 = .ok (.getfield 18, 3) := by decide +kernel
theorem dX2_takesFlame_56 : decode cX2_takesFlame 56 = .ok (.getfield 123, 3) := by decide +kernel
theorem dX2_takesFlame_59 : decode cX2_takesFlame 59 = .ok (.iload_n 1, 1) := by decide +kernel
theorem dX2_takesFlame_60 : decode cX2_takesFlame 60 = .ok (.iconst 0, 1) := by decide +kernel
theorem dX2_takesFlame_61 : decode cX2_takesFlame 61 = .ok (.iastore, 1) := by decide +kernel
theorem dX2_takesFlame_62 : decode cX2_takesFlame 62 = .ok (.aload_n 0, 1) := by decide +kernel
theorem dX2_takesFlame_63 : decode cX2_takesFlame 63 = .ok (.invokevirtual 48, 3) := by decide +kernel
theorem dX2_takesFlame_66 : decode cX2_takesFlame 66 = .ok (.ifCond .ne 5, 3) := by decide +kernel
theorem dX2_takesFlame_69 : decode cX2_takesFlame 69 = .ok (.iconst 0, 1) := by decide +kernel
theorem dX2_takesFlame_70 : decode cX2_takesFlame 70 = .ok (.ireturn, 1) := by decide +kernel
theorem dX2_takesFlame_71 : decode cX2_takesFlame 71 = .ok (.aload_n 0, 1) := by decide +kernel
theorem dX2_takesFlame_72 : decode cX2_takesFlame 72 = .ok (.getfield 33, 3) := by decide +kernel
theorem dX2_takesFlame_75 : decode cX2_takesFlame 75 = .ok (.iconst 2, 1) := by decide +kernel
theorem dX2_takesFlame_76 : decode cX2_takesFlame 76 = .ok (.if_icmp .eq 5, 3) := by decide +kernel
theorem dX2_takesFlame_79 : decode cX2_takesFlame 79 = .ok (.iconst 1, 1) := by decide +kernel
theorem dX2_takesFlame_80 : decode cX2_takesFlame 80 = .ok (.ireturn, 1) := by decide +kernel
theorem dX2_takesFlame_81 : decode cX2_takesFlame 81 = .ok (.aload_n 0, 1) := by decide +kernel
theorem dX2_takesFlame_82 : decode cX2_takesFlame 82 = .ok (.getfield 18, 3) := by decide +kernel
theorem dX2_takesFlame_85 : decode cX2_takesFlame 85 = .ok (.getfield 123, 3) := by decide +kernel
theorem dX2_takesFlame_88 : decode cX2_takesFlame 88 = .ok (.iload_n 1, 1) := by decide +kernel
theorem dX2_takesFlame_89 : decode cX2_takesFlame 89 = .ok (.aload_n 0, 1) := by decide +kernel
theorem dX2_takesFlame_90 : decode cX2_takesFlame 90 = .ok (.getfield 42, 3) := by decide +kernel
theorem dX2_takesFlame_93 : decode cX2_takesFlame 93 = .ok (.iastore, 1) := by decide +kernel
theorem dX2_takesFlame_94 : decode cX2_takesFlame 94 = .ok (.aload_n 0, 1) := by decide +kernel
theorem dX2_takesFlame_95 : decode cX2_takesFlame 95 = .ok (.iconst 0, 1) := by decide +kernel
theorem dX2_takesFlame_96 : decode cX2_takesFlame 96 = .ok (.bipush 9, 2) := by decide +kernel
theorem dX2_takesFlame_98 : decode cX2_takesFlame 98 = .ok (.invokevirtual 126, 3) := by decide +kernel
theorem dX2_takesFlame_101 : decode cX2_takesFlame 101 = .ok (.ifCond .eq 14, 3) := by decide +kernel
theorem dX2_takesFlame_104 : decode cX2_takesFlame 104 = .ok (.aload_n 0, 1) := by decide +kernel
theorem dX2_takesFlame_105 : decode cX2_takesFlame 105 = .ok (.invokevirtual 48, 3) := by decide +kernel
theorem dX2_takesFlame_108 : decode cX2_takesFlame 108 = .ok (.ifCond .eq 7, 3) := by decide +kernel
theorem dX2_takesFlame_111 : decode cX2_takesFlame 111 = .ok (.iconst 1, 1) := by decide +kernel
theorem dX2_takesFlame_112 : decode cX2_takesFlame 112 = .ok (.goto 4, 3) := by decide +kernel
theorem dX2_takesFlame_115 : decode cX2_takesFlame 115 = .ok (.iconst 0, 1) := by decide +kernel
theorem dX2_takesFlame_116 : decode cX2_takesFlame 116 = .ok (.ireturn, 1) := by decide +kernel
set_option maxRecDepth 20000 in
theorem ggX2_takesJudge_X2_fails : GoodIn wsX2_takesJudge wsX2_fails := goodIn_r _ [8, 9, 49, 50, 51, 52, 53, 54, 55, 56, 57] (by decide +kernel) (by decide +kernel)
set_option maxRecDepth 20000 in
theorem gX2_takesJudge_X2_fails : GoodIn wsX2_takesJudge (wsV RX2 69 RX2 yX2_fails wsX2_fails) := goodIn_app (goodIn_of _ (by decide +kernel)) ggX2_takesJudge_X2_fails
set_option maxRecDepth 20000 in
theorem ggX2_takesJudge_X2_readsNumber : GoodIn wsX2_takesJudge wsX2_readsNumber := goodIn_r _ [13, 14, 15, 16, 17, 7, 18, 19, 20, 21, 22, 3, 23, 24, 25, 4, 5, 6, 8, 9, 26, 27, 28, 29, 30, 31, 32, 33, 34, 35, 36, 49, 50, 51, 52, 53, 54, 55, 56, 57] (by decide +kernel) (by decide +kernel)
set_option maxRecDepth 20000 in
theorem gX2_takesJudge_X2_readsNumber : GoodIn wsX2_takesJudge (wsV RX2 113 RX2 yX2_readsNumber wsX2_readsNumber) := goodIn_app (goodIn_of _ (by decide +kernel)) ggX2_takesJudge_X2_readsNumber
set_option maxRecDepth 20000 in
theorem ggX2_takesJudge_X0_addJudge : GoodIn wsX2_takesJudge wsX0_addJudge := goodIn_r _ [41, 42, 43, 44, 58, 59, 60, 61, 62, 63, 64, 65, 66, 67, 68, 69, 70, 71, 72, 73, 74] (by decide +kernel) (by decide +kernel)
set_option maxRecDepth 20000 in
theorem gX2_takesJudge_X0_addJudge : GoodIn wsX2_takesJudge (wsV RX2 132 RX0 yX0_addJudge wsX0_addJudge) := goodIn_app (goodIn_of _ (by decide +kernel)) ggX2_takesJudge_X0_addJudge
set_option maxRecDepth 20000 in
theorem ggX2_takesJudge_X2_readsNext : GoodIn wsX2_takesJudge wsX2_readsNext := goodIn_r _ [18, 19, 20, 21, 22, 14, 3, 23, 24, 7, 25, 4, 5, 6, 8, 9, 26, 27, 28, 29, 49, 50, 51, 52, 53, 54, 55, 56, 57] (by decide +kernel) (by decide +kernel)
set_option maxRecDepth 20000 in
theorem gX2_takesJudge_X2_readsNext : GoodIn wsX2_takesJudge (wsV RX2 48 RX2 yX2_readsNext wsX2_readsNext) := goodIn_app (goodIn_of _ (by decide +kernel)) ggX2_takesJudge_X2_readsNext
set_option maxRecDepth 20000 in
theorem ggX2_takesJudge_X2_takesSign : GoodIn wsX2_takesJudge wsX2_takesSign := goodIn_r _ [48, 14, 15, 16, 17, 7, 18, 19, 20, 21, 22, 3, 23, 24, 25, 4, 5, 6, 8, 9, 26, 27, 28, 29, 49, 50, 51, 52, 53, 54, 55, 56, 57] (by decide +kernel) (by decide +kernel)
set_option maxRecDepth 20000 in
theorem gX2_takesJudge_X2_takesSign : GoodIn wsX2_takesJudge (wsV RX2 107 RX2 yX2_takesSign wsX2_takesSign) := goodIn_app (goodIn_of _ (by decide +kernel)) ggX2_takesJudge_X2_takesSign
theorem dX2_takesJudge_0 : decode cX2_takesJudge 0 = .ok (.aload_n 0, 1) := by decide +kernel
theorem dX2_takesJudge_1 : decode cX2_takesJudge 1 = .ok (.getfield 18, 3) := by decide +kernel
theorem dX2_takesJudge_4 : decode cX2_takesJudge 4 = .ok (.getfield 129, 3) := by decide +kernel
theorem dX2_takesJudge_7 : decode cX2_takesJudge 7 = .ok (.iconst 3, 1) := by decide +kernel
theorem dX2_takesJudge_8 : decode cX2_takesJudge 8 = .ok (.if_icmp .lt 9, 3) := by decide +kernel
theorem dX2_takesJudge_11 : decode cX2_takesJudge 11 = .ok (.aload_n 0, 1) := by decide +kernel
theorem dX2_takesJudge_12 : decode cX2_takesJudge 12 = .ok (.iconst 5, 1) := by decide +kernel
theorem dX2_takesJudge_13 : decode cX2_takesJudge 13 = .ok (.invokevirtual 69, 3) := by decide +kernel
theorem dX2_takesJudge_16 : decode cX2_takesJudge 16 = .ok (.ireturn, 1) := by decide +kernel
theorem dX2_takesJudge_17 : decode cX2_takesJudge 17 = .ok (.aload_n 0, 1) := by decide +kernel
theorem dX2_takesJudge_18 : decode cX2_takesJudge 18 = .ok (.iconst 1, 1) := by decide +kernel
theorem dX2_takesJudge_19 : decode cX2_takesJudge 19 = .ok (.bipush 9, 2) := by decide +kernel
theorem dX2_takesJudge_21 : decode cX2_takesJudge 21 = .ok (.invokevirtual 113, 3) := by decide +kernel
theorem dX2_takesJudge_24 : decode cX2_takesJudge 24 = .ok (.ifCond .ne 5, 3) := by decide +kernel
theorem dX2_takesJudge_27 : decode cX2_takesJudge 27 = .ok (.iconst 0, 1) := by decide +kernel
theorem dX2_takesJudge_28 : decode cX2_takesJudge 28 = .ok (.ireturn, 1) := by decide +kernel
theorem dX2_takesJudge_29 : decode cX2_takesJudge 29 = .ok (.aload_n 0, 1) := by decide +kernel
theorem dX2_takesJudge_30 : decode cX2_takesJudge 30 = .ok (.getfield 18, 3) := by decide +kernel
theorem dX2_takesJudge_33 : decode cX2_takesJudge 33 = .ok (.iload_n 1, 1) := by decide +kernel
theorem dX2_takesJudge_34 : decode cX2_takesJudge 34 = .ok (.aload_n 0, 1) := by decide +kernel
theorem dX2_takesJudge_35 : decode cX2_takesJudge 35 = .ok (.getfield 42, 3) := by decide +kernel
theorem dX2_takesJudge_38 : decode cX2_takesJudge 38 = .ok (.invokevirtual 132, 3) := by decide +kernel
theorem dX2_takesJudge_41 : decode cX2_takesJudge 41 = .ok (.pop, 1) := by decide +kernel
theorem dX2_takesJudge_42 : decode cX2_takesJudge 42 = .ok (.aload_n 0, 1) := by decide +kernel
theorem dX2_takesJudge_43 : decode cX2_takesJudge 43 = .ok (.invokevirtual 48, 3) := by decide +kernel
theorem dX2_takesJudge_46 : decode cX2_takesJudge 46 = .ok (.ifCond .eq 14, 3) := by decide +kernel
theorem dX2_takesJudge_49 : decode cX2_takesJudge 49 = .ok (.aload_n 0, 1) := by decide +kernel
theorem dX2_takesJudge_50 : decode cX2_takesJudge 50 = .ok (.invokevirtual 107, 3) := by decide +kernel
theorem dX2_takesJudge_53 : decode cX2_takesJudge 53 = .ok (.ifCond .eq 7, 3) := by decide +kernel
theorem dX2_takesJudge_56 : decode cX2_takesJudge 56 = .ok (.iconst 1, 1) := by decide +kernel
theorem dX2_takesJudge_57 : decode cX2_takesJudge 57 = .ok (.goto 4, 3) := by decide +kernel
theorem dX2_takesJudge_60 : decode cX2_takesJudge 60 = .ok (.iconst 0, 1) := by decide +kernel
theorem dX2_takesJudge_61 : decode cX2_takesJudge 61 = .ok (.ireturn, 1) := by decide +kernel
set_option maxRecDepth 20000 in
theorem ggX2_takesDraught_X2_fails : GoodIn wsX2_takesDraught wsX2_fails := goodIn_r _ [8, 9, 49, 50, 51, 52, 53, 54, 55, 56, 57] (by decide +kernel) (by decide +kernel)
set_option maxRecDepth 20000 in
theorem gX2_takesDraught_X2_fails : GoodIn wsX2_takesDraught (wsV RX2 69 RX2 yX2_fails wsX2_fails) := goodIn_app (goodIn_of _ (by decide +kernel)) ggX2_takesDraught_X2_fails
set_option maxRecDepth 20000 in
theorem ggX2_takesDraught_X2_readsNumber : GoodIn wsX2_takesDraught wsX2_readsNumber := goodIn_r _ [13, 14, 15, 16, 17, 7, 18, 19, 20, 21, 22, 3, 23, 24, 25, 4, 5, 6, 8, 9, 26, 27, 28, 29, 30, 31, 32, 33, 34, 35, 36, 49, 50, 51, 52, 53, 54, 55, 56, 57] (by decide +kernel) (by decide +kernel)
set_option maxRecDepth 20000 in
theorem gX2_takesDraught_X2_readsNumber : GoodIn wsX2_takesDraught (wsV RX2 113 RX2 yX2_readsNumber wsX2_readsNumber) := goodIn_app (goodIn_of _ (by decide +kernel)) ggX2_takesDraught_X2_readsNumber
set_option maxRecDepth 20000 in
theorem ggX2_takesDraught_X0_addDraught : GoodIn wsX2_takesDraught wsX0_addDraught := goodIn_r _ [41, 42, 43, 44, 58, 59, 60, 61, 62, 63, 64, 65, 66, 67, 68, 69, 70, 71, 72, 73, 74] (by decide +kernel) (by decide +kernel)
set_option maxRecDepth 20000 in
theorem gX2_takesDraught_X0_addDraught : GoodIn wsX2_takesDraught (wsV RX2 138 RX0 yX0_addDraught wsX0_addDraught) := goodIn_app (goodIn_of _ (by decide +kernel)) ggX2_takesDraught_X0_addDraught
set_option maxRecDepth 20000 in
theorem ggX2_takesDraught_X2_readsNext : GoodIn wsX2_takesDraught wsX2_readsNext := goodIn_r _ [18, 19, 20, 21, 22, 14, 3, 23, 24, 7, 25, 4, 5, 6, 8, 9, 26, 27, 28, 29, 49, 50, 51, 52, 53, 54, 55, 56, 57] (by decide +kernel) (by decide +kernel)
set_option maxRecDepth 20000 in
theorem gX2_takesDraught_X2_readsNext : GoodIn wsX2_takesDraught (wsV RX2 48 RX2 yX2_readsNext wsX2_readsNext) := goodIn_app (goodIn_of _ (by decide +kernel)) ggX2_takesDraught_X2_readsNext
set_option maxRecDepth 20000 in
theorem ggX2_takesDraught_X2_takesSign : GoodIn wsX2_takesDraught wsX2_takesSign := goodIn_r _ [48, 14, 15, 16, 17, 7, 18, 19, 20, 21, 22, 3, 23, 24, 25, 4, 5, 6, 8, 9, 26, 27, 28, 29, 49, 50, 51, 52, 53, 54, 55, 56, 57] (by decide +kernel) (by decide +kernel)
set_option maxRecDepth 20000 in
theorem gX2_takesDraught_X2_takesSign : GoodIn wsX2_takesDraught (wsV RX2 107 RX2 yX2_takesSign wsX2_takesSign) := goodIn_app (goodIn_of _ (by decide +kernel)) ggX2_takesDraught_X2_takesSign
theorem dX2_takesDraught_0 : decode cX2_takesDraught 0 = .ok (.aload_n 0, 1) := by decide +kernel
theorem dX2_takesDraught_1 : decode cX2_takesDraught 1 = .ok (.getfield 18, 3) := by decide +kernel
theorem dX2_takesDraught_4 : decode cX2_takesDraught 4 = .ok (.getfield 135, 3) := by decide +kernel
theorem dX2_takesDraught_7 : decode cX2_takesDraught 7 = .ok (.iconst 4, 1) := by decide +kernel
theorem dX2_takesDraught_8 : decode cX2_takesDraught 8 = .ok (.if_icmp .lt 9, 3) := by decide +kernel
theorem dX2_takesDraught_11 : decode cX2_takesDraught 11 = .ok (.aload_n 0, 1) := by decide +kernel
theorem dX2_takesDraught_12 : decode cX2_takesDraught 12 = .ok (.iconst 5, 1) := by decide +kernel
theorem dX2_takesDraught_13 : decode cX2_takesDraught 13 = .ok (.invokevirtual 69, 3) := by decide +kernel
theorem dX2_takesDraught_16 : decode cX2_takesDraught 16 = .ok (.ireturn, 1) := by decide +kernel
theorem dX2_takesDraught_17 : decode cX2_takesDraught 17 = .ok (.aload_n 0, 1) := by decide +kernel
theorem dX2_takesDraught_18 : decode cX2_takesDraught 18 = .ok (.iconst 0, 1) := by decide +kernel
theorem dX2_takesDraught_19 : decode cX2_takesDraught 19 = .ok (.bipush 20, 2) := by decide +kernel
theorem dX2_takesDraught_21 : decode cX2_takesDraught 21 = .ok (.invokevirtual 113, 3) := by decide +kernel
theorem dX2_takesDraught_24 : decode cX2_takesDraught 24 = .ok (.ifCond .ne 5, 3) := by decide +kernel
theorem dX2_takesDraught_27 : decode cX2_takesDraught 27 = .ok (.iconst 0, 1) := by decide +kernel
theorem dX2_takesDraught_28 : decode cX2_takesDraught 28 = .ok (.ireturn, 1) := by decide +kernel
theorem dX2_takesDraught_29 : decode cX2_takesDraught 29 = .ok (.aload_n 0, 1) := by decide +kernel
theorem dX2_takesDraught_30 : decode cX2_takesDraught 30 = .ok (.getfield 42, 3) := by decide +kernel
theorem dX2_takesDraught_33 : decode cX2_takesDraught 33 = .ok (.istore_n 1, 1) := by decide +kernel
theorem dX2_takesDraught_34 : decode cX2_takesDraught 34 = .ok (.aload_n 0, 1) := by decide +kernel
theorem dX2_takesDraught_35 : decode cX2_takesDraught 35 = .ok (.iconst 1, 1) := by decide +kernel
theorem dX2_takesDraught_36 : decode cX2_takesDraught 36 = .ok (.bipush 9, 2) := by decide +kernel
theorem dX2_takesDraught_38 : decode cX2_takesDraught 38 = .ok (.invokevirtual 113, 3) := by decide +kernel
theorem dX2_takesDraught_41 : decode cX2_takesDraught 41 = .ok (.ifCond .ne 5, 3) := by decide +kernel
theorem dX2_takesDraught_44 : decode cX2_takesDraught 44 = .ok (.iconst 0, 1) := by decide +kernel
theorem dX2_takesDraught_45 : decode cX2_takesDraught 45 = .ok (.ireturn, 1) := by decide +kernel
theorem dX2_takesDraught_46 : decode cX2_takesDraught 46 = .ok (.aload_n 0, 1) := by decide +kernel
theorem dX2_takesDraught_47 : decode cX2_takesDraught 47 = .ok (.getfield 18, 3) := by decide +kernel
theorem dX2_takesDraught_50 : decode cX2_takesDraught 50 = .ok (.iload_n 1, 1) := by decide +kernel
theorem dX2_takesDraught_51 : decode cX2_takesDraught 51 = .ok (.aload_n 0, 1) := by decide +kernel
theorem dX2_takesDraught_52 : decode cX2_takesDraught 52 = .ok (.getfield 42, 3) := by decide +kernel
theorem dX2_takesDraught_55 : decode cX2_takesDraught 55 = .ok (.invokevirtual 138, 3) := by decide +kernel
theorem dX2_takesDraught_58 : decode cX2_takesDraught 58 = .ok (.pop, 1) := by decide +kernel
theorem dX2_takesDraught_59 : decode cX2_takesDraught 59 = .ok (.aload_n 0, 1) := by decide +kernel
theorem dX2_takesDraught_60 : decode cX2_takesDraught 60 = .ok (.invokevirtual 48, 3) := by decide +kernel
theorem dX2_takesDraught_63 : decode cX2_takesDraught 63 = .ok (.ifCond .eq 14, 3) := by decide +kernel
theorem dX2_takesDraught_66 : decode cX2_takesDraught 66 = .ok (.aload_n 0, 1) := by decide +kernel
theorem dX2_takesDraught_67 : decode cX2_takesDraught 67 = .ok (.invokevirtual 107, 3) := by decide +kernel
theorem dX2_takesDraught_70 : decode cX2_takesDraught 70 = .ok (.ifCond .eq 7, 3) := by decide +kernel
theorem dX2_takesDraught_73 : decode cX2_takesDraught 73 = .ok (.iconst 1, 1) := by decide +kernel
theorem dX2_takesDraught_74 : decode cX2_takesDraught 74 = .ok (.goto 4, 3) := by decide +kernel
theorem dX2_takesDraught_77 : decode cX2_takesDraught 77 = .ok (.iconst 0, 1) := by decide +kernel
theorem dX2_takesDraught_78 : decode cX2_takesDraught 78 = .ok (.ireturn, 1) := by decide +kernel
set_option maxRecDepth 20000 in
theorem ggX2_takesDocket_X2_fails : GoodIn wsX2_takesDocket wsX2_fails := goodIn_r _ [9, 10, 54, 55, 56, 57, 58, 59, 60, 61, 62] (by decide +kernel) (by decide +kernel)
set_option maxRecDepth 20000 in
theorem gX2_takesDocket_X2_fails : GoodIn wsX2_takesDocket (wsV RX2 69 RX2 yX2_fails wsX2_fails) := goodIn_app (goodIn_of _ (by decide +kernel)) ggX2_takesDocket_X2_fails
set_option maxRecDepth 20000 in
theorem ggX2_takesDocket_X2_readsNext : GoodIn wsX2_takesDocket wsX2_readsNext := goodIn_r _ [14, 15, 16, 17, 18, 2, 19, 20, 21, 8, 22, 5, 6, 7, 9, 10, 23, 24, 25, 26, 54, 55, 56, 57, 58, 59, 60, 61, 62] (by decide +kernel) (by decide +kernel)
set_option maxRecDepth 20000 in
theorem gX2_takesDocket_X2_readsNext : GoodIn wsX2_takesDocket (wsV RX2 48 RX2 yX2_readsNext wsX2_readsNext) := goodIn_app (goodIn_of _ (by decide +kernel)) ggX2_takesDocket_X2_readsNext
set_option maxRecDepth 20000 in
theorem ggX2_takesDocket_X2_takesHearing : GoodIn wsX2_takesDocket wsX2_takesHearing := goodIn_r _ [30, 19, 3, 31, 32, 33, 8, 34, 35, 36, 37, 5, 6, 7, 9, 10, 38, 39, 40, 41, 2, 11, 12, 13, 14, 15, 16, 17, 18, 20, 21, 22, 23, 24, 25, 26, 42, 43, 44, 45, 46, 47, 48, 49, 54, 55, 56, 57, 58, 59, 60, 61, 62, 63, 64, 65, 66, 67, 68, 69, 70, 71, 72, 73, 74, 75, 76, 77, 78, 79] (by decide +kernel) (by decide +kernel)
set_option maxRecDepth 20000 in
theorem gX2_takesDocket_X2_takesHearing : GoodIn wsX2_takesDocket (wsV RX2 141 RX2 yX2_takesHearing wsX2_takesHearing) := goodIn_app (goodIn_of _ (by decide +kernel)) ggX2_takesDocket_X2_takesHearing
set_option maxRecDepth 20000 in
theorem ggX2_takesDocket_X2_takesSign : GoodIn wsX2_takesDocket wsX2_takesSign := goodIn_r _ [53, 2, 11, 12, 13, 8, 14, 15, 16, 17, 18, 19, 20, 21, 22, 5, 6, 7, 9, 10, 23, 24, 25, 26, 54, 55, 56, 57, 58, 59, 60, 61, 62] (by decide +kernel) (by decide +kernel)
set_option maxRecDepth 20000 in
theorem gX2_takesDocket_X2_takesSign : GoodIn wsX2_takesDocket (wsV RX2 107 RX2 yX2_takesSign wsX2_takesSign) := goodIn_app (goodIn_of _ (by decide +kernel)) ggX2_takesDocket_X2_takesSign
theorem dX2_takesDocket_0 : decode cX2_takesDocket 0 = .ok (.aload_n 0, 1) := by decide +kernel
theorem dX2_takesDocket_1 : decode cX2_takesDocket 1 = .ok (.getfield 29, 3) := by decide +kernel
theorem dX2_takesDocket_4 : decode cX2_takesDocket 4 = .ok (.ifCond .eq 9, 3) := by decide +kernel
theorem dX2_takesDocket_7 : decode cX2_takesDocket 7 = .ok (.aload_n 0, 1) := by decide +kernel
theorem dX2_takesDocket_8 : decode cX2_takesDocket 8 = .ok (.iconst 4, 1) := by decide +kernel
theorem dX2_takesDocket_9 : decode cX2_takesDocket 9 = .ok (.invokevirtual 69, 3) := by decide +kernel
theorem dX2_takesDocket_12 : decode cX2_takesDocket 12 = .ok (.ireturn, 1) := by decide +kernel
theorem dX2_takesDocket_13 : decode cX2_takesDocket 13 = .ok (.aload_n 0, 1) := by decide +kernel
theorem dX2_takesDocket_14 : decode cX2_takesDocket 14 = .ok (.iconst 1, 1) := by decide +kernel
theorem dX2_takesDocket_15 : decode cX2_takesDocket 15 = .ok (.putfield 29, 3) := by decide +kernel
theorem dX2_takesDocket_18 : decode cX2_takesDocket 18 = .ok (.aload_n 0, 1) := by decide +kernel
theorem dX2_takesDocket_19 : decode cX2_takesDocket 19 = .ok (.invokevirtual 48, 3) := by decide +kernel
theorem dX2_takesDocket_22 : decode cX2_takesDocket 22 = .ok (.ifCond .ne 5, 3) := by decide +kernel
theorem dX2_takesDocket_25 : decode cX2_takesDocket 25 = .ok (.iconst 0, 1) := by decide +kernel
theorem dX2_takesDocket_26 : decode cX2_takesDocket 26 = .ok (.ireturn, 1) := by decide +kernel
theorem dX2_takesDocket_27 : decode cX2_takesDocket 27 = .ok (.iconst 0, 1) := by decide +kernel
theorem dX2_takesDocket_28 : decode cX2_takesDocket 28 = .ok (.istore_n 1, 1) := by decide +kernel
theorem dX2_takesDocket_29 : decode cX2_takesDocket 29 = .ok (.iload_n 1, 1) := by decide +kernel
theorem dX2_takesDocket_30 : decode cX2_takesDocket 30 = .ok (.bipush 6, 2) := by decide +kernel
theorem dX2_takesDocket_32 : decode cX2_takesDocket 32 = .ok (.if_icmp .ge 26, 3) := by decide +kernel
theorem dX2_takesDocket_35 : decode cX2_takesDocket 35 = .ok (.aload_n 0, 1) := by decide +kernel
theorem dX2_takesDocket_36 : decode cX2_takesDocket 36 = .ok (.getfield 33, 3) := by decide +kernel
theorem dX2_takesDocket_39 : decode cX2_takesDocket 39 = .ok (.iconst 2, 1) := by decide +kernel
theorem dX2_takesDocket_40 : decode cX2_takesDocket 40 = .ok (.if_icmp .ne 18, 3) := by decide +kernel
theorem dX2_takesDocket_43 : decode cX2_takesDocket 43 = .ok (.aload_n 0, 1) := by decide +kernel
theorem dX2_takesDocket_44 : decode cX2_takesDocket 44 = .ok (.invokevirtual 141, 3) := by decide +kernel
theorem dX2_takesDocket_47 : decode cX2_takesDocket 47 = .ok (.ifCond .ne 5, 3) := by decide +kernel
theorem dX2_takesDocket_50 : decode cX2_takesDocket 50 = .ok (.iconst 0, 1) := by decide +kernel
theorem dX2_takesDocket_51 : decode cX2_takesDocket 51 = .ok (.ireturn, 1) := by decide +kernel
theorem dX2_takesDocket_52 : decode cX2_takesDocket 52 = .ok (.iinc 1 1, 3) := by decide +kernel
theorem dX2_takesDocket_55 : decode cX2_takesDocket 55 = .ok (.goto (-26), 3) := by decide +kernel
theorem dX2_takesDocket_58 : decode cX2_takesDocket 58 = .ok (.aload_n 0, 1) := by decide +kernel
theorem dX2_takesDocket_59 : decode cX2_takesDocket 59 = .ok (.getfield 18, 3) := by decide +kernel
theorem dX2_takesDocket_62 : decode cX2_takesDocket 62 = .ok (.getfield 52, 3) := by decide +kernel
theorem dX2_takesDocket_65 : decode cX2_takesDocket 65 = .ok (.bipush 6, 2) := by decide +kernel
theorem dX2_takesDocket_67 : decode cX2_takesDocket 67 = .ok (.if_icmp .lt 22, 3) := by decide +kernel
theorem dX2_takesDocket_70 : decode cX2_takesDocket 70 = .ok (.aload_n 0, 1) := by decide +kernel
theorem dX2_takesDocket_71 : decode cX2_takesDocket 71 = .ok (.getfield 33, 3) := by decide +kernel
theorem dX2_takesDocket_74 : decode cX2_takesDocket 74 = .ok (.iconst 3, 1) := by decide +kernel
theorem dX2_takesDocket_75 : decode cX2_takesDocket 75 = .ok (.if_icmp .eq 14, 3) := by decide +kernel
theorem dX2_takesDocket_78 : decode cX2_takesDocket 78 = .ok (.aload_n 0, 1) := by decide +kernel
theorem dX2_takesDocket_79 : decode cX2_takesDocket 79 = .ok (.getfield 33, 3) := by decide +kernel
theorem dX2_takesDocket_82 : decode cX2_takesDocket 82 = .ok (.ifCond .eq 7, 3) := by decide +kernel
theorem dX2_takesDocket_85 : decode cX2_takesDocket 85 = .ok (.iconst 1, 1) := by decide +kernel
theorem dX2_takesDocket_86 : decode cX2_takesDocket 86 = .ok (.goto 4, 3) := by decide +kernel
theorem dX2_takesDocket_89 : decode cX2_takesDocket 89 = .ok (.iconst 0, 1) := by decide +kernel
theorem dX2_takesDocket_90 : decode cX2_takesDocket 90 = .ok (.istore_n 1, 1) := by decide +kernel
theorem dX2_takesDocket_91 : decode cX2_takesDocket 91 = .ok (.iload_n 1, 1) := by decide +kernel
theorem dX2_takesDocket_92 : decode cX2_takesDocket 92 = .ok (.ifCond .eq 11, 3) := by decide +kernel
theorem dX2_takesDocket_95 : decode cX2_takesDocket 95 = .ok (.aload_n 0, 1) := by decide +kernel
theorem dX2_takesDocket_96 : decode cX2_takesDocket 96 = .ok (.iconst 5, 1) := by decide +kernel
theorem dX2_takesDocket_97 : decode cX2_takesDocket 97 = .ok (.invokevirtual 69, 3) := by decide +kernel
theorem dX2_takesDocket_100 : decode cX2_takesDocket 100 = .ok (.goto 7, 3) := by decide +kernel
theorem dX2_takesDocket_103 : decode cX2_takesDocket 103 = .ok (.aload_n 0, 1) := by decide +kernel
theorem dX2_takesDocket_104 : decode cX2_takesDocket 104 = .ok (.invokevirtual 107, 3) := by decide +kernel
theorem dX2_takesDocket_107 : decode cX2_takesDocket 107 = .ok (.ireturn, 1) := by decide +kernel
set_option maxRecDepth 20000 in
theorem ggX2_takesHearing_X2_isNumberIn : GoodIn wsX2_takesHearing wsX2_isNumberIn := goodIn_r _ [7, 1, 8, 9, 10, 11, 12, 13, 6, 14, 15, 44, 45, 46, 47, 48, 49, 50, 51, 52] (by decide +kernel) (by decide +kernel)
set_option maxRecDepth 20000 in
theorem gX2_takesHearing_X2_isNumberIn : GoodIn wsX2_takesHearing (wsV RX2 126 RX2 yX2_isNumberIn wsX2_isNumberIn) := goodIn_app (goodIn_of _ (by decide +kernel)) ggX2_takesHearing_X2_isNumberIn
set_option maxRecDepth 20000 in
theorem ggX2_takesHearing_X2_readsNumber : GoodIn wsX2_takesHearing wsX2_readsNumber := goodIn_r _ [19, 20, 21, 22, 23, 6, 24, 25, 26, 27, 28, 1, 29, 30, 31, 11, 12, 13, 14, 15, 32, 33, 34, 35, 3, 4, 5, 7, 8, 9, 10, 44, 45, 46, 47, 48, 49, 50, 51, 52] (by decide +kernel) (by decide +kernel)
set_option maxRecDepth 20000 in
theorem gX2_takesHearing_X2_readsNumber : GoodIn wsX2_takesHearing (wsV RX2 113 RX2 yX2_readsNumber wsX2_readsNumber) := goodIn_app (goodIn_of _ (by decide +kernel)) ggX2_takesHearing_X2_readsNumber
set_option maxRecDepth 20000 in
theorem ggX2_takesHearing_X0_addHearing : GoodIn wsX2_takesHearing wsX0_addHearing := goodIn_r _ [40, 41, 42, 43, 53, 54, 55, 56, 57, 58, 59, 60, 61, 62, 63, 64, 65, 66, 67, 68, 69] (by decide +kernel) (by decide +kernel)
set_option maxRecDepth 20000 in
theorem gX2_takesHearing_X0_addHearing : GoodIn wsX2_takesHearing (wsV RX2 144 RX0 yX0_addHearing wsX0_addHearing) := goodIn_app (goodIn_of _ (by decide +kernel)) ggX2_takesHearing_X0_addHearing
set_option maxRecDepth 20000 in
theorem ggX2_takesHearing_X2_readsNext : GoodIn wsX2_takesHearing wsX2_readsNext := goodIn_r _ [24, 25, 26, 27, 28, 20, 1, 29, 30, 6, 31, 11, 12, 13, 14, 15, 32, 33, 34, 35, 44, 45, 46, 47, 48, 49, 50, 51, 52] (by decide +kernel) (by decide +kernel)
set_option maxRecDepth 20000 in
theorem gX2_takesHearing_X2_readsNext : GoodIn wsX2_takesHearing (wsV RX2 48 RX2 yX2_readsNext wsX2_readsNext) := goodIn_app (goodIn_of _ (by decide +kernel)) ggX2_takesHearing_X2_readsNext
theorem dX2_takesHearing_0 : decode cX2_takesHearing 0 = .ok (.aload_n 0, 1) := by decide +kernel
theorem dX2_takesHearing_1 : decode cX2_takesHearing 1 = .ok (.iconst 0, 1) := by decide +kernel
theorem dX2_takesHearing_2 : decode cX2_takesHearing 2 = .ok (.iconst 3, 1) := by decide +kernel
theorem dX2_takesHearing_3 : decode cX2_takesHearing 3 = .ok (.invokevirtual 126, 3) := by decide +kernel
theorem dX2_takesHearing_6 : decode cX2_takesHearing 6 = .ok (.ifCond .ne 5, 3) := by decide +kernel
theorem dX2_takesHearing_9 : decode cX2_takesHearing 9 = .ok (.iconst 0, 1) := by decide +kernel
theorem dX2_takesHearing_10 : decode cX2_takesHearing 10 = .ok (.ireturn, 1) := by decide +kernel
theorem dX2_takesHearing_11 : decode cX2_takesHearing 11 = .ok (.aload_n 0, 1) := by decide +kernel
theorem dX2_takesHearing_12 : decode cX2_takesHearing 12 = .ok (.getfield 42, 3) := by decide +kernel
theorem dX2_takesHearing_15 : decode cX2_takesHearing 15 = .ok (.istore_n 1, 1) := by decide +kernel
theorem dX2_takesHearing_16 : decode cX2_takesHearing 16 = .ok (.aload_n 0, 1) := by decide +kernel
theorem dX2_takesHearing_17 : decode cX2_takesHearing 17 = .ok (.iconst 0, 1) := by decide +kernel
theorem dX2_takesHearing_18 : decode cX2_takesHearing 18 = .ok (.iconst 2, 1) := by decide +kernel
theorem dX2_takesHearing_19 : decode cX2_takesHearing 19 = .ok (.invokevirtual 113, 3) := by decide +kernel
theorem dX2_takesHearing_22 : decode cX2_takesHearing 22 = .ok (.ifCond .ne 5, 3) := by decide +kernel
theorem dX2_takesHearing_25 : decode cX2_takesHearing 25 = .ok (.iconst 0, 1) := by decide +kernel
theorem dX2_takesHearing_26 : decode cX2_takesHearing 26 = .ok (.ireturn, 1) := by decide +kernel
theorem dX2_takesHearing_27 : decode cX2_takesHearing 27 = .ok (.aload_n 0, 1) := by decide +kernel
theorem dX2_takesHearing_28 : decode cX2_takesHearing 28 = .ok (.getfield 18, 3) := by decide +kernel
theorem dX2_takesHearing_31 : decode cX2_takesHearing 31 = .ok (.iload_n 1, 1) := by decide +kernel
theorem dX2_takesHearing_32 : decode cX2_takesHearing 32 = .ok (.aload_n 0, 1) := by decide +kernel
theorem dX2_takesHearing_33 : decode cX2_takesHearing 33 = .ok (.getfield 42, 3) := by decide +kernel
theorem dX2_takesHearing_36 : decode cX2_takesHearing 36 = .ok (.invokevirtual 144, 3) := by decide +kernel
theorem dX2_takesHearing_39 : decode cX2_takesHearing 39 = .ok (.pop, 1) := by decide +kernel
theorem dX2_takesHearing_40 : decode cX2_takesHearing 40 = .ok (.aload_n 0, 1) := by decide +kernel
theorem dX2_takesHearing_41 : decode cX2_takesHearing 41 = .ok (.invokevirtual 48, 3) := by decide +kernel
theorem dX2_takesHearing_44 : decode cX2_takesHearing 44 = .ok (.ireturn, 1) := by decide +kernel
set_option maxRecDepth 20000 in
theorem ggX2_takesSign_X2_readsNext : GoodIn wsX2_takesSign wsX2_readsNext := goodIn_r _ [6, 7, 8, 9, 10, 1, 11, 12, 13, 5, 14, 15, 16, 17, 18, 19, 20, 21, 22, 23, 24, 25, 26, 27, 28, 29, 30, 31, 32] (by decide +kernel) (by decide +kernel)
set_option maxRecDepth 20000 in
theorem gX2_takesSign_X2_readsNext : GoodIn wsX2_takesSign (wsV RX2 48 RX2 yX2_readsNext wsX2_readsNext) := goodIn_app (goodIn_of _ (by decide +kernel)) ggX2_takesSign_X2_readsNext
set_option maxRecDepth 20000 in
theorem ggX2_takesSign_X2_fails : GoodIn wsX2_takesSign wsX2_fails := goodIn_r _ [18, 19, 24, 25, 26, 27, 28, 29, 30, 31, 32] (by decide +kernel) (by decide +kernel)
set_option maxRecDepth 20000 in
theorem gX2_takesSign_X2_fails : GoodIn wsX2_takesSign (wsV RX2 69 RX2 yX2_fails wsX2_fails) := goodIn_app (goodIn_of _ (by decide +kernel)) ggX2_takesSign_X2_fails
theorem dX2_takesSign_0 : decode cX2_takesSign 0 = .ok (.aload_n 0, 1) := by decide +kernel
theorem dX2_takesSign_1 : decode cX2_takesSign 1 = .ok (.getfield 33, 3) := by decide +kernel
theorem dX2_takesSign_4 : decode cX2_takesSign 4 = .ok (.iconst 3, 1) := by decide +kernel
theorem dX2_takesSign_5 : decode cX2_takesSign 5 = .ok (.if_icmp .ne 10, 3) := by decide +kernel
theorem dX2_takesSign_8 : decode cX2_takesSign 8 = .ok (.aload_n 0, 1) := by decide +kernel
theorem dX2_takesSign_9 : decode cX2_takesSign 9 = .ok (.invokevirtual 48, 3) := by decide +kernel
theorem dX2_takesSign_12 : decode cX2_takesSign 12 = .ok (.goto 8, 3) := by decide +kernel
theorem dX2_takesSign_15 : decode cX2_takesSign 15 = .ok (.aload_n 0, 1) := by decide +kernel
theorem dX2_takesSign_16 : decode cX2_takesSign 16 = .ok (.iconst 2, 1) := by decide +kernel
theorem dX2_takesSign_17 : decode cX2_takesSign 17 = .ok (.invokevirtual 69, 3) := by decide +kernel
theorem dX2_takesSign_20 : decode cX2_takesSign 20 = .ok (.ireturn, 1) := by decide +kernel
set_option maxRecDepth 20000 in
theorem ggX2_readsNumber_X2_readsNext : GoodIn wsX2_readsNumber wsX2_readsNext := goodIn_r _ [6, 7, 8, 9, 10, 1, 11, 12, 13, 5, 14, 15, 16, 17, 18, 19, 20, 21, 22, 23, 31, 32, 33, 34, 35, 36, 37, 38, 39] (by decide +kernel) (by decide +kernel)
set_option maxRecDepth 20000 in
theorem gX2_readsNumber_X2_readsNext : GoodIn wsX2_readsNumber (wsV RX2 48 RX2 yX2_readsNext wsX2_readsNext) := goodIn_app (goodIn_of _ (by decide +kernel)) ggX2_readsNumber_X2_readsNext
set_option maxRecDepth 20000 in
theorem ggX2_readsNumber_X2_isNumberIn : GoodIn wsX2_readsNumber wsX2_isNumberIn := goodIn_r _ [27, 11, 28, 29, 30, 15, 16, 17, 5, 18, 19, 31, 32, 33, 34, 35, 36, 37, 38, 39] (by decide +kernel) (by decide +kernel)
set_option maxRecDepth 20000 in
theorem gX2_readsNumber_X2_isNumberIn : GoodIn wsX2_readsNumber (wsV RX2 126 RX2 yX2_isNumberIn wsX2_isNumberIn) := goodIn_app (goodIn_of _ (by decide +kernel)) ggX2_readsNumber_X2_isNumberIn
set_option maxRecDepth 20000 in
theorem ggX2_readsNumber_X2_fails : GoodIn wsX2_readsNumber wsX2_fails := goodIn_r _ [18, 19, 31, 32, 33, 34, 35, 36, 37, 38, 39] (by decide +kernel) (by decide +kernel)
set_option maxRecDepth 20000 in
theorem gX2_readsNumber_X2_fails : GoodIn wsX2_readsNumber (wsV RX2 69 RX2 yX2_fails wsX2_fails) := goodIn_app (goodIn_of _ (by decide +kernel)) ggX2_readsNumber_X2_fails
theorem dX2_readsNumber_0 : decode cX2_readsNumber 0 = .ok (.aload_n 0, 1) := by decide +kernel
theorem dX2_readsNumber_1 : decode cX2_readsNumber 1 = .ok (.invokevirtual 48, 3) := by decide +kernel
theorem dX2_readsNumber_4 : decode cX2_readsNumber 4 = .ok (.ifCond .ne 5, 3) := by decide +kernel
theorem dX2_readsNumber_7 : decode cX2_readsNumber 7 = .ok (.iconst 0, 1) := by decide +kernel
theorem dX2_readsNumber_8 : decode cX2_readsNumber 8 = .ok (.ireturn, 1) := by decide +kernel
theorem dX2_readsNumber_9 : decode cX2_readsNumber 9 = .ok (.aload_n 0, 1) := by decide +kernel
theorem dX2_readsNumber_10 : decode cX2_readsNumber 10 = .ok (.getfield 33, 3) := by decide +kernel
theorem dX2_readsNumber_13 : decode cX2_readsNumber 13 = .ok (.iconst 2, 1) := by decide +kernel
theorem dX2_readsNumber_14 : decode cX2_readsNumber 14 = .ok (.if_icmp .ne 12, 3) := by decide +kernel
theorem dX2_readsNumber_17 : decode cX2_readsNumber 17 = .ok (.aload_n 0, 1) := by decide +kernel
theorem dX2_readsNumber_18 : decode cX2_readsNumber 18 = .ok (.iload_n 1, 1) := by decide +kernel
theorem dX2_readsNumber_19 : decode cX2_readsNumber 19 = .ok (.iload_n 2, 1) := by decide +kernel
theorem dX2_readsNumber_20 : decode cX2_readsNumber 20 = .ok (.invokevirtual 126, 3) := by decide +kernel
theorem dX2_readsNumber_23 : decode cX2_readsNumber 23 = .ok (.goto 8, 3) := by decide +kernel
theorem dX2_readsNumber_26 : decode cX2_readsNumber 26 = .ok (.aload_n 0, 1) := by decide +kernel
theorem dX2_readsNumber_27 : decode cX2_readsNumber 27 = .ok (.iconst 2, 1) := by decide +kernel
theorem dX2_readsNumber_28 : decode cX2_readsNumber 28 = .ok (.invokevirtual 69, 3) := by decide +kernel
theorem dX2_readsNumber_31 : decode cX2_readsNumber 31 = .ok (.ireturn, 1) := by decide +kernel
set_option maxRecDepth 20000 in
theorem ggX2_isNumberIn_X6_isIn : GoodIn wsX2_isNumberIn wsX6_isIn := goodIn_r _ [4] (by decide +kernel) (by decide +kernel)
set_option maxRecDepth 20000 in
theorem gX2_isNumberIn_X6_isIn_n147 : GoodIn wsX2_isNumberIn (wsX6_isIn) := ggX2_isNumberIn_X6_isIn
set_option maxRecDepth 20000 in
theorem ggX2_isNumberIn_X2_fails : GoodIn wsX2_isNumberIn wsX2_fails := goodIn_r _ [9, 10, 11, 12, 13, 14, 15, 16, 17, 18, 19] (by decide +kernel) (by decide +kernel)
set_option maxRecDepth 20000 in
theorem gX2_isNumberIn_X2_fails : GoodIn wsX2_isNumberIn (wsV RX2 69 RX2 yX2_fails wsX2_fails) := goodIn_app (goodIn_of _ (by decide +kernel)) ggX2_isNumberIn_X2_fails
theorem dX2_isNumberIn_0 : decode cX2_isNumberIn 0 = .ok (.aload_n 0, 1) := by decide +kernel
theorem dX2_isNumberIn_1 : decode cX2_isNumberIn 1 = .ok (.getfield 42, 3) := by decide +kernel
theorem dX2_isNumberIn_4 : decode cX2_isNumberIn 4 = .ok (.i2l, 1) := by decide +kernel
theorem dX2_isNumberIn_5 : decode cX2_isNumberIn 5 = .ok (.iload_n 1, 1) := by decide +kernel
theorem dX2_isNumberIn_6 : decode cX2_isNumberIn 6 = .ok (.iload_n 2, 1) := by decide +kernel
theorem dX2_isNumberIn_7 : decode cX2_isNumberIn 7 = .ok (.invokestatic 147, 3) := by decide +kernel
theorem dX2_isNumberIn_10 : decode cX2_isNumberIn 10 = .ok (.ifCond .ne 11, 3) := by decide +kernel
theorem dX2_isNumberIn_13 : decode cX2_isNumberIn 13 = .ok (.aload_n 0, 1) := by decide +kernel
theorem dX2_isNumberIn_14 : decode cX2_isNumberIn 14 = .ok (.iconst 3, 1) := by decide +kernel
theorem dX2_isNumberIn_15 : decode cX2_isNumberIn 15 = .ok (.invokevirtual 69, 3) := by decide +kernel
theorem dX2_isNumberIn_18 : decode cX2_isNumberIn 18 = .ok (.ifCond .eq 7, 3) := by decide +kernel
theorem dX2_isNumberIn_21 : decode cX2_isNumberIn 21 = .ok (.iconst 1, 1) := by decide +kernel
theorem dX2_isNumberIn_22 : decode cX2_isNumberIn 22 = .ok (.goto 4, 3) := by decide +kernel
theorem dX2_isNumberIn_25 : decode cX2_isNumberIn 25 = .ok (.iconst 0, 1) := by decide +kernel
theorem dX2_isNumberIn_26 : decode cX2_isNumberIn 26 = .ok (.ireturn, 1) := by decide +kernel
set_option maxRecDepth 20000 in
theorem ggX2_readsNext_X2_tokenOf : GoodIn wsX2_readsNext wsX2_tokenOf := goodIn_r _ [10] (by decide +kernel) (by decide +kernel)
set_option maxRecDepth 20000 in
theorem gX2_readsNext_X2_tokenOf : GoodIn wsX2_readsNext (va_wsS RX2 151 yX2_tokenOf wsX2_tokenOf) := goodIn_app (goodIn_of _ (by decide +kernel)) ggX2_readsNext_X2_tokenOf
set_option maxRecDepth 20000 in
theorem ggX2_readsNext_X2_fails : GoodIn wsX2_readsNext wsX2_fails := goodIn_r _ [14, 15, 20, 21, 22, 23, 24, 25, 26, 27, 28] (by decide +kernel) (by decide +kernel)
set_option maxRecDepth 20000 in
theorem gX2_readsNext_X2_fails : GoodIn wsX2_readsNext (wsV RX2 69 RX2 yX2_fails wsX2_fails) := goodIn_app (goodIn_of _ (by decide +kernel)) ggX2_readsNext_X2_fails
set_option maxRecDepth 20000 in
theorem ggX2_readsNext_X2_figuresRead : GoodIn wsX2_readsNext wsX2_figuresRead := goodIn_r _ [19, 4, 1, 3, 20, 21, 22, 23, 24, 25, 26, 27, 28] (by decide +kernel) (by decide +kernel)
set_option maxRecDepth 20000 in
theorem gX2_readsNext_X2_figuresRead : GoodIn wsX2_readsNext (wsV RX2 155 RX2 yX2_figuresRead wsX2_figuresRead) := goodIn_app (goodIn_of _ (by decide +kernel)) ggX2_readsNext_X2_figuresRead
theorem dX2_readsNext_0 : decode cX2_readsNext 0 = .ok (.aload_n 0, 1) := by decide +kernel
theorem dX2_readsNext_1 : decode cX2_readsNext 1 = .ok (.getfield 39, 3) := by decide +kernel
theorem dX2_readsNext_4 : decode cX2_readsNext 4 = .ok (.aload_n 0, 1) := by decide +kernel
theorem dX2_readsNext_5 : decode cX2_readsNext 5 = .ok (.getfield 22, 3) := by decide +kernel
theorem dX2_readsNext_8 : decode cX2_readsNext 8 = .ok (.if_icmp .ge 30, 3) := by decide +kernel
theorem dX2_readsNext_11 : decode cX2_readsNext 11 = .ok (.aload_n 0, 1) := by decide +kernel
theorem dX2_readsNext_12 : decode cX2_readsNext 12 = .ok (.getfield 9, 3) := by decide +kernel
theorem dX2_readsNext_15 : decode cX2_readsNext 15 = .ok (.aload_n 0, 1) := by decide +kernel
theorem dX2_readsNext_16 : decode cX2_readsNext 16 = .ok (.getfield 39, 3) := by decide +kernel
theorem dX2_readsNext_19 : decode cX2_readsNext 19 = .ok (.iaload, 1) := by decide +kernel
theorem dX2_readsNext_20 : decode cX2_readsNext 20 = .ok (.bipush 32, 2) := by decide +kernel
theorem dX2_readsNext_22 : decode cX2_readsNext 22 = .ok (.if_icmp .ne 16, 3) := by decide +kernel
theorem dX2_readsNext_25 : decode cX2_readsNext 25 = .ok (.aload_n 0, 1) := by decide +kernel
theorem dX2_readsNext_26 : decode cX2_readsNext 26 = .ok (.dup, 1) := by decide +kernel
theorem dX2_readsNext_27 : decode cX2_readsNext 27 = .ok (.getfield 39, 3) := by decide +kernel
theorem dX2_readsNext_30 : decode cX2_readsNext 30 = .ok (.iconst 1, 1) := by decide +kernel
theorem dX2_readsNext_31 : decode cX2_readsNext 31 = .ok (.iadd, 1) := by decide +kernel
theorem dX2_readsNext_32 : decode cX2_readsNext 32 = .ok (.putfield 39, 3) := by decide +kernel
theorem dX2_readsNext_35 : decode cX2_readsNext 35 = .ok (.goto (-35), 3) := by decide +kernel
theorem dX2_readsNext_38 : decode cX2_readsNext 38 = .ok (.aload_n 0, 1) := by decide +kernel
theorem dX2_readsNext_39 : decode cX2_readsNext 39 = .ok (.aload_n 0, 1) := by decide +kernel
theorem dX2_readsNext_40 : decode cX2_readsNext 40 = .ok (.getfield 39, 3) := by decide +kernel
theorem dX2_readsNext_43 : decode cX2_readsNext 43 = .ok (.putfield 36, 3) := by decide +kernel
theorem dX2_readsNext_46 : decode cX2_readsNext 46 = .ok (.aload_n 0, 1) := by decide +kernel
theorem dX2_readsNext_47 : decode cX2_readsNext 47 = .ok (.getfield 36, 3) := by decide +kernel
theorem dX2_readsNext_50 : decode cX2_readsNext 50 = .ok (.aload_n 0, 1) := by decide +kernel
theorem dX2_readsNext_51 : decode cX2_readsNext 51 = .ok (.getfield 22, 3) := by decide +kernel
theorem dX2_readsNext_54 : decode cX2_readsNext 54 = .ok (.if_icmp .lt 10, 3) := by decide +kernel
theorem dX2_readsNext_57 : decode cX2_readsNext 57 = .ok (.aload_n 0, 1) := by decide +kernel
theorem dX2_readsNext_58 : decode cX2_readsNext 58 = .ok (.iconst 0, 1) := by decide +kernel
theorem dX2_readsNext_59 : decode cX2_readsNext 59 = .ok (.putfield 33, 3) := by decide +kernel
theorem dX2_readsNext_62 : decode cX2_readsNext 62 = .ok (.iconst 1, 1) := by decide +kernel
theorem dX2_readsNext_63 : decode cX2_readsNext 63 = .ok (.ireturn, 1) := by decide +kernel
theorem dX2_readsNext_64 : decode cX2_readsNext 64 = .ok (.aload_n 0, 1) := by decide +kernel
theorem dX2_readsNext_65 : decode cX2_readsNext 65 = .ok (.aload_n 0, 1) := by decide +kernel
theorem dX2_readsNext_66 : decode cX2_readsNext 66 = .ok (.getfield 9, 3) := by decide +kernel
theorem dX2_readsNext_69 : decode cX2_readsNext 69 = .ok (.aload_n 0, 1) := by decide +kernel
theorem dX2_readsNext_70 : decode cX2_readsNext 70 = .ok (.getfield 36, 3) := by decide +kernel
theorem dX2_readsNext_73 : decode cX2_readsNext 73 = .ok (.iaload, 1) := by decide +kernel
theorem dX2_readsNext_74 : decode cX2_readsNext 74 = .ok (.invokestatic 151, 3) := by decide +kernel
theorem dX2_readsNext_77 : decode cX2_readsNext 77 = .ok (.putfield 33, 3) := by decide +kernel
theorem dX2_readsNext_80 : decode cX2_readsNext 80 = .ok (.aload_n 0, 1) := by decide +kernel
theorem dX2_readsNext_81 : decode cX2_readsNext 81 = .ok (.dup, 1) := by decide +kernel
theorem dX2_readsNext_82 : decode cX2_readsNext 82 = .ok (.getfield 39, 3) := by decide +kernel
theorem dX2_readsNext_85 : decode cX2_readsNext 85 = .ok (.iconst 1, 1) := by decide +kernel
theorem dX2_readsNext_86 : decode cX2_readsNext 86 = .ok (.iadd, 1) := by decide +kernel
theorem dX2_readsNext_87 : decode cX2_readsNext 87 = .ok (.putfield 39, 3) := by decide +kernel
theorem dX2_readsNext_90 : decode cX2_readsNext 90 = .ok (.aload_n 0, 1) := by decide +kernel
theorem dX2_readsNext_91 : decode cX2_readsNext 91 = .ok (.getfield 39, 3) := by decide +kernel
theorem dX2_readsNext_94 : decode cX2_readsNext 94 = .ok (.aload_n 0, 1) := by decide +kernel
theorem dX2_readsNext_95 : decode cX2_readsNext 95 = .ok (.getfield 22, 3) := by decide +kernel
theorem dX2_readsNext_98 : decode cX2_readsNext 98 = .ok (.if_icmp .ge 43, 3) := by decide +kernel
theorem dX2_readsNext_101 : decode cX2_readsNext 101 = .ok (.aload_n 0, 1) := by decide +kernel
theorem dX2_readsNext_102 : decode cX2_readsNext 102 = .ok (.getfield 33, 3) := by decide +kernel
theorem dX2_readsNext_105 : decode cX2_readsNext 105 = .ok (.iconst 3, 1) := by decide +kernel
theorem dX2_readsNext_106 : decode cX2_readsNext 106 = .ok (.if_icmp .eq 35, 3) := by decide +kernel
theorem dX2_readsNext_109 : decode cX2_readsNext 109 = .ok (.aload_n 0, 1) := by decide +kernel
theorem dX2_readsNext_110 : decode cX2_readsNext 110 = .ok (.getfield 9, 3) := by decide +kernel
theorem dX2_readsNext_113 : decode cX2_readsNext 113 = .ok (.aload_n 0, 1) := by decide +kernel
theorem dX2_readsNext_114 : decode cX2_readsNext 114 = .ok (.getfield 39, 3) := by decide +kernel
theorem dX2_readsNext_117 : decode cX2_readsNext 117 = .ok (.iaload, 1) := by decide +kernel
theorem dX2_readsNext_118 : decode cX2_readsNext 118 = .ok (.invokestatic 151, 3) := by decide +kernel
theorem dX2_readsNext_121 : decode cX2_readsNext 121 = .ok (.aload_n 0, 1) := by decide +kernel
theorem dX2_readsNext_122 : decode cX2_readsNext 122 = .ok (.getfield 33, 3) := by decide +kernel
theorem dX2_readsNext_125 : decode cX2_readsNext 125 = .ok (.if_icmp .ne 16, 3) := by decide +kernel
theorem dX2_readsNext_128 : decode cX2_readsNext 128 = .ok (.aload_n 0, 1) := by decide +kernel
theorem dX2_readsNext_129 : decode cX2_readsNext 129 = .ok (.dup, 1) := by decide +kernel
theorem dX2_readsNext_130 : decode cX2_readsNext 130 = .ok (.getfield 39, 3) := by decide +kernel
theorem dX2_readsNext_133 : decode cX2_readsNext 133 = .ok (.iconst 1, 1) := by decide +kernel
theorem dX2_readsNext_134 : decode cX2_readsNext 134 = .ok (.iadd, 1) := by decide +kernel
theorem dX2_readsNext_135 : decode cX2_readsNext 135 = .ok (.putfield 39, 3) := by decide +kernel
theorem dX2_readsNext_138 : decode cX2_readsNext 138 = .ok (.goto (-48), 3) := by decide +kernel
theorem dX2_readsNext_141 : decode cX2_readsNext 141 = .ok (.aload_n 0, 1) := by decide +kernel
theorem dX2_readsNext_142 : decode cX2_readsNext 142 = .ok (.getfield 33, 3) := by decide +kernel
theorem dX2_readsNext_145 : decode cX2_readsNext 145 = .ok (.iconst 4, 1) := by decide +kernel
theorem dX2_readsNext_146 : decode cX2_readsNext 146 = .ok (.if_icmp .eq 24, 3) := by decide +kernel
theorem dX2_readsNext_149 : decode cX2_readsNext 149 = .ok (.aload_n 0, 1) := by decide +kernel
theorem dX2_readsNext_150 : decode cX2_readsNext 150 = .ok (.getfield 33, 3) := by decide +kernel
theorem dX2_readsNext_153 : decode cX2_readsNext 153 = .ok (.iconst 2, 1) := by decide +kernel
theorem dX2_readsNext_154 : decode cX2_readsNext 154 = .ok (.if_icmp .ne 22, 3) := by decide +kernel
theorem dX2_readsNext_157 : decode cX2_readsNext 157 = .ok (.aload_n 0, 1) := by decide +kernel
theorem dX2_readsNext_158 : decode cX2_readsNext 158 = .ok (.getfield 39, 3) := by decide +kernel
theorem dX2_readsNext_161 : decode cX2_readsNext 161 = .ok (.aload_n 0, 1) := by decide +kernel
theorem dX2_readsNext_162 : decode cX2_readsNext 162 = .ok (.getfield 36, 3) := by decide +kernel
theorem dX2_readsNext_165 : decode cX2_readsNext 165 = .ok (.isub, 1) := by decide +kernel
theorem dX2_readsNext_166 : decode cX2_readsNext 166 = .ok (.iconst 2, 1) := by decide +kernel
theorem dX2_readsNext_167 : decode cX2_readsNext 167 = .ok (.if_icmp .le 9, 3) := by decide +kernel
theorem dX2_readsNext_170 : decode cX2_readsNext 170 = .ok (.aload_n 0, 1) := by decide +kernel
theorem dX2_readsNext_171 : decode cX2_readsNext 171 = .ok (.iconst 1, 1) := by decide +kernel
theorem dX2_readsNext_172 : decode cX2_readsNext 172 = .ok (.invokevirtual 69, 3) := by decide +kernel
theorem dX2_readsNext_175 : decode cX2_readsNext 175 = .ok (.ireturn, 1) := by decide +kernel
theorem dX2_readsNext_176 : decode cX2_readsNext 176 = .ok (.aload_n 0, 1) := by decide +kernel
theorem dX2_readsNext_177 : decode cX2_readsNext 177 = .ok (.aload_n 0, 1) := by decide +kernel
theorem dX2_readsNext_178 : decode cX2_readsNext 178 = .ok (.getfield 33, 3) := by decide +kernel
theorem dX2_readsNext_181 : decode cX2_readsNext 181 = .ok (.iconst 2, 1) := by decide +kernel
theorem dX2_readsNext_182 : decode cX2_readsNext 182 = .ok (.if_icmp .ne 10, 3) := by decide +kernel
theorem dX2_readsNext_185 : decode cX2_readsNext 185 = .ok (.aload_n 0, 1) := by decide +kernel
theorem dX2_readsNext_186 : decode cX2_readsNext 186 = .ok (.invokevirtual 155, 3) := by decide +kernel
theorem dX2_readsNext_189 : decode cX2_readsNext 189 = .ok (.goto 5, 3) := by decide +kernel
theorem dX2_readsNext_192 : decode cX2_readsNext 192 = .ok (.bipush (-4), 2) := by decide +kernel
theorem dX2_readsNext_194 : decode cX2_readsNext 194 = .ok (.putfield 42, 3) := by decide +kernel
theorem dX2_readsNext_197 : decode cX2_readsNext 197 = .ok (.iconst 1, 1) := by decide +kernel
theorem dX2_readsNext_198 : decode cX2_readsNext 198 = .ok (.ireturn, 1) := by decide +kernel
theorem dX2_figuresRead_0 : decode cX2_figuresRead 0 = .ok (.iconst 0, 1) := by decide +kernel
theorem dX2_figuresRead_1 : decode cX2_figuresRead 1 = .ok (.istore_n 1, 1) := by decide +kernel
theorem dX2_figuresRead_2 : decode cX2_figuresRead 2 = .ok (.aload_n 0, 1) := by decide +kernel
theorem dX2_figuresRead_3 : decode cX2_figuresRead 3 = .ok (.getfield 36, 3) := by decide +kernel
theorem dX2_figuresRead_6 : decode cX2_figuresRead 6 = .ok (.istore_n 2, 1) := by decide +kernel
theorem dX2_figuresRead_7 : decode cX2_figuresRead 7 = .ok (.iload_n 2, 1) := by decide +kernel
theorem dX2_figuresRead_8 : decode cX2_figuresRead 8 = .ok (.aload_n 0, 1) := by decide +kernel
theorem dX2_figuresRead_9 : decode cX2_figuresRead 9 = .ok (.getfield 39, 3) := by decide +kernel
theorem dX2_figuresRead_12 : decode cX2_figuresRead 12 = .ok (.if_icmp .ge 24, 3) := by decide +kernel
theorem dX2_figuresRead_15 : decode cX2_figuresRead 15 = .ok (.bipush 10, 2) := by decide +kernel
theorem dX2_figuresRead_17 : decode cX2_figuresRead 17 = .ok (.iload_n 1, 1) := by decide +kernel
theorem dX2_figuresRead_18 : decode cX2_figuresRead 18 = .ok (.imul, 1) := by decide +kernel
theorem dX2_figuresRead_19 : decode cX2_figuresRead 19 = .ok (.aload_n 0, 1) := by decide +kernel
theorem dX2_figuresRead_20 : decode cX2_figuresRead 20 = .ok (.getfield 9, 3) := by decide +kernel
theorem dX2_figuresRead_23 : decode cX2_figuresRead 23 = .ok (.iload_n 2, 1) := by decide +kernel
theorem dX2_figuresRead_24 : decode cX2_figuresRead 24 = .ok (.iaload, 1) := by decide +kernel
theorem dX2_figuresRead_25 : decode cX2_figuresRead 25 = .ok (.iadd, 1) := by decide +kernel
theorem dX2_figuresRead_26 : decode cX2_figuresRead 26 = .ok (.bipush 48, 2) := by decide +kernel
theorem dX2_figuresRead_28 : decode cX2_figuresRead 28 = .ok (.isub, 1) := by decide +kernel
theorem dX2_figuresRead_29 : decode cX2_figuresRead 29 = .ok (.istore_n 1, 1) := by decide +kernel
theorem dX2_figuresRead_30 : decode cX2_figuresRead 30 = .ok (.iinc 2 1, 3) := by decide +kernel
theorem dX2_figuresRead_33 : decode cX2_figuresRead 33 = .ok (.goto (-26), 3) := by decide +kernel
theorem dX2_figuresRead_36 : decode cX2_figuresRead 36 = .ok (.iload_n 1, 1) := by decide +kernel
theorem dX2_figuresRead_37 : decode cX2_figuresRead 37 = .ok (.ireturn, 1) := by decide +kernel
theorem dX2_tokenOf_0 : decode cX2_tokenOf 0 = .ok (.iload_n 0, 1) := by decide +kernel
theorem dX2_tokenOf_1 : decode cX2_tokenOf 1 = .ok (.bipush 97, 2) := by decide +kernel
theorem dX2_tokenOf_3 : decode cX2_tokenOf 3 = .ok (.if_icmp .lt 11, 3) := by decide +kernel
theorem dX2_tokenOf_6 : decode cX2_tokenOf 6 = .ok (.iload_n 0, 1) := by decide +kernel
theorem dX2_tokenOf_7 : decode cX2_tokenOf 7 = .ok (.bipush 122, 2) := by decide +kernel
theorem dX2_tokenOf_9 : decode cX2_tokenOf 9 = .ok (.if_icmp .gt 5, 3) := by decide +kernel
theorem dX2_tokenOf_12 : decode cX2_tokenOf 12 = .ok (.iconst 1, 1) := by decide +kernel
theorem dX2_tokenOf_13 : decode cX2_tokenOf 13 = .ok (.ireturn, 1) := by decide +kernel
theorem dX2_tokenOf_14 : decode cX2_tokenOf 14 = .ok (.iload_n 0, 1) := by decide +kernel
theorem dX2_tokenOf_15 : decode cX2_tokenOf 15 = .ok (.bipush 48, 2) := by decide +kernel
theorem dX2_tokenOf_17 : decode cX2_tokenOf 17 = .ok (.if_icmp .lt 11, 3) := by decide +kernel
theorem dX2_tokenOf_20 : decode cX2_tokenOf 20 = .ok (.iload_n 0, 1) := by decide +kernel
theorem dX2_tokenOf_21 : decode cX2_tokenOf 21 = .ok (.bipush 57, 2) := by decide +kernel
theorem dX2_tokenOf_23 : decode cX2_tokenOf 23 = .ok (.if_icmp .gt 5, 3) := by decide +kernel
theorem dX2_tokenOf_26 : decode cX2_tokenOf 26 = .ok (.iconst 2, 1) := by decide +kernel
theorem dX2_tokenOf_27 : decode cX2_tokenOf 27 = .ok (.ireturn, 1) := by decide +kernel
theorem dX2_tokenOf_28 : decode cX2_tokenOf 28 = .ok (.iload_n 0, 1) := by decide +kernel
theorem dX2_tokenOf_29 : decode cX2_tokenOf 29 = .ok (.bipush 59, 2) := by decide +kernel
theorem dX2_tokenOf_31 : decode cX2_tokenOf 31 = .ok (.if_icmp .ne 7, 3) := by decide +kernel
theorem dX2_tokenOf_34 : decode cX2_tokenOf 34 = .ok (.iconst 3, 1) := by decide +kernel
theorem dX2_tokenOf_35 : decode cX2_tokenOf 35 = .ok (.goto 4, 3) := by decide +kernel
theorem dX2_tokenOf_38 : decode cX2_tokenOf 38 = .ok (.iconst 4, 1) := by decide +kernel
theorem dX2_tokenOf_39 : decode cX2_tokenOf 39 = .ok (.ireturn, 1) := by decide +kernel
set_option maxRecDepth 20000 in
theorem ggX2_kindNamed_X2_isNamed : GoodIn wsX2_kindNamed wsX2_isNamed := goodIn_r _ [5, 6, 7, 8, 9, 10, 11, 12, 13, 14, 15, 16, 17, 18, 19, 20, 21, 22, 23, 24, 25, 26, 27, 28, 29, 30, 31, 32, 33, 34, 35, 36, 37, 38, 39, 40, 41, 42, 43, 44, 45, 46, 47, 48, 49, 50, 51, 52, 53, 54, 55, 56, 57, 58, 59, 60, 61, 62, 63, 64, 65, 66, 67] (by decide +kernel) (by decide +kernel)
set_option maxRecDepth 20000 in
theorem gX2_kindNamed_X2_isNamed : GoodIn wsX2_kindNamed (wsV RX2 74 RX2 yX2_isNamed wsX2_isNamed) := goodIn_app (goodIn_of _ (by decide +kernel)) ggX2_kindNamed_X2_isNamed
theorem dX2_kindNamed_0 : decode cX2_kindNamed 0 = .ok (.aload_n 0, 1) := by decide +kernel
theorem dX2_kindNamed_1 : decode cX2_kindNamed 1 = .ok (.ldc 158, 2) := by decide +kernel
theorem dX2_kindNamed_3 : decode cX2_kindNamed 3 = .ok (.invokevirtual 74, 3) := by decide +kernel
theorem dX2_kindNamed_6 : decode cX2_kindNamed 6 = .ok (.ifCond .eq 5, 3) := by decide +kernel
theorem dX2_kindNamed_9 : decode cX2_kindNamed 9 = .ok (.iconst 0, 1) := by decide +kernel
theorem dX2_kindNamed_10 : decode cX2_kindNamed 10 = .ok (.ireturn, 1) := by decide +kernel
theorem dX2_kindNamed_11 : decode cX2_kindNamed 11 = .ok (.aload_n 0, 1) := by decide +kernel
theorem dX2_kindNamed_12 : decode cX2_kindNamed 12 = .ok (.ldc 160, 2) := by decide +kernel
theorem dX2_kindNamed_14 : decode cX2_kindNamed 14 = .ok (.invokevirtual 74, 3) := by decide +kernel
theorem dX2_kindNamed_17 : decode cX2_kindNamed 17 = .ok (.ifCond .eq 5, 3) := by decide +kernel
theorem dX2_kindNamed_20 : decode cX2_kindNamed 20 = .ok (.iconst 1, 1) := by decide +kernel
theorem dX2_kindNamed_21 : decode cX2_kindNamed 21 = .ok (.ireturn, 1) := by decide +kernel
theorem dX2_kindNamed_22 : decode cX2_kindNamed 22 = .ok (.aload_n 0, 1) := by decide +kernel
theorem dX2_kindNamed_23 : decode cX2_kindNamed 23 = .ok (.ldc 162, 2) := by decide +kernel
theorem dX2_kindNamed_25 : decode cX2_kindNamed 25 = .ok (.invokevirtual 74, 3) := by decide +kernel
theorem dX2_kindNamed_28 : decode cX2_kindNamed 28 = .ok (.ifCond .eq 5, 3) := by decide +kernel
theorem dX2_kindNamed_31 : decode cX2_kindNamed 31 = .ok (.iconst 2, 1) := by decide +kernel
theorem dX2_kindNamed_32 : decode cX2_kindNamed 32 = .ok (.ireturn, 1) := by decide +kernel
theorem dX2_kindNamed_33 : decode cX2_kindNamed 33 = .ok (.aload_n 0, 1) := by decide +kernel
theorem dX2_kindNamed_34 : decode cX2_kindNamed 34 = .ok (.ldc 164, 2) := by decide +kernel
theorem dX2_kindNamed_36 : decode cX2_kindNamed 36 = .ok (.invokevirtual 74, 3) := by decide +kernel
theorem dX2_kindNamed_39 : decode cX2_kindNamed 39 = .ok (.ifCond .eq 7, 3) := by decide +kernel
theorem dX2_kindNamed_42 : decode cX2_kindNamed 42 = .ok (.iconst 3, 1) := by decide +kernel
theorem dX2_kindNamed_43 : decode cX2_kindNamed 43 = .ok (.goto 5, 3) := by decide +kernel
theorem dX2_kindNamed_46 : decode cX2_kindNamed 46 = .ok (.bipush (-4), 2) := by decide +kernel
theorem dX2_kindNamed_48 : decode cX2_kindNamed 48 = .ok (.ireturn, 1) := by decide +kernel
set_option maxRecDepth 20000 in
theorem ggX2_habitNamed_X2_isNamed : GoodIn wsX2_habitNamed wsX2_isNamed := goodIn_r _ [5, 6, 7, 8, 9, 10, 11, 12, 13, 14, 15, 16, 17, 18, 19, 20, 21, 22, 23, 24, 25, 26, 27, 28, 29, 30, 31, 32, 33, 34, 35, 36, 37, 38, 39, 40, 41, 42, 43, 44, 45, 46, 47, 48, 49, 50, 51, 52, 53, 54, 55, 56, 57, 58, 59, 60, 61, 62, 63, 64, 65, 66, 67] (by decide +kernel) (by decide +kernel)
set_option maxRecDepth 20000 in
theorem gX2_habitNamed_X2_isNamed : GoodIn wsX2_habitNamed (wsV RX2 74 RX2 yX2_isNamed wsX2_isNamed) := goodIn_app (goodIn_of _ (by decide +kernel)) ggX2_habitNamed_X2_isNamed
theorem dX2_habitNamed_0 : decode cX2_habitNamed 0 = .ok (.aload_n 0, 1) := by decide +kernel
theorem dX2_habitNamed_1 : decode cX2_habitNamed 1 = .ok (.ldc 166, 2) := by decide +kernel
theorem dX2_habitNamed_3 : decode cX2_habitNamed 3 = .ok (.invokevirtual 74, 3) := by decide +kernel
theorem dX2_habitNamed_6 : decode cX2_habitNamed 6 = .ok (.ifCond .eq 5, 3) := by decide +kernel
theorem dX2_habitNamed_9 : decode cX2_habitNamed 9 = .ok (.iconst 0, 1) := by decide +kernel
theorem dX2_habitNamed_10 : decode cX2_habitNamed 10 = .ok (.ireturn, 1) := by decide +kernel
theorem dX2_habitNamed_11 : decode cX2_habitNamed 11 = .ok (.aload_n 0, 1) := by decide +kernel
theorem dX2_habitNamed_12 : decode cX2_habitNamed 12 = .ok (.ldc 168, 2) := by decide +kernel
theorem dX2_habitNamed_14 : decode cX2_habitNamed 14 = .ok (.invokevirtual 74, 3) := by decide +kernel
theorem dX2_habitNamed_17 : decode cX2_habitNamed 17 = .ok (.ifCond .eq 5, 3) := by decide +kernel
theorem dX2_habitNamed_20 : decode cX2_habitNamed 20 = .ok (.iconst 1, 1) := by decide +kernel
theorem dX2_habitNamed_21 : decode cX2_habitNamed 21 = .ok (.ireturn, 1) := by decide +kernel
theorem dX2_habitNamed_22 : decode cX2_habitNamed 22 = .ok (.aload_n 0, 1) := by decide +kernel
theorem dX2_habitNamed_23 : decode cX2_habitNamed 23 = .ok (.ldc 170, 2) := by decide +kernel
theorem dX2_habitNamed_25 : decode cX2_habitNamed 25 = .ok (.invokevirtual 74, 3) := by decide +kernel
theorem dX2_habitNamed_28 : decode cX2_habitNamed 28 = .ok (.ifCond .eq 5, 3) := by decide +kernel
theorem dX2_habitNamed_31 : decode cX2_habitNamed 31 = .ok (.iconst 2, 1) := by decide +kernel
theorem dX2_habitNamed_32 : decode cX2_habitNamed 32 = .ok (.ireturn, 1) := by decide +kernel
theorem dX2_habitNamed_33 : decode cX2_habitNamed 33 = .ok (.aload_n 0, 1) := by decide +kernel
theorem dX2_habitNamed_34 : decode cX2_habitNamed 34 = .ok (.ldc 172, 2) := by decide +kernel
theorem dX2_habitNamed_36 : decode cX2_habitNamed 36 = .ok (.invokevirtual 74, 3) := by decide +kernel
theorem dX2_habitNamed_39 : decode cX2_habitNamed 39 = .ok (.ifCond .eq 7, 3) := by decide +kernel
theorem dX2_habitNamed_42 : decode cX2_habitNamed 42 = .ok (.iconst 3, 1) := by decide +kernel
theorem dX2_habitNamed_43 : decode cX2_habitNamed 43 = .ok (.goto 5, 3) := by decide +kernel
theorem dX2_habitNamed_46 : decode cX2_habitNamed 46 = .ok (.bipush (-4), 2) := by decide +kernel
theorem dX2_habitNamed_48 : decode cX2_habitNamed 48 = .ok (.ireturn, 1) := by decide +kernel
set_option maxRecDepth 20000 in
theorem ggX2_isNamed_J0_length_8abf5 : GoodIn wsX2_isNamed wsJ0_length_8abf5 := goodIn_r _ [9, 10, 11, 12, 13, 8, 14, 15, 16] (by decide +kernel) (by decide +kernel)
set_option maxRecDepth 20000 in
theorem gX2_isNamed_J0_length_8abf5 : GoodIn wsX2_isNamed (wsV RX2 174 RJ0 yJ0_length_8abf5 wsJ0_length_8abf5) := goodIn_app (goodIn_of _ (by decide +kernel)) ggX2_isNamed_J0_length_8abf5
set_option maxRecDepth 20000 in
theorem ggX2_isNamed_J0_charAt_5068e : GoodIn wsX2_isNamed wsJ0_charAt_5068e := goodIn_r _ [20, 10, 21, 22, 23, 8, 24, 15, 16, 25, 26, 27, 28, 29, 30, 31, 32, 33, 34, 35, 36, 37, 38, 39, 40, 41, 42, 43, 44, 45, 46, 47, 48, 49, 50, 51, 52, 53] (by decide +kernel) (by decide +kernel)
set_option maxRecDepth 20000 in
theorem gX2_isNamed_J0_charAt_5068e : GoodIn wsX2_isNamed (wsV RX2 178 RJ0 yJ0_charAt_5068e wsJ0_charAt_5068e) := goodIn_app (goodIn_of _ (by decide +kernel)) ggX2_isNamed_J0_charAt_5068e
theorem dX2_isNamed_0 : decode cX2_isNamed 0 = .ok (.aload_n 0, 1) := by decide +kernel
theorem dX2_isNamed_1 : decode cX2_isNamed 1 = .ok (.getfield 33, 3) := by decide +kernel
theorem dX2_isNamed_4 : decode cX2_isNamed 4 = .ok (.iconst 1, 1) := by decide +kernel
theorem dX2_isNamed_5 : decode cX2_isNamed 5 = .ok (.if_icmp .ne 19, 3) := by decide +kernel
theorem dX2_isNamed_8 : decode cX2_isNamed 8 = .ok (.aload_n 0, 1) := by decide +kernel
theorem dX2_isNamed_9 : decode cX2_isNamed 9 = .ok (.getfield 39, 3) := by decide +kernel
theorem dX2_isNamed_12 : decode cX2_isNamed 12 = .ok (.aload_n 0, 1) := by decide +kernel
theorem dX2_isNamed_13 : decode cX2_isNamed 13 = .ok (.getfield 36, 3) := by decide +kernel
theorem dX2_isNamed_16 : decode cX2_isNamed 16 = .ok (.isub, 1) := by decide +kernel
theorem dX2_isNamed_17 : decode cX2_isNamed 17 = .ok (.aload_n 1, 1) := by decide +kernel
theorem dX2_isNamed_18 : decode cX2_isNamed 18 = .ok (.invokevirtual 174, 3) := by decide +kernel
theorem dX2_isNamed_21 : decode cX2_isNamed 21 = .ok (.if_icmp .eq 5, 3) := by decide +kernel
theorem dX2_isNamed_24 : decode cX2_isNamed 24 = .ok (.iconst 0, 1) := by decide +kernel
theorem dX2_isNamed_25 : decode cX2_isNamed 25 = .ok (.ireturn, 1) := by decide +kernel
theorem dX2_isNamed_26 : decode cX2_isNamed 26 = .ok (.iconst 0, 1) := by decide +kernel
theorem dX2_isNamed_27 : decode cX2_isNamed 27 = .ok (.istore_n 2, 1) := by decide +kernel
theorem dX2_isNamed_28 : decode cX2_isNamed 28 = .ok (.iload_n 2, 1) := by decide +kernel
theorem dX2_isNamed_29 : decode cX2_isNamed 29 = .ok (.aload_n 1, 1) := by decide +kernel
theorem dX2_isNamed_30 : decode cX2_isNamed 30 = .ok (.invokevirtual 174, 3) := by decide +kernel
theorem dX2_isNamed_33 : decode cX2_isNamed 33 = .ok (.if_icmp .ge 42, 3) := by decide +kernel
theorem dX2_isNamed_36 : decode cX2_isNamed 36 = .ok (.aload_n 0, 1) := by decide +kernel
theorem dX2_isNamed_37 : decode cX2_isNamed 37 = .ok (.getfield 36, 3) := by decide +kernel
theorem dX2_isNamed_40 : decode cX2_isNamed 40 = .ok (.iload_n 2, 1) := by decide +kernel
theorem dX2_isNamed_41 : decode cX2_isNamed 41 = .ok (.iadd, 1) := by decide +kernel
theorem dX2_isNamed_42 : decode cX2_isNamed 42 = .ok (.sipush 160, 3) := by decide +kernel
theorem dX2_isNamed_45 : decode cX2_isNamed 45 = .ok (.if_icmp .ge 30, 3) := by decide +kernel
theorem dX2_isNamed_48 : decode cX2_isNamed 48 = .ok (.aload_n 0, 1) := by decide +kernel
theorem dX2_isNamed_49 : decode cX2_isNamed 49 = .ok (.getfield 9, 3) := by decide +kernel
theorem dX2_isNamed_52 : decode cX2_isNamed 52 = .ok (.aload_n 0, 1) := by decide +kernel
theorem dX2_isNamed_53 : decode cX2_isNamed 53 = .ok (.getfield 36, 3) := by decide +kernel
theorem dX2_isNamed_56 : decode cX2_isNamed 56 = .ok (.iload_n 2, 1) := by decide +kernel
theorem dX2_isNamed_57 : decode cX2_isNamed 57 = .ok (.iadd, 1) := by decide +kernel
theorem dX2_isNamed_58 : decode cX2_isNamed 58 = .ok (.iaload, 1) := by decide +kernel
theorem dX2_isNamed_59 : decode cX2_isNamed 59 = .ok (.aload_n 1, 1) := by decide +kernel
theorem dX2_isNamed_60 : decode cX2_isNamed 60 = .ok (.iload_n 2, 1) := by decide +kernel
theorem dX2_isNamed_61 : decode cX2_isNamed 61 = .ok (.invokevirtual 178, 3) := by decide +kernel
theorem dX2_isNamed_64 : decode cX2_isNamed 64 = .ok (.if_icmp .eq 5, 3) := by decide +kernel
theorem dX2_isNamed_67 : decode cX2_isNamed 67 = .ok (.iconst 0, 1) := by decide +kernel
theorem dX2_isNamed_68 : decode cX2_isNamed 68 = .ok (.ireturn, 1) := by decide +kernel
theorem dX2_isNamed_69 : decode cX2_isNamed 69 = .ok (.iinc 2 1, 3) := by decide +kernel
theorem dX2_isNamed_72 : decode cX2_isNamed 72 = .ok (.goto (-44), 3) := by decide +kernel
theorem dX2_isNamed_75 : decode cX2_isNamed 75 = .ok (.iconst 1, 1) := by decide +kernel
theorem dX2_isNamed_76 : decode cX2_isNamed 76 = .ok (.ireturn, 1) := by decide +kernel
theorem dX3_init_0 : decode cX3_init 0 = .ok (.aload_n 0, 1) := by decide +kernel
theorem dX3_init_1 : decode cX3_init 1 = .ok (.invokespecial 3, 3) := by decide +kernel
theorem dX3_init_4 : decode cX3_init 4 = .ok (.aload_n 0, 1) := by decide +kernel
theorem dX3_init_5 : decode cX3_init 5 = .ok (.iconst 4, 1) := by decide +kernel
theorem dX3_init_6 : decode cX3_init 6 = .ok (.newarray .int, 2) := by decide +kernel
theorem dX3_init_8 : decode cX3_init 8 = .ok (.putfield 9, 3) := by decide +kernel
theorem dX3_init_11 : decode cX3_init 11 = .ok (.aload_n 0, 1) := by decide +kernel
theorem dX3_init_12 : decode cX3_init 12 = .ok (.bipush (-4), 2) := by decide +kernel
theorem dX3_init_14 : decode cX3_init 14 = .ok (.putfield 15, 3) := by decide +kernel
theorem dX3_init_17 : decode cX3_init 17 = .ok (.aload_n 0, 1) := by decide +kernel
theorem dX3_init_18 : decode cX3_init 18 = .ok (.iconst 0, 1) := by decide +kernel
theorem dX3_init_19 : decode cX3_init 19 = .ok (.putfield 19, 3) := by decide +kernel
theorem dX3_init_22 : decode cX3_init 22 = .ok (.return_, 1) := by decide +kernel
set_option maxRecDepth 20000 in
theorem ggX3_goByDocket_X6_copyRow : GoodIn wsX3_goByDocket wsX6_copyRow := goodIn_r _ [11, 12, 13, 14, 15, 16, 17, 18, 19] (by decide +kernel) (by decide +kernel)
set_option maxRecDepth 20000 in
theorem gX3_goByDocket_X6_copyRow_n25 : GoodIn wsX3_goByDocket (wsX6_copyRow) := ggX3_goByDocket_X6_copyRow
set_option maxRecDepth 20000 in
theorem ggX3_goByDocket_X5_prepare : GoodIn wsX3_goByDocket wsX5_prepare := goodIn_r _ [24, 25, 26, 27, 28, 29, 30, 31, 32, 33, 34, 35, 36, 37, 38, 39, 40, 41, 23, 42, 43, 44, 14, 45, 79, 80, 81, 82, 83, 84, 85, 59, 60, 61, 62, 63, 64, 65, 66, 67, 68, 69, 70, 71, 72, 73, 74, 75] (by decide +kernel) (by decide +kernel)
set_option maxRecDepth 20000 in
theorem gX3_goByDocket_X5_prepare : GoodIn wsX3_goByDocket (wsV RX3 38 RX5 yX5_prepare wsX5_prepare) := goodIn_app (goodIn_of _ (by decide +kernel)) ggX3_goByDocket_X5_prepare
set_option maxRecDepth 20000 in
theorem ggX3_goByDocket_X5_verdictHeld : GoodIn wsX3_goByDocket wsX5_verdictHeld := goodIn_r _ [49, 50, 34, 27, 25, 43, 44, 14, 45, 51, 52, 53, 23, 54, 29, 35, 55, 56, 57, 58, 32, 79, 80, 81, 82, 83, 84, 85] (by decide +kernel) (by decide +kernel)
set_option maxRecDepth 20000 in
theorem gX3_goByDocket_X5_verdictHeld : GoodIn wsX3_goByDocket (wsV RX3 44 RX5 yX5_verdictHeld wsX5_verdictHeld) := goodIn_app (goodIn_of _ (by decide +kernel)) ggX3_goByDocket_X5_verdictHeld
theorem dX3_goByDocket_0 : decode cX3_goByDocket 0 = .ok (.aload_n 1, 1) := by decide +kernel
theorem dX3_goByDocket_1 : decode cX3_goByDocket 1 = .ok (.getfield 22, 3) := by decide +kernel
theorem dX3_goByDocket_4 : decode cX3_goByDocket 4 = .ok (.aload_n 0, 1) := by decide +kernel
theorem dX3_goByDocket_5 : decode cX3_goByDocket 5 = .ok (.getfield 9, 3) := by decide +kernel
theorem dX3_goByDocket_8 : decode cX3_goByDocket 8 = .ok (.invokestatic 25, 3) := by decide +kernel
theorem dX3_goByDocket_11 : decode cX3_goByDocket 11 = .ok (.aload_n 0, 1) := by decide +kernel
theorem dX3_goByDocket_12 : decode cX3_goByDocket 12 = .ok (.bipush (-4), 2) := by decide +kernel
theorem dX3_goByDocket_14 : decode cX3_goByDocket 14 = .ok (.putfield 15, 3) := by decide +kernel
theorem dX3_goByDocket_17 : decode cX3_goByDocket 17 = .ok (.aload_n 0, 1) := by decide +kernel
theorem dX3_goByDocket_18 : decode cX3_goByDocket 18 = .ok (.iconst 0, 1) := by decide +kernel
theorem dX3_goByDocket_19 : decode cX3_goByDocket 19 = .ok (.putfield 19, 3) := by decide +kernel
theorem dX3_goByDocket_22 : decode cX3_goByDocket 22 = .ok (.iconst 0, 1) := by decide +kernel
theorem dX3_goByDocket_23 : decode cX3_goByDocket 23 = .ok (.istore 4, 2) := by decide +kernel
theorem dX3_goByDocket_25 : decode cX3_goByDocket 25 = .ok (.iload 4, 2) := by decide +kernel
theorem dX3_goByDocket_27 : decode cX3_goByDocket 27 = .ok (.aload_n 1, 1) := by decide +kernel
theorem dX3_goByDocket_28 : decode cX3_goByDocket 28 = .ok (.getfield 29, 3) := by decide +kernel
theorem dX3_goByDocket_31 : decode cX3_goByDocket 31 = .ok (.if_icmp .ge 87, 3) := by decide +kernel
theorem dX3_goByDocket_34 : decode cX3_goByDocket 34 = .ok (.aload_n 1, 1) := by decide +kernel
theorem dX3_goByDocket_35 : decode cX3_goByDocket 35 = .ok (.getfield 32, 3) := by decide +kernel
theorem dX3_goByDocket_38 : decode cX3_goByDocket 38 = .ok (.iload 4, 2) := by decide +kernel
theorem dX3_goByDocket_40 : decode cX3_goByDocket 40 = .ok (.iaload, 1) := by decide +kernel
theorem dX3_goByDocket_41 : decode cX3_goByDocket 41 = .ok (.istore 5, 2) := by decide +kernel
theorem dX3_goByDocket_43 : decode cX3_goByDocket 43 = .ok (.aload_n 0, 1) := by decide +kernel
theorem dX3_goByDocket_44 : decode cX3_goByDocket 44 = .ok (.getfield 9, 3) := by decide +kernel
theorem dX3_goByDocket_47 : decode cX3_goByDocket 47 = .ok (.iload 5, 2) := by decide +kernel
theorem dX3_goByDocket_49 : decode cX3_goByDocket 49 = .ok (.iaload, 1) := by decide +kernel
theorem dX3_goByDocket_50 : decode cX3_goByDocket 50 = .ok (.ifCond .ne 47, 3) := by decide +kernel
theorem dX3_goByDocket_53 : decode cX3_goByDocket 53 = .ok (.aload_n 2, 1) := by decide +kernel
theorem dX3_goByDocket_54 : decode cX3_goByDocket 54 = .ok (.aload_n 1, 1) := by decide +kernel
theorem dX3_goByDocket_55 : decode cX3_goByDocket 55 = .ok (.iload 5, 2) := by decide +kernel
theorem dX3_goByDocket_57 : decode cX3_goByDocket 57 = .ok (.aload_n 1, 1) := by decide +kernel
theorem dX3_goByDocket_58 : decode cX3_goByDocket 58 = .ok (.getfield 35, 3) := by decide +kernel
theorem dX3_goByDocket_61 : decode cX3_goByDocket 61 = .ok (.iload 4, 2) := by decide +kernel
theorem dX3_goByDocket_63 : decode cX3_goByDocket 63 = .ok (.iaload, 1) := by decide +kernel
theorem dX3_goByDocket_64 : decode cX3_goByDocket 64 = .ok (.iload_n 3, 1) := by decide +kernel
theorem dX3_goByDocket_65 : decode cX3_goByDocket 65 = .ok (.invokevirtual 38, 3) := by decide +kernel
theorem dX3_goByDocket_68 : decode cX3_goByDocket 68 = .ok (.aload_n 0, 1) := by decide +kernel
theorem dX3_goByDocket_69 : decode cX3_goByDocket 69 = .ok (.getfield 9, 3) := by decide +kernel
theorem dX3_goByDocket_72 : decode cX3_goByDocket 72 = .ok (.iload 5, 2) := by decide +kernel
theorem dX3_goByDocket_74 : decode cX3_goByDocket 74 = .ok (.aload_n 2, 1) := by decide +kernel
theorem dX3_goByDocket_75 : decode cX3_goByDocket 75 = .ok (.invokevirtual 44, 3) := by decide +kernel
theorem dX3_goByDocket_78 : decode cX3_goByDocket 78 = .ok (.iastore, 1) := by decide +kernel
theorem dX3_goByDocket_79 : decode cX3_goByDocket 79 = .ok (.aload_n 0, 1) := by decide +kernel
theorem dX3_goByDocket_80 : decode cX3_goByDocket 80 = .ok (.dup, 1) := by decide +kernel
theorem dX3_goByDocket_81 : decode cX3_goByDocket 81 = .ok (.getfield 19, 3) := by decide +kernel
theorem dX3_goByDocket_84 : decode cX3_goByDocket 84 = .ok (.aload_n 2, 1) := by decide +kernel
theorem dX3_goByDocket_85 : decode cX3_goByDocket 85 = .ok (.getfield 48, 3) := by decide +kernel
theorem dX3_goByDocket_88 : decode cX3_goByDocket 88 = .ok (.iconst 1, 1) := by decide +kernel
theorem dX3_goByDocket_89 : decode cX3_goByDocket 89 = .ok (.iadd, 1) := by decide +kernel
theorem dX3_goByDocket_90 : decode cX3_goByDocket 90 = .ok (.iadd, 1) := by decide +kernel
theorem dX3_goByDocket_91 : decode cX3_goByDocket 91 = .ok (.putfield 19, 3) := by decide +kernel
theorem dX3_goByDocket_94 : decode cX3_goByDocket 94 = .ok (.goto 18, 3) := by decide +kernel
theorem dX3_goByDocket_97 : decode cX3_goByDocket 97 = .ok (.aload_n 0, 1) := by decide +kernel
theorem dX3_goByDocket_98 : decode cX3_goByDocket 98 = .ok (.getfield 15, 3) := by decide +kernel
theorem dX3_goByDocket_101 : decode cX3_goByDocket 101 = .ok (.bipush (-4), 2) := by decide +kernel
theorem dX3_goByDocket_103 : decode cX3_goByDocket 103 = .ok (.if_icmp .ne 9, 3) := by decide +kernel
theorem dX3_goByDocket_106 : decode cX3_goByDocket 106 = .ok (.aload_n 0, 1) := by decide +kernel
theorem dX3_goByDocket_107 : decode cX3_goByDocket 107 = .ok (.iload 4, 2) := by decide +kernel
theorem dX3_goByDocket_109 : decode cX3_goByDocket 109 = .ok (.putfield 15, 3) := by decide +kernel
theorem dX3_goByDocket_112 : decode cX3_goByDocket 112 = .ok (.iinc 4 1, 3) := by decide +kernel
theorem dX3_goByDocket_115 : decode cX3_goByDocket 115 = .ok (.goto (-90), 3) := by decide +kernel
theorem dX3_goByDocket_118 : decode cX3_goByDocket 118 = .ok (.return_, 1) := by decide +kernel
theorem dX4_init_0 : decode cX4_init 0 = .ok (.aload_n 0, 1) := by decide +kernel
theorem dX4_init_1 : decode cX4_init 1 = .ok (.invokespecial 3, 3) := by decide +kernel
theorem dX4_init_4 : decode cX4_init 4 = .ok (.aload_n 0, 1) := by decide +kernel
theorem dX4_init_5 : decode cX4_init 5 = .ok (.sipush 160, 3) := by decide +kernel
theorem dX4_init_8 : decode cX4_init 8 = .ok (.newarray .int, 2) := by decide +kernel
theorem dX4_init_10 : decode cX4_init 10 = .ok (.putfield 9, 3) := by decide +kernel
theorem dX4_init_13 : decode cX4_init 13 = .ok (.aload_n 0, 1) := by decide +kernel
theorem dX4_init_14 : decode cX4_init 14 = .ok (.iconst 4, 1) := by decide +kernel
theorem dX4_init_15 : decode cX4_init 15 = .ok (.newarray .int, 2) := by decide +kernel
theorem dX4_init_17 : decode cX4_init 17 = .ok (.putfield 15, 3) := by decide +kernel
theorem dX4_init_20 : decode cX4_init 20 = .ok (.aload_n 0, 1) := by decide +kernel
theorem dX4_init_21 : decode cX4_init 21 = .ok (.iconst 4, 1) := by decide +kernel
theorem dX4_init_22 : decode cX4_init 22 = .ok (.newarray .int, 2) := by decide +kernel
theorem dX4_init_24 : decode cX4_init 24 = .ok (.dup, 1) := by decide +kernel
theorem dX4_init_25 : decode cX4_init 25 = .ok (.iconst 0, 1) := by decide +kernel
theorem dX4_init_26 : decode cX4_init 26 = .ok (.bipush (-4), 2) := by decide +kernel
theorem dX4_init_28 : decode cX4_init 28 = .ok (.iastore, 1) := by decide +kernel
theorem dX4_init_29 : decode cX4_init 29 = .ok (.dup, 1) := by decide +kernel
theorem dX4_init_30 : decode cX4_init 30 = .ok (.iconst 1, 1) := by decide +kernel
theorem dX4_init_31 : decode cX4_init 31 = .ok (.bipush (-4), 2) := by decide +kernel
theorem dX4_init_33 : decode cX4_init 33 = .ok (.iastore, 1) := by decide +kernel
theorem dX4_init_34 : decode cX4_init 34 = .ok (.dup, 1) := by decide +kernel
theorem dX4_init_35 : decode cX4_init 35 = .ok (.iconst 2, 1) := by decide +kernel
theorem dX4_init_36 : decode cX4_init 36 = .ok (.bipush (-4), 2) := by decide +kernel
theorem dX4_init_38 : decode cX4_init 38 = .ok (.iastore, 1) := by decide +kernel
theorem dX4_init_39 : decode cX4_init 39 = .ok (.dup, 1) := by decide +kernel
theorem dX4_init_40 : decode cX4_init 40 = .ok (.iconst 3, 1) := by decide +kernel
theorem dX4_init_41 : decode cX4_init 41 = .ok (.bipush (-4), 2) := by decide +kernel
theorem dX4_init_43 : decode cX4_init 43 = .ok (.iastore, 1) := by decide +kernel
theorem dX4_init_44 : decode cX4_init 44 = .ok (.putfield 18, 3) := by decide +kernel
theorem dX4_init_47 : decode cX4_init 47 = .ok (.return_, 1) := by decide +kernel
theorem dX4_renew_0 : decode cX4_renew 0 = .ok (.aload_n 0, 1) := by decide +kernel
theorem dX4_renew_1 : decode cX4_renew 1 = .ok (.getfield 15, 3) := by decide +kernel
theorem dX4_renew_4 : decode cX4_renew 4 = .ok (.iload_n 1, 1) := by decide +kernel
theorem dX4_renew_5 : decode cX4_renew 5 = .ok (.iload_n 2, 1) := by decide +kernel
theorem dX4_renew_6 : decode cX4_renew 6 = .ok (.iastore, 1) := by decide +kernel
theorem dX4_renew_7 : decode cX4_renew 7 = .ok (.aload_n 0, 1) := by decide +kernel
theorem dX4_renew_8 : decode cX4_renew 8 = .ok (.getfield 18, 3) := by decide +kernel
theorem dX4_renew_11 : decode cX4_renew 11 = .ok (.iload_n 1, 1) := by decide +kernel
theorem dX4_renew_12 : decode cX4_renew 12 = .ok (.iload_n 3, 1) := by decide +kernel
theorem dX4_renew_13 : decode cX4_renew 13 = .ok (.iastore, 1) := by decide +kernel
theorem dX4_renew_14 : decode cX4_renew 14 = .ok (.iconst 0, 1) := by decide +kernel
theorem dX4_renew_15 : decode cX4_renew 15 = .ok (.istore 4, 2) := by decide +kernel
theorem dX4_renew_17 : decode cX4_renew 17 = .ok (.iload 4, 2) := by decide +kernel
theorem dX4_renew_19 : decode cX4_renew 19 = .ok (.iload_n 3, 1) := by decide +kernel
theorem dX4_renew_20 : decode cX4_renew 20 = .ok (.if_icmp .ge 22, 3) := by decide +kernel
theorem dX4_renew_23 : decode cX4_renew 23 = .ok (.aload_n 0, 1) := by decide +kernel
theorem dX4_renew_24 : decode cX4_renew 24 = .ok (.getfield 9, 3) := by decide +kernel
theorem dX4_renew_27 : decode cX4_renew 27 = .ok (.iload_n 1, 1) := by decide +kernel
theorem dX4_renew_28 : decode cX4_renew 28 = .ok (.bipush 40, 2) := by decide +kernel
theorem dX4_renew_30 : decode cX4_renew 30 = .ok (.imul, 1) := by decide +kernel
theorem dX4_renew_31 : decode cX4_renew 31 = .ok (.iload 4, 2) := by decide +kernel
theorem dX4_renew_33 : decode cX4_renew 33 = .ok (.iadd, 1) := by decide +kernel
theorem dX4_renew_34 : decode cX4_renew 34 = .ok (.iconst 0, 1) := by decide +kernel
theorem dX4_renew_35 : decode cX4_renew 35 = .ok (.iastore, 1) := by decide +kernel
theorem dX4_renew_36 : decode cX4_renew 36 = .ok (.iinc 4 1, 3) := by decide +kernel
theorem dX4_renew_39 : decode cX4_renew 39 = .ok (.goto (-22), 3) := by decide +kernel
theorem dX4_renew_42 : decode cX4_renew 42 = .ok (.return_, 1) := by decide +kernel
theorem dX4_isNothing_0 : decode cX4_isNothing 0 = .ok (.aload_n 0, 1) := by decide +kernel
theorem dX4_isNothing_1 : decode cX4_isNothing 1 = .ok (.getfield 18, 3) := by decide +kernel
theorem dX4_isNothing_4 : decode cX4_isNothing 4 = .ok (.iload_n 1, 1) := by decide +kernel
theorem dX4_isNothing_5 : decode cX4_isNothing 5 = .ok (.iaload, 1) := by decide +kernel
theorem dX4_isNothing_6 : decode cX4_isNothing 6 = .ok (.bipush (-4), 2) := by decide +kernel
theorem dX4_isNothing_8 : decode cX4_isNothing 8 = .ok (.if_icmp .ne 7, 3) := by decide +kernel
theorem dX4_isNothing_11 : decode cX4_isNothing 11 = .ok (.iconst 1, 1) := by decide +kernel
theorem dX4_isNothing_12 : decode cX4_isNothing 12 = .ok (.goto 4, 3) := by decide +kernel
theorem dX4_isNothing_15 : decode cX4_isNothing 15 = .ok (.iconst 0, 1) := by decide +kernel
theorem dX4_isNothing_16 : decode cX4_isNothing 16 = .ok (.ireturn, 1) := by decide +kernel
set_option maxRecDepth 20000 in
theorem ggX4_hasCell_X6_isIn : GoodIn wsX4_hasCell wsX6_isIn := goodIn_r _ [4] (by decide +kernel) (by decide +kernel)
set_option maxRecDepth 20000 in
theorem gX4_hasCell_X6_isIn_n21 : GoodIn wsX4_hasCell (wsX6_isIn) := ggX4_hasCell_X6_isIn
theorem dX4_hasCell_0 : decode cX4_hasCell 0 = .ok (.iload_n 2, 1) := by decide +kernel
theorem dX4_hasCell_1 : decode cX4_hasCell 1 = .ok (.i2l, 1) := by decide +kernel
theorem dX4_hasCell_2 : decode cX4_hasCell 2 = .ok (.iconst 0, 1) := by decide +kernel
theorem dX4_hasCell_3 : decode cX4_hasCell 3 = .ok (.aload_n 0, 1) := by decide +kernel
theorem dX4_hasCell_4 : decode cX4_hasCell 4 = .ok (.getfield 18, 3) := by decide +kernel
theorem dX4_hasCell_7 : decode cX4_hasCell 7 = .ok (.iload_n 1, 1) := by decide +kernel
theorem dX4_hasCell_8 : decode cX4_hasCell 8 = .ok (.iaload, 1) := by decide +kernel
theorem dX4_hasCell_9 : decode cX4_hasCell 9 = .ok (.iconst 1, 1) := by decide +kernel
theorem dX4_hasCell_10 : decode cX4_hasCell 10 = .ok (.isub, 1) := by decide +kernel
theorem dX4_hasCell_11 : decode cX4_hasCell 11 = .ok (.invokestatic 21, 3) := by decide +kernel
theorem dX4_hasCell_14 : decode cX4_hasCell 14 = .ok (.ireturn, 1) := by decide +kernel
set_option maxRecDepth 20000 in
theorem ggX4_cell_X4_hasCell : GoodIn wsX4_cell wsX4_hasCell := goodIn_r _ [6, 7, 8, 9, 10, 11, 12, 13] (by decide +kernel) (by decide +kernel)
set_option maxRecDepth 20000 in
theorem gX4_cell_X4_hasCell : GoodIn wsX4_cell (wsV RX4 25 RX4 yX4_hasCell wsX4_hasCell) := goodIn_app (goodIn_of _ (by decide +kernel)) ggX4_cell_X4_hasCell
theorem dX4_cell_0 : decode cX4_cell 0 = .ok (.aload_n 0, 1) := by decide +kernel
theorem dX4_cell_1 : decode cX4_cell 1 = .ok (.iload_n 1, 1) := by decide +kernel
theorem dX4_cell_2 : decode cX4_cell 2 = .ok (.iload_n 2, 1) := by decide +kernel
theorem dX4_cell_3 : decode cX4_cell 3 = .ok (.invokevirtual 25, 3) := by decide +kernel
theorem dX4_cell_6 : decode cX4_cell 6 = .ok (.ifCond .eq 17, 3) := by decide +kernel
theorem dX4_cell_9 : decode cX4_cell 9 = .ok (.aload_n 0, 1) := by decide +kernel
theorem dX4_cell_10 : decode cX4_cell 10 = .ok (.getfield 9, 3) := by decide +kernel
theorem dX4_cell_13 : decode cX4_cell 13 = .ok (.iload_n 1, 1) := by decide +kernel
theorem dX4_cell_14 : decode cX4_cell 14 = .ok (.bipush 40, 2) := by decide +kernel
theorem dX4_cell_16 : decode cX4_cell 16 = .ok (.imul, 1) := by decide +kernel
theorem dX4_cell_17 : decode cX4_cell 17 = .ok (.iload_n 2, 1) := by decide +kernel
theorem dX4_cell_18 : decode cX4_cell 18 = .ok (.iadd, 1) := by decide +kernel
theorem dX4_cell_19 : decode cX4_cell 19 = .ok (.iaload, 1) := by decide +kernel
theorem dX4_cell_20 : decode cX4_cell 20 = .ok (.goto 5, 3) := by decide +kernel
theorem dX4_cell_23 : decode cX4_cell 23 = .ok (.bipush (-4), 2) := by decide +kernel
theorem dX4_cell_25 : decode cX4_cell 25 = .ok (.ireturn, 1) := by decide +kernel
theorem dX4_put_0 : decode cX4_put 0 = .ok (.iload_n 3, 1) := by decide +kernel
theorem dX4_put_1 : decode cX4_put 1 = .ok (.istore 4, 2) := by decide +kernel
theorem dX4_put_3 : decode cX4_put 3 = .ok (.aload_n 0, 1) := by decide +kernel
theorem dX4_put_4 : decode cX4_put 4 = .ok (.getfield 15, 3) := by decide +kernel
theorem dX4_put_7 : decode cX4_put 7 = .ok (.iload_n 1, 1) := by decide +kernel
theorem dX4_put_8 : decode cX4_put 8 = .ok (.iaload, 1) := by decide +kernel
theorem dX4_put_9 : decode cX4_put 9 = .ok (.ifCond .ne 10, 3) := by decide +kernel
theorem dX4_put_12 : decode cX4_put 12 = .ok (.iload_n 3, 1) := by decide +kernel
theorem dX4_put_13 : decode cX4_put 13 = .ok (.i2b, 1) := by decide +kernel
theorem dX4_put_14 : decode cX4_put 14 = .ok (.istore 4, 2) := by decide +kernel
theorem dX4_put_16 : decode cX4_put 16 = .ok (.goto 17, 3) := by decide +kernel
theorem dX4_put_19 : decode cX4_put 19 = .ok (.aload_n 0, 1) := by decide +kernel
theorem dX4_put_20 : decode cX4_put 20 = .ok (.getfield 15, 3) := by decide +kernel
theorem dX4_put_23 : decode cX4_put 23 = .ok (.iload_n 1, 1) := by decide +kernel
theorem dX4_put_24 : decode cX4_put 24 = .ok (.iaload, 1) := by decide +kernel
theorem dX4_put_25 : decode cX4_put 25 = .ok (.iconst 1, 1) := by decide +kernel
theorem dX4_put_26 : decode cX4_put 26 = .ok (.if_icmp .ne 7, 3) := by decide +kernel
theorem dX4_put_29 : decode cX4_put 29 = .ok (.iload_n 3, 1) := by decide +kernel
theorem dX4_put_30 : decode cX4_put 30 = .ok (.i2s, 1) := by decide +kernel
theorem dX4_put_31 : decode cX4_put 31 = .ok (.istore 4, 2) := by decide +kernel
theorem dX4_put_33 : decode cX4_put 33 = .ok (.aload_n 0, 1) := by decide +kernel
theorem dX4_put_34 : decode cX4_put 34 = .ok (.getfield 9, 3) := by decide +kernel
theorem dX4_put_37 : decode cX4_put 37 = .ok (.iload_n 1, 1) := by decide +kernel
theorem dX4_put_38 : decode cX4_put 38 = .ok (.bipush 40, 2) := by decide +kernel
theorem dX4_put_40 : decode cX4_put 40 = .ok (.imul, 1) := by decide +kernel
theorem dX4_put_41 : decode cX4_put 41 = .ok (.iload_n 2, 1) := by decide +kernel
theorem dX4_put_42 : decode cX4_put 42 = .ok (.iadd, 1) := by decide +kernel
theorem dX4_put_43 : decode cX4_put 43 = .ok (.iload 4, 2) := by decide +kernel
theorem dX4_put_45 : decode cX4_put 45 = .ok (.iastore, 1) := by decide +kernel
theorem dX4_put_46 : decode cX4_put 46 = .ok (.return_, 1) := by decide +kernel
set_option maxRecDepth 20000 in
theorem ggX4_faultAs_X4_isNothing : GoodIn wsX4_faultAs wsX4_isNothing := goodIn_r _ [6, 7, 8, 9, 10] (by decide +kernel) (by decide +kernel)
set_option maxRecDepth 20000 in
theorem gX4_faultAs_X4_isNothing : GoodIn wsX4_faultAs (wsV RX4 29 RX4 yX4_isNothing wsX4_isNothing) := goodIn_app (goodIn_of _ (by decide +kernel)) ggX4_faultAs_X4_isNothing
theorem dX4_faultAs_0 : decode cX4_faultAs 0 = .ok (.aload_n 0, 1) := by decide +kernel
theorem dX4_faultAs_1 : decode cX4_faultAs 1 = .ok (.iload_n 1, 1) := by decide +kernel
theorem dX4_faultAs_2 : decode cX4_faultAs 2 = .ok (.invokevirtual 29, 3) := by decide +kernel
theorem dX4_faultAs_5 : decode cX4_faultAs 5 = .ok (.ifCond .eq 5, 3) := by decide +kernel
theorem dX4_faultAs_8 : decode cX4_faultAs 8 = .ok (.iconst 1, 1) := by decide +kernel
theorem dX4_faultAs_9 : decode cX4_faultAs 9 = .ok (.ireturn, 1) := by decide +kernel
theorem dX4_faultAs_10 : decode cX4_faultAs 10 = .ok (.aload_n 0, 1) := by decide +kernel
theorem dX4_faultAs_11 : decode cX4_faultAs 11 = .ok (.getfield 15, 3) := by decide +kernel
theorem dX4_faultAs_14 : decode cX4_faultAs 14 = .ok (.iload_n 1, 1) := by decide +kernel
theorem dX4_faultAs_15 : decode cX4_faultAs 15 = .ok (.iaload, 1) := by decide +kernel
theorem dX4_faultAs_16 : decode cX4_faultAs 16 = .ok (.iload_n 2, 1) := by decide +kernel
theorem dX4_faultAs_17 : decode cX4_faultAs 17 = .ok (.if_icmp .ne 7, 3) := by decide +kernel
theorem dX4_faultAs_20 : decode cX4_faultAs 20 = .ok (.iconst 0, 1) := by decide +kernel
theorem dX4_faultAs_21 : decode cX4_faultAs 21 = .ok (.goto 4, 3) := by decide +kernel
theorem dX4_faultAs_24 : decode cX4_faultAs 24 = .ok (.iconst 3, 1) := by decide +kernel
theorem dX4_faultAs_25 : decode cX4_faultAs 25 = .ok (.ireturn, 1) := by decide +kernel
set_option maxRecDepth 20000 in
theorem ggX4_wholePairs_X4_hasCell : GoodIn wsX4_wholePairs wsX4_hasCell := goodIn_r _ [10, 1, 11, 12, 13, 14, 15, 16] (by decide +kernel) (by decide +kernel)
set_option maxRecDepth 20000 in
theorem gX4_wholePairs_X4_hasCell : GoodIn wsX4_wholePairs (wsV RX4 25 RX4 yX4_hasCell wsX4_hasCell) := goodIn_app (goodIn_of _ (by decide +kernel)) ggX4_wholePairs_X4_hasCell
theorem dX4_wholePairs_0 : decode cX4_wholePairs 0 = .ok (.aload_n 0, 1) := by decide +kernel
theorem dX4_wholePairs_1 : decode cX4_wholePairs 1 = .ok (.iload_n 1, 1) := by decide +kernel
theorem dX4_wholePairs_2 : decode cX4_wholePairs 2 = .ok (.iload_n 2, 1) := by decide +kernel
theorem dX4_wholePairs_3 : decode cX4_wholePairs 3 = .ok (.invokevirtual 25, 3) := by decide +kernel
theorem dX4_wholePairs_6 : decode cX4_wholePairs 6 = .ok (.ifCond .eq 20, 3) := by decide +kernel
theorem dX4_wholePairs_9 : decode cX4_wholePairs 9 = .ok (.iload_n 3, 1) := by decide +kernel
theorem dX4_wholePairs_10 : decode cX4_wholePairs 10 = .ok (.aload_n 0, 1) := by decide +kernel
theorem dX4_wholePairs_11 : decode cX4_wholePairs 11 = .ok (.getfield 18, 3) := by decide +kernel
theorem dX4_wholePairs_14 : decode cX4_wholePairs 14 = .ok (.iload_n 1, 1) := by decide +kernel
theorem dX4_wholePairs_15 : decode cX4_wholePairs 15 = .ok (.iaload, 1) := by decide +kernel
theorem dX4_wholePairs_16 : decode cX4_wholePairs 16 = .ok (.iload_n 2, 1) := by decide +kernel
theorem dX4_wholePairs_17 : decode cX4_wholePairs 17 = .ok (.isub, 1) := by decide +kernel
theorem dX4_wholePairs_18 : decode cX4_wholePairs 18 = .ok (.iconst 2, 1) := by decide +kernel
theorem dX4_wholePairs_19 : decode cX4_wholePairs 19 = .ok (.idiv, 1) := by decide +kernel
theorem dX4_wholePairs_20 : decode cX4_wholePairs 20 = .ok (.invokestatic 33, 3) := by decide +kernel
theorem dX4_wholePairs_23 : decode cX4_wholePairs 23 = .ok (.goto 4, 3) := by decide +kernel
theorem dX4_wholePairs_26 : decode cX4_wholePairs 26 = .ok (.iconst 0, 1) := by decide +kernel
theorem dX4_wholePairs_27 : decode cX4_wholePairs 27 = .ok (.ireturn, 1) := by decide +kernel
theorem dX5_init_0 : decode cX5_init 0 = .ok (.aload_n 0, 1) := by decide +kernel
theorem dX5_init_1 : decode cX5_init 1 = .ok (.invokespecial 3, 3) := by decide +kernel
theorem dX5_init_4 : decode cX5_init 4 = .ok (.aload_n 0, 1) := by decide +kernel
theorem dX5_init_5 : decode cX5_init 5 = .ok (.iconst 2, 1) := by decide +kernel
theorem dX5_init_6 : decode cX5_init 6 = .ok (.newarray .int, 2) := by decide +kernel
theorem dX5_init_8 : decode cX5_init 8 = .ok (.putfield 9, 3) := by decide +kernel
theorem dX5_init_11 : decode cX5_init 11 = .ok (.aload_n 0, 1) := by decide +kernel
theorem dX5_init_12 : decode cX5_init 12 = .ok (.iconst 2, 1) := by decide +kernel
theorem dX5_init_13 : decode cX5_init 13 = .ok (.newarray .int, 2) := by decide +kernel
theorem dX5_init_15 : decode cX5_init 15 = .ok (.putfield 15, 3) := by decide +kernel
theorem dX5_init_18 : decode cX5_init 18 = .ok (.aload_n 0, 1) := by decide +kernel
theorem dX5_init_19 : decode cX5_init 19 = .ok (.iconst 2, 1) := by decide +kernel
theorem dX5_init_20 : decode cX5_init 20 = .ok (.newarray .int, 2) := by decide +kernel
theorem dX5_init_22 : decode cX5_init 22 = .ok (.putfield 18, 3) := by decide +kernel
theorem dX5_init_25 : decode cX5_init 25 = .ok (.aload_n 0, 1) := by decide +kernel
theorem dX5_init_26 : decode cX5_init 26 = .ok (.bipush 21, 2) := by decide +kernel
theorem dX5_init_28 : decode cX5_init 28 = .ok (.newarray .int, 2) := by decide +kernel
theorem dX5_init_30 : decode cX5_init 30 = .ok (.putfield 21, 3) := by decide +kernel
theorem dX5_init_33 : decode cX5_init 33 = .ok (.aload_n 0, 1) := by decide +kernel
theorem dX5_init_34 : decode cX5_init 34 = .ok (.iconst 0, 1) := by decide +kernel
theorem dX5_init_35 : decode cX5_init 35 = .ok (.putfield 24, 3) := by decide +kernel
theorem dX5_init_38 : decode cX5_init 38 = .ok (.aload_n 0, 1) := by decide +kernel
theorem dX5_init_39 : decode cX5_init 39 = .ok (.iconst 1, 1) := by decide +kernel
theorem dX5_init_40 : decode cX5_init 40 = .ok (.putfield 28, 3) := by decide +kernel
theorem dX5_init_43 : decode cX5_init 43 = .ok (.aload_n 0, 1) := by decide +kernel
theorem dX5_init_44 : decode cX5_init 44 = .ok (.iconst 0, 1) := by decide +kernel
theorem dX5_init_45 : decode cX5_init 45 = .ok (.putfield 31, 3) := by decide +kernel
theorem dX5_init_48 : decode cX5_init 48 = .ok (.return_, 1) := by decide +kernel
set_option maxRecDepth 20000 in
theorem ggX5_prepare_X5_blows : GoodIn wsX5_prepare wsX5_blows := goodIn_r _ [19, 11, 20, 21, 22, 23, 24, 25, 26, 27, 28, 29, 30] (by decide +kernel) (by decide +kernel)
set_option maxRecDepth 20000 in
theorem gX5_prepare_X5_blows : GoodIn wsX5_prepare (wsV RX5 51 RX5 yX5_blows wsX5_blows) := goodIn_app (goodIn_of _ (by decide +kernel)) ggX5_prepare_X5_blows
theorem dX5_prepare_0 : decode cX5_prepare 0 = .ok (.iconst 0, 1) := by decide +kernel
theorem dX5_prepare_1 : decode cX5_prepare 1 = .ok (.istore 5, 2) := by decide +kernel
theorem dX5_prepare_3 : decode cX5_prepare 3 = .ok (.iload 5, 2) := by decide +kernel
theorem dX5_prepare_5 : decode cX5_prepare 5 = .ok (.iconst 2, 1) := by decide +kernel
theorem dX5_prepare_6 : decode cX5_prepare 6 = .ok (.if_icmp .ge 63, 3) := by decide +kernel
theorem dX5_prepare_9 : decode cX5_prepare 9 = .ok (.aload_n 0, 1) := by decide +kernel
theorem dX5_prepare_10 : decode cX5_prepare 10 = .ok (.getfield 9, 3) := by decide +kernel
theorem dX5_prepare_13 : decode cX5_prepare 13 = .ok (.iload 5, 2) := by decide +kernel
theorem dX5_prepare_15 : decode cX5_prepare 15 = .ok (.aload_n 1, 1) := by decide +kernel
theorem dX5_prepare_16 : decode cX5_prepare 16 = .ok (.getfield 34, 3) := by decide +kernel
theorem dX5_prepare_19 : decode cX5_prepare 19 = .ok (.iconst 2, 1) := by decide +kernel
theorem dX5_prepare_20 : decode cX5_prepare 20 = .ok (.iload_n 2, 1) := by decide +kernel
theorem dX5_prepare_21 : decode cX5_prepare 21 = .ok (.imul, 1) := by decide +kernel
theorem dX5_prepare_22 : decode cX5_prepare 22 = .ok (.iload 5, 2) := by decide +kernel
theorem dX5_prepare_24 : decode cX5_prepare 24 = .ok (.iadd, 1) := by decide +kernel
theorem dX5_prepare_25 : decode cX5_prepare 25 = .ok (.iaload, 1) := by decide +kernel
theorem dX5_prepare_26 : decode cX5_prepare 26 = .ok (.iastore, 1) := by decide +kernel
theorem dX5_prepare_27 : decode cX5_prepare 27 = .ok (.aload_n 0, 1) := by decide +kernel
theorem dX5_prepare_28 : decode cX5_prepare 28 = .ok (.getfield 15, 3) := by decide +kernel
theorem dX5_prepare_31 : decode cX5_prepare 31 = .ok (.iload 5, 2) := by decide +kernel
theorem dX5_prepare_33 : decode cX5_prepare 33 = .ok (.aload_n 1, 1) := by decide +kernel
theorem dX5_prepare_34 : decode cX5_prepare 34 = .ok (.getfield 37, 3) := by decide +kernel
theorem dX5_prepare_37 : decode cX5_prepare 37 = .ok (.iconst 2, 1) := by decide +kernel
theorem dX5_prepare_38 : decode cX5_prepare 38 = .ok (.iload_n 2, 1) := by decide +kernel
theorem dX5_prepare_39 : decode cX5_prepare 39 = .ok (.imul, 1) := by decide +kernel
theorem dX5_prepare_40 : decode cX5_prepare 40 = .ok (.iload 5, 2) := by decide +kernel
theorem dX5_prepare_42 : decode cX5_prepare 42 = .ok (.iadd, 1) := by decide +kernel
theorem dX5_prepare_43 : decode cX5_prepare 43 = .ok (.iaload, 1) := by decide +kernel
theorem dX5_prepare_44 : decode cX5_prepare 44 = .ok (.iastore, 1) := by decide +kernel
theorem dX5_prepare_45 : decode cX5_prepare 45 = .ok (.aload_n 0, 1) := by decide +kernel
theorem dX5_prepare_46 : decode cX5_prepare 46 = .ok (.getfield 18, 3) := by decide +kernel
theorem dX5_prepare_49 : decode cX5_prepare 49 = .ok (.iload 5, 2) := by decide +kernel
theorem dX5_prepare_51 : decode cX5_prepare 51 = .ok (.aload_n 1, 1) := by decide +kernel
theorem dX5_prepare_52 : decode cX5_prepare 52 = .ok (.getfield 38, 3) := by decide +kernel
theorem dX5_prepare_55 : decode cX5_prepare 55 = .ok (.iconst 2, 1) := by decide +kernel
theorem dX5_prepare_56 : decode cX5_prepare 56 = .ok (.iload_n 2, 1) := by decide +kernel
theorem dX5_prepare_57 : decode cX5_prepare 57 = .ok (.imul, 1) := by decide +kernel
theorem dX5_prepare_58 : decode cX5_prepare 58 = .ok (.iload 5, 2) := by decide +kernel
theorem dX5_prepare_60 : decode cX5_prepare 60 = .ok (.iadd, 1) := by decide +kernel
theorem dX5_prepare_61 : decode cX5_prepare 61 = .ok (.iaload, 1) := by decide +kernel
theorem dX5_prepare_62 : decode cX5_prepare 62 = .ok (.iastore, 1) := by decide +kernel
theorem dX5_prepare_63 : decode cX5_prepare 63 = .ok (.iinc 5 1, 3) := by decide +kernel
theorem dX5_prepare_66 : decode cX5_prepare 66 = .ok (.goto (-63), 3) := by decide +kernel
theorem dX5_prepare_69 : decode cX5_prepare 69 = .ok (.aload_n 0, 1) := by decide +kernel
theorem dX5_prepare_70 : decode cX5_prepare 70 = .ok (.aload_n 1, 1) := by decide +kernel
theorem dX5_prepare_71 : decode cX5_prepare 71 = .ok (.getfield 39, 3) := by decide +kernel
theorem dX5_prepare_74 : decode cX5_prepare 74 = .ok (.iload_n 3, 1) := by decide +kernel
theorem dX5_prepare_75 : decode cX5_prepare 75 = .ok (.iaload, 1) := by decide +kernel
theorem dX5_prepare_76 : decode cX5_prepare 76 = .ok (.putfield 24, 3) := by decide +kernel
theorem dX5_prepare_79 : decode cX5_prepare 79 = .ok (.aload_n 0, 1) := by decide +kernel
theorem dX5_prepare_80 : decode cX5_prepare 80 = .ok (.aload_n 1, 1) := by decide +kernel
theorem dX5_prepare_81 : decode cX5_prepare 81 = .ok (.getfield 41, 3) := by decide +kernel
theorem dX5_prepare_84 : decode cX5_prepare 84 = .ok (.iload_n 3, 1) := by decide +kernel
theorem dX5_prepare_85 : decode cX5_prepare 85 = .ok (.iaload, 1) := by decide +kernel
theorem dX5_prepare_86 : decode cX5_prepare 86 = .ok (.putfield 28, 3) := by decide +kernel
theorem dX5_prepare_89 : decode cX5_prepare 89 = .ok (.iconst 0, 1) := by decide +kernel
theorem dX5_prepare_90 : decode cX5_prepare 90 = .ok (.istore 5, 2) := by decide +kernel
theorem dX5_prepare_92 : decode cX5_prepare 92 = .ok (.iload 5, 2) := by decide +kernel
theorem dX5_prepare_94 : decode cX5_prepare 94 = .ok (.aload_n 0, 1) := by decide +kernel
theorem dX5_prepare_95 : decode cX5_prepare 95 = .ok (.getfield 21, 3) := by decide +kernel
theorem dX5_prepare_98 : decode cX5_prepare 98 = .ok (.arraylength, 1) := by decide +kernel
theorem dX5_prepare_99 : decode cX5_prepare 99 = .ok (.if_icmp .ge 17, 3) := by decide +kernel
theorem dX5_prepare_102 : decode cX5_prepare 102 = .ok (.aload_n 0, 1) := by decide +kernel
theorem dX5_prepare_103 : decode cX5_prepare 103 = .ok (.getfield 21, 3) := by decide +kernel
theorem dX5_prepare_106 : decode cX5_prepare 106 = .ok (.iload 5, 2) := by decide +kernel
theorem dX5_prepare_108 : decode cX5_prepare 108 = .ok (.iconst 0, 1) := by decide +kernel
theorem dX5_prepare_109 : decode cX5_prepare 109 = .ok (.iastore, 1) := by decide +kernel
theorem dX5_prepare_110 : decode cX5_prepare 110 = .ok (.iinc 5 1, 3) := by decide +kernel
theorem dX5_prepare_113 : decode cX5_prepare 113 = .ok (.goto (-21), 3) := by decide +kernel
theorem dX5_prepare_116 : decode cX5_prepare 116 = .ok (.iconst 0, 1) := by decide +kernel
theorem dX5_prepare_117 : decode cX5_prepare 117 = .ok (.istore 5, 2) := by decide +kernel
theorem dX5_prepare_119 : decode cX5_prepare 119 = .ok (.iload 5, 2) := by decide +kernel
theorem dX5_prepare_121 : decode cX5_prepare 121 = .ok (.aload_n 1, 1) := by decide +kernel
theorem dX5_prepare_122 : decode cX5_prepare 122 = .ok (.getfield 43, 3) := by decide +kernel
theorem dX5_prepare_125 : decode cX5_prepare 125 = .ok (.if_icmp .ge 37, 3) := by decide +kernel
theorem dX5_prepare_128 : decode cX5_prepare 128 = .ok (.iload 4, 2) := by decide +kernel
theorem dX5_prepare_130 : decode cX5_prepare 130 = .ok (.iload 5, 2) := by decide +kernel
theorem dX5_prepare_132 : decode cX5_prepare 132 = .ok (.ishr, 1) := by decide +kernel
theorem dX5_prepare_133 : decode cX5_prepare 133 = .ok (.iconst 1, 1) := by decide +kernel
theorem dX5_prepare_134 : decode cX5_prepare 134 = .ok (.iand, 1) := by decide +kernel
theorem dX5_prepare_135 : decode cX5_prepare 135 = .ok (.ifCond .ne 21, 3) := by decide +kernel
theorem dX5_prepare_138 : decode cX5_prepare 138 = .ok (.aload_n 0, 1) := by decide +kernel
theorem dX5_prepare_139 : decode cX5_prepare 139 = .ok (.aload_n 1, 1) := by decide +kernel
theorem dX5_prepare_140 : decode cX5_prepare 140 = .ok (.getfield 46, 3) := by decide +kernel
theorem dX5_prepare_143 : decode cX5_prepare 143 = .ok (.iload 5, 2) := by decide +kernel
theorem dX5_prepare_145 : decode cX5_prepare 145 = .ok (.iaload, 1) := by decide +kernel
theorem dX5_prepare_146 : decode cX5_prepare 146 = .ok (.aload_n 1, 1) := by decide +kernel
theorem dX5_prepare_147 : decode cX5_prepare 147 = .ok (.getfield 48, 3) := by decide +kernel
theorem dX5_prepare_150 : decode cX5_prepare 150 = .ok (.iload 5, 2) := by decide +kernel
theorem dX5_prepare_152 : decode cX5_prepare 152 = .ok (.iaload, 1) := by decide +kernel
theorem dX5_prepare_153 : decode cX5_prepare 153 = .ok (.invokevirtual 51, 3) := by decide +kernel
theorem dX5_prepare_156 : decode cX5_prepare 156 = .ok (.iinc 5 1, 3) := by decide +kernel
theorem dX5_prepare_159 : decode cX5_prepare 159 = .ok (.goto (-40), 3) := by decide +kernel
theorem dX5_prepare_162 : decode cX5_prepare 162 = .ok (.return_, 1) := by decide +kernel
theorem dX5_blows_0 : decode cX5_blows 0 = .ok (.aload_n 0, 1) := by decide +kernel
theorem dX5_blows_1 : decode cX5_blows 1 = .ok (.getfield 21, 3) := by decide +kernel
theorem dX5_blows_4 : decode cX5_blows 4 = .ok (.iload_n 1, 1) := by decide +kernel
theorem dX5_blows_5 : decode cX5_blows 5 = .ok (.aload_n 0, 1) := by decide +kernel
theorem dX5_blows_6 : decode cX5_blows 6 = .ok (.getfield 21, 3) := by decide +kernel
theorem dX5_blows_9 : decode cX5_blows 9 = .ok (.iload_n 1, 1) := by decide +kernel
theorem dX5_blows_10 : decode cX5_blows 10 = .ok (.iaload, 1) := by decide +kernel
theorem dX5_blows_11 : decode cX5_blows 11 = .ok (.iload_n 2, 1) := by decide +kernel
theorem dX5_blows_12 : decode cX5_blows 12 = .ok (.invokestatic 55, 3) := by decide +kernel
theorem dX5_blows_15 : decode cX5_blows 15 = .ok (.iastore, 1) := by decide +kernel
theorem dX5_blows_16 : decode cX5_blows 16 = .ok (.return_, 1) := by decide +kernel
theorem dX5_change_0 : decode cX5_change 0 = .ok (.iload_n 2, 1) := by decide +kernel
theorem dX5_change_1 : decode cX5_change 1 = .ok (.ifCond .ne 13, 3) := by decide +kernel
theorem dX5_change_4 : decode cX5_change 4 = .ok (.aload_n 0, 1) := by decide +kernel
theorem dX5_change_5 : decode cX5_change 5 = .ok (.getfield 9, 3) := by decide +kernel
theorem dX5_change_8 : decode cX5_change 8 = .ok (.iload_n 1, 1) := by decide +kernel
theorem dX5_change_9 : decode cX5_change 9 = .ok (.iload_n 3, 1) := by decide +kernel
theorem dX5_change_10 : decode cX5_change 10 = .ok (.iastore, 1) := by decide +kernel
theorem dX5_change_11 : decode cX5_change 11 = .ok (.goto 25, 3) := by decide +kernel
theorem dX5_change_14 : decode cX5_change 14 = .ok (.iload_n 2, 1) := by decide +kernel
theorem dX5_change_15 : decode cX5_change 15 = .ok (.iconst 1, 1) := by decide +kernel
theorem dX5_change_16 : decode cX5_change 16 = .ok (.if_icmp .ne 13, 3) := by decide +kernel
theorem dX5_change_19 : decode cX5_change 19 = .ok (.aload_n 0, 1) := by decide +kernel
theorem dX5_change_20 : decode cX5_change 20 = .ok (.getfield 15, 3) := by decide +kernel
theorem dX5_change_23 : decode cX5_change 23 = .ok (.iload_n 1, 1) := by decide +kernel
theorem dX5_change_24 : decode cX5_change 24 = .ok (.iload_n 3, 1) := by decide +kernel
theorem dX5_change_25 : decode cX5_change 25 = .ok (.iastore, 1) := by decide +kernel
theorem dX5_change_26 : decode cX5_change 26 = .ok (.goto 10, 3) := by decide +kernel
theorem dX5_change_29 : decode cX5_change 29 = .ok (.aload_n 0, 1) := by decide +kernel
theorem dX5_change_30 : decode cX5_change 30 = .ok (.getfield 18, 3) := by decide +kernel
theorem dX5_change_33 : decode cX5_change 33 = .ok (.iload_n 1, 1) := by decide +kernel
theorem dX5_change_34 : decode cX5_change 34 = .ok (.iload_n 3, 1) := by decide +kernel
theorem dX5_change_35 : decode cX5_change 35 = .ok (.iastore, 1) := by decide +kernel
theorem dX5_change_36 : decode cX5_change 36 = .ok (.return_, 1) := by decide +kernel
set_option maxRecDepth 20000 in
theorem ggX5_verdictHeld_X5_burnsStill : GoodIn wsX5_verdictHeld wsX5_burnsStill := goodIn_r _ [13, 3, 14, 15, 1, 21, 22, 23, 24, 25, 26, 27] (by decide +kernel) (by decide +kernel)
set_option maxRecDepth 20000 in
theorem gX5_verdictHeld_X5_burnsStill : GoodIn wsX5_verdictHeld (wsV RX5 61 RX5 yX5_burnsStill wsX5_burnsStill) := goodIn_app (goodIn_of _ (by decide +kernel)) ggX5_verdictHeld_X5_burnsStill
set_option maxRecDepth 20000 in
theorem ggX5_verdictHeld_X5_goesTo : GoodIn wsX5_verdictHeld wsX5_goesTo := goodIn_r _ [19, 3, 20, 14, 21, 22, 23, 24, 25, 26, 27] (by decide +kernel) (by decide +kernel)
set_option maxRecDepth 20000 in
theorem gX5_verdictHeld_X5_goesTo : GoodIn wsX5_verdictHeld (wsV RX5 68 RX5 yX5_goesTo wsX5_goesTo) := goodIn_app (goodIn_of _ (by decide +kernel)) ggX5_verdictHeld_X5_goesTo
theorem dX5_verdictHeld_0 : decode cX5_verdictHeld 0 = .ok (.aload_n 0, 1) := by decide +kernel
theorem dX5_verdictHeld_1 : decode cX5_verdictHeld 1 = .ok (.iconst 0, 1) := by decide +kernel
theorem dX5_verdictHeld_2 : decode cX5_verdictHeld 2 = .ok (.putfield 31, 3) := by decide +kernel
theorem dX5_verdictHeld_5 : decode cX5_verdictHeld 5 = .ok (.aload_n 0, 1) := by decide +kernel
theorem dX5_verdictHeld_6 : decode cX5_verdictHeld 6 = .ok (.getfield 31, 3) := by decide +kernel
theorem dX5_verdictHeld_9 : decode cX5_verdictHeld 9 = .ok (.aload_n 0, 1) := by decide +kernel
theorem dX5_verdictHeld_10 : decode cX5_verdictHeld 10 = .ok (.getfield 28, 3) := by decide +kernel
theorem dX5_verdictHeld_13 : decode cX5_verdictHeld 13 = .ok (.if_icmp .ge 86, 3) := by decide +kernel
theorem dX5_verdictHeld_16 : decode cX5_verdictHeld 16 = .ok (.aload_n 0, 1) := by decide +kernel
theorem dX5_verdictHeld_17 : decode cX5_verdictHeld 17 = .ok (.iconst 0, 1) := by decide +kernel
theorem dX5_verdictHeld_18 : decode cX5_verdictHeld 18 = .ok (.invokevirtual 61, 3) := by decide +kernel
theorem dX5_verdictHeld_21 : decode cX5_verdictHeld 21 = .ok (.ifCond .eq 78, 3) := by decide +kernel
theorem dX5_verdictHeld_24 : decode cX5_verdictHeld 24 = .ok (.aload_n 0, 1) := by decide +kernel
theorem dX5_verdictHeld_25 : decode cX5_verdictHeld 25 = .ok (.iconst 1, 1) := by decide +kernel
theorem dX5_verdictHeld_26 : decode cX5_verdictHeld 26 = .ok (.invokevirtual 61, 3) := by decide +kernel
theorem dX5_verdictHeld_29 : decode cX5_verdictHeld 29 = .ok (.ifCond .eq 70, 3) := by decide +kernel
theorem dX5_verdictHeld_32 : decode cX5_verdictHeld 32 = .ok (.aload_n 0, 1) := by decide +kernel
theorem dX5_verdictHeld_33 : decode cX5_verdictHeld 33 = .ok (.getfield 15, 3) := by decide +kernel
theorem dX5_verdictHeld_36 : decode cX5_verdictHeld 36 = .ok (.iconst 0, 1) := by decide +kernel
theorem dX5_verdictHeld_37 : decode cX5_verdictHeld 37 = .ok (.iconst 0, 1) := by decide +kernel
theorem dX5_verdictHeld_38 : decode cX5_verdictHeld 38 = .ok (.aload_n 0, 1) := by decide +kernel
theorem dX5_verdictHeld_39 : decode cX5_verdictHeld 39 = .ok (.getfield 15, 3) := by decide +kernel
theorem dX5_verdictHeld_42 : decode cX5_verdictHeld 42 = .ok (.iconst 0, 1) := by decide +kernel
theorem dX5_verdictHeld_43 : decode cX5_verdictHeld 43 = .ok (.iaload, 1) := by decide +kernel
theorem dX5_verdictHeld_44 : decode cX5_verdictHeld 44 = .ok (.getstatic 65, 3) := by decide +kernel
theorem dX5_verdictHeld_47 : decode cX5_verdictHeld 47 = .ok (.aload_n 0, 1) := by decide +kernel
theorem dX5_verdictHeld_48 : decode cX5_verdictHeld 48 = .ok (.getfield 9, 3) := by decide +kernel
theorem dX5_verdictHeld_51 : decode cX5_verdictHeld 51 = .ok (.iconst 0, 1) := by decide +kernel
theorem dX5_verdictHeld_52 : decode cX5_verdictHeld 52 = .ok (.iaload, 1) := by decide +kernel
theorem dX5_verdictHeld_53 : decode cX5_verdictHeld 53 = .ok (.iaload, 1) := by decide +kernel
theorem dX5_verdictHeld_54 : decode cX5_verdictHeld 54 = .ok (.isub, 1) := by decide +kernel
theorem dX5_verdictHeld_55 : decode cX5_verdictHeld 55 = .ok (.invokestatic 55, 3) := by decide +kernel
theorem dX5_verdictHeld_58 : decode cX5_verdictHeld 58 = .ok (.iastore, 1) := by decide +kernel
theorem dX5_verdictHeld_59 : decode cX5_verdictHeld 59 = .ok (.aload_n 0, 1) := by decide +kernel
theorem dX5_verdictHeld_60 : decode cX5_verdictHeld 60 = .ok (.getfield 15, 3) := by decide +kernel
theorem dX5_verdictHeld_63 : decode cX5_verdictHeld 63 = .ok (.iconst 1, 1) := by decide +kernel
theorem dX5_verdictHeld_64 : decode cX5_verdictHeld 64 = .ok (.iconst 0, 1) := by decide +kernel
theorem dX5_verdictHeld_65 : decode cX5_verdictHeld 65 = .ok (.aload_n 0, 1) := by decide +kernel
theorem dX5_verdictHeld_66 : decode cX5_verdictHeld 66 = .ok (.getfield 15, 3) := by decide +kernel
theorem dX5_verdictHeld_69 : decode cX5_verdictHeld 69 = .ok (.iconst 1, 1) := by decide +kernel
theorem dX5_verdictHeld_70 : decode cX5_verdictHeld 70 = .ok (.iaload, 1) := by decide +kernel
theorem dX5_verdictHeld_71 : decode cX5_verdictHeld 71 = .ok (.getstatic 65, 3) := by decide +kernel
theorem dX5_verdictHeld_74 : decode cX5_verdictHeld 74 = .ok (.aload_n 0, 1) := by decide +kernel
theorem dX5_verdictHeld_75 : decode cX5_verdictHeld 75 = .ok (.getfield 9, 3) := by decide +kernel
theorem dX5_verdictHeld_78 : decode cX5_verdictHeld 78 = .ok (.iconst 1, 1) := by decide +kernel
theorem dX5_verdictHeld_79 : decode cX5_verdictHeld 79 = .ok (.iaload, 1) := by decide +kernel
theorem dX5_verdictHeld_80 : decode cX5_verdictHeld 80 = .ok (.iaload, 1) := by decide +kernel
theorem dX5_verdictHeld_81 : decode cX5_verdictHeld 81 = .ok (.isub, 1) := by decide +kernel
theorem dX5_verdictHeld_82 : decode cX5_verdictHeld 82 = .ok (.invokestatic 55, 3) := by decide +kernel
theorem dX5_verdictHeld_85 : decode cX5_verdictHeld 85 = .ok (.iastore, 1) := by decide +kernel
theorem dX5_verdictHeld_86 : decode cX5_verdictHeld 86 = .ok (.aload_n 0, 1) := by decide +kernel
theorem dX5_verdictHeld_87 : decode cX5_verdictHeld 87 = .ok (.dup, 1) := by decide +kernel
theorem dX5_verdictHeld_88 : decode cX5_verdictHeld 88 = .ok (.getfield 31, 3) := by decide +kernel
theorem dX5_verdictHeld_91 : decode cX5_verdictHeld 91 = .ok (.iconst 1, 1) := by decide +kernel
theorem dX5_verdictHeld_92 : decode cX5_verdictHeld 92 = .ok (.iadd, 1) := by decide +kernel
theorem dX5_verdictHeld_93 : decode cX5_verdictHeld 93 = .ok (.putfield 31, 3) := by decide +kernel
theorem dX5_verdictHeld_96 : decode cX5_verdictHeld 96 = .ok (.goto (-91), 3) := by decide +kernel
theorem dX5_verdictHeld_99 : decode cX5_verdictHeld 99 = .ok (.aload_n 0, 1) := by decide +kernel
theorem dX5_verdictHeld_100 : decode cX5_verdictHeld 100 = .ok (.iconst 0, 1) := by decide +kernel
theorem dX5_verdictHeld_101 : decode cX5_verdictHeld 101 = .ok (.invokevirtual 61, 3) := by decide +kernel
theorem dX5_verdictHeld_104 : decode cX5_verdictHeld 104 = .ok (.istore_n 1, 1) := by decide +kernel
theorem dX5_verdictHeld_105 : decode cX5_verdictHeld 105 = .ok (.aload_n 0, 1) := by decide +kernel
theorem dX5_verdictHeld_106 : decode cX5_verdictHeld 106 = .ok (.iconst 1, 1) := by decide +kernel
theorem dX5_verdictHeld_107 : decode cX5_verdictHeld 107 = .ok (.invokevirtual 61, 3) := by decide +kernel
theorem dX5_verdictHeld_110 : decode cX5_verdictHeld 110 = .ok (.istore_n 2, 1) := by decide +kernel
theorem dX5_verdictHeld_111 : decode cX5_verdictHeld 111 = .ok (.iload_n 1, 1) := by decide +kernel
theorem dX5_verdictHeld_112 : decode cX5_verdictHeld 112 = .ok (.ifCond .eq 20, 3) := by decide +kernel
theorem dX5_verdictHeld_115 : decode cX5_verdictHeld 115 = .ok (.iload_n 2, 1) := by decide +kernel
theorem dX5_verdictHeld_116 : decode cX5_verdictHeld 116 = .ok (.ifCond .eq 16, 3) := by decide +kernel
theorem dX5_verdictHeld_119 : decode cX5_verdictHeld 119 = .ok (.aload_n 0, 1) := by decide +kernel
theorem dX5_verdictHeld_120 : decode cX5_verdictHeld 120 = .ok (.invokevirtual 68, 3) := by decide +kernel
theorem dX5_verdictHeld_123 : decode cX5_verdictHeld 123 = .ok (.ifCond .ne 7, 3) := by decide +kernel
theorem dX5_verdictHeld_126 : decode cX5_verdictHeld 126 = .ok (.iconst 2, 1) := by decide +kernel
theorem dX5_verdictHeld_127 : decode cX5_verdictHeld 127 = .ok (.goto 4, 3) := by decide +kernel
theorem dX5_verdictHeld_130 : decode cX5_verdictHeld 130 = .ok (.iconst 1, 1) := by decide +kernel
theorem dX5_verdictHeld_131 : decode cX5_verdictHeld 131 = .ok (.ireturn, 1) := by decide +kernel
theorem dX5_verdictHeld_132 : decode cX5_verdictHeld 132 = .ok (.iload_n 1, 1) := by decide +kernel
theorem dX5_verdictHeld_133 : decode cX5_verdictHeld 133 = .ok (.ifCond .eq 5, 3) := by decide +kernel
theorem dX5_verdictHeld_136 : decode cX5_verdictHeld 136 = .ok (.iconst 1, 1) := by decide +kernel
theorem dX5_verdictHeld_137 : decode cX5_verdictHeld 137 = .ok (.ireturn, 1) := by decide +kernel
theorem dX5_verdictHeld_138 : decode cX5_verdictHeld 138 = .ok (.iload_n 2, 1) := by decide +kernel
theorem dX5_verdictHeld_139 : decode cX5_verdictHeld 139 = .ok (.ifCond .eq 7, 3) := by decide +kernel
theorem dX5_verdictHeld_142 : decode cX5_verdictHeld 142 = .ok (.iconst 2, 1) := by decide +kernel
theorem dX5_verdictHeld_143 : decode cX5_verdictHeld 143 = .ok (.goto 4, 3) := by decide +kernel
theorem dX5_verdictHeld_146 : decode cX5_verdictHeld 146 = .ok (.iconst 3, 1) := by decide +kernel
theorem dX5_verdictHeld_147 : decode cX5_verdictHeld 147 = .ok (.ireturn, 1) := by decide +kernel
theorem dX5_burnsStill_0 : decode cX5_burnsStill 0 = .ok (.aload_n 0, 1) := by decide +kernel
theorem dX5_burnsStill_1 : decode cX5_burnsStill 1 = .ok (.getfield 15, 3) := by decide +kernel
theorem dX5_burnsStill_4 : decode cX5_burnsStill 4 = .ok (.iload_n 1, 1) := by decide +kernel
theorem dX5_burnsStill_5 : decode cX5_burnsStill 5 = .ok (.iaload, 1) := by decide +kernel
theorem dX5_burnsStill_6 : decode cX5_burnsStill 6 = .ok (.ifCond .le 25, 3) := by decide +kernel
theorem dX5_burnsStill_9 : decode cX5_burnsStill 9 = .ok (.aload_n 0, 1) := by decide +kernel
theorem dX5_burnsStill_10 : decode cX5_burnsStill 10 = .ok (.getfield 18, 3) := by decide +kernel
theorem dX5_burnsStill_13 : decode cX5_burnsStill 13 = .ok (.iload_n 1, 1) := by decide +kernel
theorem dX5_burnsStill_14 : decode cX5_burnsStill 14 = .ok (.iaload, 1) := by decide +kernel
theorem dX5_burnsStill_15 : decode cX5_burnsStill 15 = .ok (.aload_n 0, 1) := by decide +kernel
theorem dX5_burnsStill_16 : decode cX5_burnsStill 16 = .ok (.getfield 21, 3) := by decide +kernel
theorem dX5_burnsStill_19 : decode cX5_burnsStill 19 = .ok (.aload_n 0, 1) := by decide +kernel
theorem dX5_burnsStill_20 : decode cX5_burnsStill 20 = .ok (.getfield 31, 3) := by decide +kernel
theorem dX5_burnsStill_23 : decode cX5_burnsStill 23 = .ok (.iaload, 1) := by decide +kernel
theorem dX5_burnsStill_24 : decode cX5_burnsStill 24 = .ok (.if_icmp .lt 7, 3) := by decide +kernel
theorem dX5_burnsStill_27 : decode cX5_burnsStill 27 = .ok (.iconst 1, 1) := by decide +kernel
theorem dX5_burnsStill_28 : decode cX5_burnsStill 28 = .ok (.goto 4, 3) := by decide +kernel
theorem dX5_burnsStill_31 : decode cX5_burnsStill 31 = .ok (.iconst 0, 1) := by decide +kernel
theorem dX5_burnsStill_32 : decode cX5_burnsStill 32 = .ok (.ireturn, 1) := by decide +kernel
theorem dX5_goesTo_0 : decode cX5_goesTo 0 = .ok (.aload_n 0, 1) := by decide +kernel
theorem dX5_goesTo_1 : decode cX5_goesTo 1 = .ok (.getfield 15, 3) := by decide +kernel
theorem dX5_goesTo_4 : decode cX5_goesTo 4 = .ok (.iconst 1, 1) := by decide +kernel
theorem dX5_goesTo_5 : decode cX5_goesTo 5 = .ok (.iaload, 1) := by decide +kernel
theorem dX5_goesTo_6 : decode cX5_goesTo 6 = .ok (.aload_n 0, 1) := by decide +kernel
theorem dX5_goesTo_7 : decode cX5_goesTo 7 = .ok (.getfield 15, 3) := by decide +kernel
theorem dX5_goesTo_10 : decode cX5_goesTo 10 = .ok (.iconst 0, 1) := by decide +kernel
theorem dX5_goesTo_11 : decode cX5_goesTo 11 = .ok (.iaload, 1) := by decide +kernel
theorem dX5_goesTo_12 : decode cX5_goesTo 12 = .ok (.if_icmp .le 7, 3) := by decide +kernel
theorem dX5_goesTo_15 : decode cX5_goesTo 15 = .ok (.iconst 1, 1) := by decide +kernel
theorem dX5_goesTo_16 : decode cX5_goesTo 16 = .ok (.goto 4, 3) := by decide +kernel
theorem dX5_goesTo_19 : decode cX5_goesTo 19 = .ok (.iconst 0, 1) := by decide +kernel
theorem dX5_goesTo_20 : decode cX5_goesTo 20 = .ok (.istore_n 1, 1) := by decide +kernel
theorem dX5_goesTo_21 : decode cX5_goesTo 21 = .ok (.aload_n 0, 1) := by decide +kernel
theorem dX5_goesTo_22 : decode cX5_goesTo 22 = .ok (.getfield 24, 3) := by decide +kernel
theorem dX5_goesTo_25 : decode cX5_goesTo 25 = .ok (.tableswitch 54 1 3 #[27, 29, 33], 27) := by decide +kernel
theorem dX5_goesTo_52 : decode cX5_goesTo 52 = .ok (.iload_n 1, 1) := by decide +kernel
theorem dX5_goesTo_53 : decode cX5_goesTo 53 = .ok (.ireturn, 1) := by decide +kernel
theorem dX5_goesTo_54 : decode cX5_goesTo 54 = .ok (.iconst 1, 1) := by decide +kernel
theorem dX5_goesTo_55 : decode cX5_goesTo 55 = .ok (.iload_n 1, 1) := by decide +kernel
theorem dX5_goesTo_56 : decode cX5_goesTo 56 = .ok (.isub, 1) := by decide +kernel
theorem dX5_goesTo_57 : decode cX5_goesTo 57 = .ok (.ireturn, 1) := by decide +kernel
theorem dX5_goesTo_58 : decode cX5_goesTo 58 = .ok (.aload_n 0, 1) := by decide +kernel
theorem dX5_goesTo_59 : decode cX5_goesTo 59 = .ok (.getfield 18, 3) := by decide +kernel
theorem dX5_goesTo_62 : decode cX5_goesTo 62 = .ok (.iconst 1, 1) := by decide +kernel
theorem dX5_goesTo_63 : decode cX5_goesTo 63 = .ok (.iaload, 1) := by decide +kernel
theorem dX5_goesTo_64 : decode cX5_goesTo 64 = .ok (.aload_n 0, 1) := by decide +kernel
theorem dX5_goesTo_65 : decode cX5_goesTo 65 = .ok (.getfield 18, 3) := by decide +kernel
theorem dX5_goesTo_68 : decode cX5_goesTo 68 = .ok (.iconst 0, 1) := by decide +kernel
theorem dX5_goesTo_69 : decode cX5_goesTo 69 = .ok (.iaload, 1) := by decide +kernel
theorem dX5_goesTo_70 : decode cX5_goesTo 70 = .ok (.if_icmp .ge 7, 3) := by decide +kernel
theorem dX5_goesTo_73 : decode cX5_goesTo 73 = .ok (.iconst 1, 1) := by decide +kernel
theorem dX5_goesTo_74 : decode cX5_goesTo 74 = .ok (.goto 4, 3) := by decide +kernel
theorem dX5_goesTo_77 : decode cX5_goesTo 77 = .ok (.iconst 0, 1) := by decide +kernel
theorem dX5_goesTo_78 : decode cX5_goesTo 78 = .ok (.ireturn, 1) := by decide +kernel
theorem dX5_goesTo_79 : decode cX5_goesTo 79 = .ok (.iconst 0, 1) := by decide +kernel
theorem dX5_goesTo_80 : decode cX5_goesTo 80 = .ok (.ireturn, 1) := by decide +kernel
set_option maxRecDepth 20000 in
theorem ggX6_init_X0_init : GoodIn wsX6_init wsX0_init := goodIn_r _ [37, 38, 2, 3, 39, 40, 41, 42, 32, 43, 44, 45, 46, 47, 48, 49, 50, 51, 52, 53, 54, 55, 98, 99, 100, 101, 102, 103, 104, 105, 106, 107, 108, 109, 110, 111, 112, 113, 114] (by decide +kernel) (by decide +kernel)
set_option maxRecDepth 20000 in
theorem gX6_init_X0_init_n11 : GoodIn wsX6_init (wsX0_init) := ggX6_init_X0_init
set_option maxRecDepth 20000 in
theorem ggX6_init_X2_init : GoodIn wsX6_init wsX2_init := goodIn_r _ [57, 58, 2, 3, 32, 59, 60, 5, 6, 61, 62, 63, 64, 65, 66, 67, 68, 36, 37, 38, 39, 40, 41, 42, 43, 44, 45, 46, 47, 48, 49, 50, 51, 52, 53, 54, 55, 127, 128, 129, 130, 131, 132, 133, 134, 135, 98, 99, 100, 101, 102, 103, 104, 105, 106, 107, 108, 109, 110, 111, 112, 113, 114] (by decide +kernel) (by decide +kernel)
set_option maxRecDepth 20000 in
theorem gX6_init_X2_init_n28 : GoodIn wsX6_init (wsX2_init) := ggX6_init_X2_init
set_option maxRecDepth 20000 in
theorem ggX6_init_X5_init : GoodIn wsX6_init wsX5_init := goodIn_r _ [70, 71, 2, 3, 32, 72, 73, 74, 75, 76, 77, 78, 136, 137, 138, 139, 140, 141, 142] (by decide +kernel) (by decide +kernel)
set_option maxRecDepth 20000 in
theorem gX6_init_X5_init_n35 : GoodIn wsX6_init (wsX5_init) := ggX6_init_X5_init
set_option maxRecDepth 20000 in
theorem ggX6_init_X3_init : GoodIn wsX6_init wsX3_init := goodIn_r _ [80, 81, 2, 3, 32, 82, 83, 84, 143, 144, 145] (by decide +kernel) (by decide +kernel)
set_option maxRecDepth 20000 in
theorem gX6_init_X3_init_n42 : GoodIn wsX6_init (wsX3_init) := ggX6_init_X3_init
set_option maxRecDepth 20000 in
theorem ggX6_init_X1_init : GoodIn wsX6_init wsX1_init := goodIn_r _ [86, 87, 2, 3, 32, 88, 89, 90, 91, 146, 147, 148, 149] (by decide +kernel) (by decide +kernel)
set_option maxRecDepth 20000 in
theorem gX6_init_X1_init_n49 : GoodIn wsX6_init (wsX1_init) := ggX6_init_X1_init
set_option maxRecDepth 20000 in
theorem ggX6_init_X4_init : GoodIn wsX6_init wsX4_init := goodIn_r _ [93, 94, 2, 3, 32, 95, 96, 97, 150, 151, 152] (by decide +kernel) (by decide +kernel)
set_option maxRecDepth 20000 in
theorem gX6_init_X4_init_n56 : GoodIn wsX6_init (wsX4_init) := ggX6_init_X4_init
theorem dX6_init_0 : decode cX6_init 0 = .ok (.aload_n 0, 1) := by decide +kernel
theorem dX6_init_1 : decode cX6_init 1 = .ok (.invokespecial 3, 3) := by decide +kernel
theorem dX6_init_4 : decode cX6_init 4 = .ok (.aload_n 0, 1) := by decide +kernel
theorem dX6_init_5 : decode cX6_init 5 = .ok (.new 9, 3) := by decide +kernel
theorem dX6_init_8 : decode cX6_init 8 = .ok (.dup, 1) := by decide +kernel
theorem dX6_init_9 : decode cX6_init 9 = .ok (.invokespecial 11, 3) := by decide +kernel
theorem dX6_init_12 : decode cX6_init 12 = .ok (.putfield 12, 3) := by decide +kernel
theorem dX6_init_15 : decode cX6_init 15 = .ok (.aload_n 0, 1) := by decide +kernel
theorem dX6_init_16 : decode cX6_init 16 = .ok (.new 9, 3) := by decide +kernel
theorem dX6_init_19 : decode cX6_init 19 = .ok (.dup, 1) := by decide +kernel
theorem dX6_init_20 : decode cX6_init 20 = .ok (.invokespecial 11, 3) := by decide +kernel
theorem dX6_init_23 : decode cX6_init 23 = .ok (.putfield 16, 3) := by decide +kernel
theorem dX6_init_26 : decode cX6_init 26 = .ok (.aload_n 0, 1) := by decide +kernel
theorem dX6_init_27 : decode cX6_init 27 = .ok (.new 9, 3) := by decide +kernel
theorem dX6_init_30 : decode cX6_init 30 = .ok (.dup, 1) := by decide +kernel
theorem dX6_init_31 : decode cX6_init 31 = .ok (.invokespecial 11, 3) := by decide +kernel
theorem dX6_init_34 : decode cX6_init 34 = .ok (.putfield 19, 3) := by decide +kernel
theorem dX6_init_37 : decode cX6_init 37 = .ok (.aload_n 0, 1) := by decide +kernel
theorem dX6_init_38 : decode cX6_init 38 = .ok (.iconst 2, 1) := by decide +kernel
theorem dX6_init_39 : decode cX6_init 39 = .ok (.newarray .boolean, 2) := by decide +kernel
theorem dX6_init_41 : decode cX6_init 41 = .ok (.putfield 22, 3) := by decide +kernel
theorem dX6_init_44 : decode cX6_init 44 = .ok (.aload_n 0, 1) := by decide +kernel
theorem dX6_init_45 : decode cX6_init 45 = .ok (.new 26, 3) := by decide +kernel
theorem dX6_init_48 : decode cX6_init 48 = .ok (.dup, 1) := by decide +kernel
theorem dX6_init_49 : decode cX6_init 49 = .ok (.invokespecial 28, 3) := by decide +kernel
theorem dX6_init_52 : decode cX6_init 52 = .ok (.putfield 29, 3) := by decide +kernel
theorem dX6_init_55 : decode cX6_init 55 = .ok (.aload_n 0, 1) := by decide +kernel
theorem dX6_init_56 : decode cX6_init 56 = .ok (.new 33, 3) := by decide +kernel
theorem dX6_init_59 : decode cX6_init 59 = .ok (.dup, 1) := by decide +kernel
theorem dX6_init_60 : decode cX6_init 60 = .ok (.invokespecial 35, 3) := by decide +kernel
theorem dX6_init_63 : decode cX6_init 63 = .ok (.putfield 36, 3) := by decide +kernel
theorem dX6_init_66 : decode cX6_init 66 = .ok (.aload_n 0, 1) := by decide +kernel
theorem dX6_init_67 : decode cX6_init 67 = .ok (.new 40, 3) := by decide +kernel
theorem dX6_init_70 : decode cX6_init 70 = .ok (.dup, 1) := by decide +kernel
theorem dX6_init_71 : decode cX6_init 71 = .ok (.invokespecial 42, 3) := by decide +kernel
theorem dX6_init_74 : decode cX6_init 74 = .ok (.putfield 43, 3) := by decide +kernel
theorem dX6_init_77 : decode cX6_init 77 = .ok (.aload_n 0, 1) := by decide +kernel
theorem dX6_init_78 : decode cX6_init 78 = .ok (.new 47, 3) := by decide +kernel
theorem dX6_init_81 : decode cX6_init 81 = .ok (.dup, 1) := by decide +kernel
theorem dX6_init_82 : decode cX6_init 82 = .ok (.invokespecial 49, 3) := by decide +kernel
theorem dX6_init_85 : decode cX6_init 85 = .ok (.putfield 50, 3) := by decide +kernel
theorem dX6_init_88 : decode cX6_init 88 = .ok (.aload_n 0, 1) := by decide +kernel
theorem dX6_init_89 : decode cX6_init 89 = .ok (.new 54, 3) := by decide +kernel
theorem dX6_init_92 : decode cX6_init 92 = .ok (.dup, 1) := by decide +kernel
theorem dX6_init_93 : decode cX6_init 93 = .ok (.invokespecial 56, 3) := by decide +kernel
theorem dX6_init_96 : decode cX6_init 96 = .ok (.putfield 57, 3) := by decide +kernel
theorem dX6_init_99 : decode cX6_init 99 = .ok (.aload_n 0, 1) := by decide +kernel
theorem dX6_init_100 : decode cX6_init 100 = .ok (.bipush 100, 2) := by decide +kernel
theorem dX6_init_102 : decode cX6_init 102 = .ok (.newarray .int, 2) := by decide +kernel
theorem dX6_init_104 : decode cX6_init 104 = .ok (.putfield 61, 3) := by decide +kernel
theorem dX6_init_107 : decode cX6_init 107 = .ok (.aload_n 0, 1) := by decide +kernel
theorem dX6_init_108 : decode cX6_init 108 = .ok (.bipush 8, 2) := by decide +kernel
theorem dX6_init_110 : decode cX6_init 110 = .ok (.newarray .int, 2) := by decide +kernel
theorem dX6_init_112 : decode cX6_init 112 = .ok (.putfield 65, 3) := by decide +kernel
theorem dX6_init_115 : decode cX6_init 115 = .ok (.aload_n 0, 1) := by decide +kernel
theorem dX6_init_116 : decode cX6_init 116 = .ok (.iconst 0, 1) := by decide +kernel
theorem dX6_init_117 : decode cX6_init 117 = .ok (.putfield 68, 3) := by decide +kernel
theorem dX6_init_120 : decode cX6_init 120 = .ok (.return_, 1) := by decide +kernel
set_option maxRecDepth 20000 in
theorem ggX6_feed_X6_isIn : GoodIn wsX6_feed wsX6_isIn := goodIn_r _ [6] (by decide +kernel) (by decide +kernel)
set_option maxRecDepth 20000 in
theorem gX6_feed_X6_isIn : GoodIn wsX6_feed (va_wsS RX6 72 yX6_isIn wsX6_isIn) := goodIn_app (goodIn_of _ (by decide +kernel)) ggX6_feed_X6_isIn
set_option maxRecDepth 20000 in
theorem ggX6_feed_X2_add : GoodIn wsX6_feed wsX2_add := goodIn_r _ [11, 12, 13, 26, 27, 28, 29, 30, 31, 32, 33, 34] (by decide +kernel) (by decide +kernel)
set_option maxRecDepth 20000 in
theorem gX6_feed_X2_add : GoodIn wsX6_feed (wsV RX6 76 RX2 yX2_add wsX2_add) := goodIn_app (goodIn_of _ (by decide +kernel)) ggX6_feed_X2_add
theorem dX6_feed_0 : decode cX6_feed 0 = .ok (.iload_n 1, 1) := by decide +kernel
theorem dX6_feed_1 : decode cX6_feed 1 = .ok (.i2l, 1) := by decide +kernel
theorem dX6_feed_2 : decode cX6_feed 2 = .ok (.iconst 0, 1) := by decide +kernel
theorem dX6_feed_3 : decode cX6_feed 3 = .ok (.bipush 127, 2) := by decide +kernel
theorem dX6_feed_5 : decode cX6_feed 5 = .ok (.invokestatic 72, 3) := by decide +kernel
theorem dX6_feed_8 : decode cX6_feed 8 = .ok (.ifCond .ne 5, 3) := by decide +kernel
theorem dX6_feed_11 : decode cX6_feed 11 = .ok (.iconst (-1), 1) := by decide +kernel
theorem dX6_feed_12 : decode cX6_feed 12 = .ok (.ireturn, 1) := by decide +kernel
theorem dX6_feed_13 : decode cX6_feed 13 = .ok (.aload_n 0, 1) := by decide +kernel
theorem dX6_feed_14 : decode cX6_feed 14 = .ok (.getfield 29, 3) := by decide +kernel
theorem dX6_feed_17 : decode cX6_feed 17 = .ok (.iload_n 1, 1) := by decide +kernel
theorem dX6_feed_18 : decode cX6_feed 18 = .ok (.invokevirtual 76, 3) := by decide +kernel
theorem dX6_feed_21 : decode cX6_feed 21 = .ok (.ifCond .eq 13, 3) := by decide +kernel
theorem dX6_feed_24 : decode cX6_feed 24 = .ok (.aload_n 0, 1) := by decide +kernel
theorem dX6_feed_25 : decode cX6_feed 25 = .ok (.getfield 29, 3) := by decide +kernel
theorem dX6_feed_28 : decode cX6_feed 28 = .ok (.getfield 80, 3) := by decide +kernel
theorem dX6_feed_31 : decode cX6_feed 31 = .ok (.goto 5, 3) := by decide +kernel
theorem dX6_feed_34 : decode cX6_feed 34 = .ok (.bipush (-3), 2) := by decide +kernel
theorem dX6_feed_36 : decode cX6_feed 36 = .ok (.ireturn, 1) := by decide +kernel
set_option maxRecDepth 20000 in
theorem ggX6_end_X6_isIn : GoodIn wsX6_end wsX6_isIn := goodIn_r _ [6] (by decide +kernel) (by decide +kernel)
set_option maxRecDepth 20000 in
theorem gX6_end_X6_isIn : GoodIn wsX6_end (va_wsS RX6 72 yX6_isIn wsX6_isIn) := goodIn_app (goodIn_of _ (by decide +kernel)) ggX6_end_X6_isIn
theorem dX6_end_0 : decode cX6_end 0 = .ok (.iload_n 1, 1) := by decide +kernel
theorem dX6_end_1 : decode cX6_end 1 = .ok (.i2l, 1) := by decide +kernel
theorem dX6_end_2 : decode cX6_end 2 = .ok (.iconst 0, 1) := by decide +kernel
theorem dX6_end_3 : decode cX6_end 3 = .ok (.aload_n 0, 1) := by decide +kernel
theorem dX6_end_4 : decode cX6_end 4 = .ok (.getfield 29, 3) := by decide +kernel
theorem dX6_end_7 : decode cX6_end 7 = .ok (.getfield 80, 3) := by decide +kernel
theorem dX6_end_10 : decode cX6_end 10 = .ok (.invokestatic 72, 3) := by decide +kernel
theorem dX6_end_13 : decode cX6_end 13 = .ok (.ifCond .ne 5, 3) := by decide +kernel
theorem dX6_end_16 : decode cX6_end 16 = .ok (.iconst (-1), 1) := by decide +kernel
theorem dX6_end_17 : decode cX6_end 17 = .ok (.ireturn, 1) := by decide +kernel
theorem dX6_end_18 : decode cX6_end 18 = .ok (.aload_n 0, 1) := by decide +kernel
theorem dX6_end_19 : decode cX6_end 19 = .ok (.getfield 29, 3) := by decide +kernel
theorem dX6_end_22 : decode cX6_end 22 = .ok (.getfield 80, 3) := by decide +kernel
theorem dX6_end_25 : decode cX6_end 25 = .ok (.istore_n 2, 1) := by decide +kernel
theorem dX6_end_26 : decode cX6_end 26 = .ok (.aload_n 0, 1) := by decide +kernel
theorem dX6_end_27 : decode cX6_end 27 = .ok (.getfield 29, 3) := by decide +kernel
theorem dX6_end_30 : decode cX6_end 30 = .ok (.iload_n 1, 1) := by decide +kernel
theorem dX6_end_31 : decode cX6_end 31 = .ok (.putfield 80, 3) := by decide +kernel
theorem dX6_end_34 : decode cX6_end 34 = .ok (.iload_n 2, 1) := by decide +kernel
theorem dX6_end_35 : decode cX6_end 35 = .ok (.ireturn, 1) := by decide +kernel
set_option maxRecDepth 20000 in
theorem ggX6_text_X2_begins : GoodIn wsX6_text wsX2_begins := goodIn_r _ [13, 14, 15, 16, 17, 18, 19, 20, 21, 22, 23, 24, 25, 26, 27, 28, 29, 12, 30, 31, 32, 33, 34, 35, 36, 37, 38, 39, 40, 41, 42, 43, 44, 45, 46, 231, 232, 233, 234, 235, 236, 237, 238, 239, 244, 245, 246, 247, 248, 249, 250, 251, 252, 253, 254, 255, 256, 257, 258, 259, 260] (by decide +kernel) (by decide +kernel)
set_option maxRecDepth 20000 in
theorem gX6_text_X2_begins : GoodIn wsX6_text (wsV RX6 83 RX2 yX2_begins wsX2_begins) := goodIn_app (goodIn_of _ (by decide +kernel)) ggX6_text_X2_begins
set_option maxRecDepth 20000 in
theorem ggX6_text_X2_isAtEnd : GoodIn wsX6_text wsX2_isAtEnd := goodIn_r _ [50, 34, 231, 232, 233, 234, 235, 236, 237, 238, 239] (by decide +kernel) (by decide +kernel)
set_option maxRecDepth 20000 in
theorem gX6_text_X2_isAtEnd : GoodIn wsX6_text (wsV RX6 87 RX2 yX2_isAtEnd wsX2_isAtEnd) := goodIn_app (goodIn_of _ (by decide +kernel)) ggX6_text_X2_isAtEnd
set_option maxRecDepth 20000 in
theorem ggX6_text_X2_takesLine : GoodIn wsX6_text wsX2_takesLine := goodIn_r _ [54, 55, 56, 57, 12, 58, 34, 17, 33, 32, 59, 60, 61, 62, 63, 64, 65, 66, 67, 68, 69, 70, 71, 72, 73, 74, 75, 76, 77, 78, 79, 80, 81, 82, 83, 84, 85, 86, 87, 88, 89, 90, 91, 92, 93, 94, 95, 96, 97, 98, 99, 100, 101, 102, 103, 104, 105, 106, 107, 108, 109, 110, 111, 14, 112, 39, 40, 41, 42, 16, 27, 28, 29, 30, 31, 35, 36, 37, 38, 43, 44, 45, 46, 113, 114, 115, 116, 117, 118, 119, 120, 121, 122, 123, 124, 125, 126, 127, 128, 129, 130, 131, 132, 133, 134, 135, 136, 137, 21, 138, 23, 139, 140, 141, 142, 143, 144, 145, 146, 147, 148, 149, 150, 151, 152, 153, 154, 155, 25, 156, 157, 158, 159, 160, 161, 15, 162, 163, 164, 165, 166, 167, 168, 169, 170, 26, 171, 172, 173, 174, 175, 176, 177, 178, 179, 180, 181, 182, 183, 184, 185, 24, 186, 187, 231, 232, 233, 234, 235, 236, 237, 238, 239, 244, 245, 246, 247, 248, 249, 250, 251, 252, 253, 254, 255, 256, 257, 258, 259, 260] (by decide +kernel) (by decide +kernel)
set_option maxRecDepth 20000 in
theorem gX6_text_X2_takesLine : GoodIn wsX6_text (wsV RX6 90 RX2 yX2_takesLine wsX2_takesLine) := goodIn_app (goodIn_of _ (by decide +kernel)) ggX6_text_X2_takesLine
set_option maxRecDepth 20000 in
theorem ggX6_text_X2_docketStands : GoodIn wsX6_text wsX2_docketStands := goodIn_r _ [191, 14, 162, 192, 193, 194, 195, 196, 21, 197, 23, 132, 133, 134, 198, 199, 200, 201, 24, 39, 40, 41, 12, 42, 16, 231, 232, 233, 234, 235, 236, 237, 238, 239, 244, 245, 246, 247, 248, 249, 250, 251, 252, 253, 254, 255, 256, 257, 258, 259, 260] (by decide +kernel) (by decide +kernel)
set_option maxRecDepth 20000 in
theorem gX6_text_X2_docketStands : GoodIn wsX6_text (wsV RX6 93 RX2 yX2_docketStands wsX2_docketStands) := goodIn_app (goodIn_of _ (by decide +kernel)) ggX6_text_X2_docketStands
set_option maxRecDepth 20000 in
theorem ggX6_text_X0_becomes : GoodIn wsX6_text wsX0_becomes := goodIn_r _ [205, 23, 24, 25, 26, 206, 207, 208, 139, 140, 141, 142, 186, 187, 156, 157, 171, 172, 209, 133, 210, 211, 212, 213, 214, 215, 216, 217, 218, 244, 245, 246, 247, 248, 249, 250, 251, 252, 253, 254, 255, 256, 257, 258, 259, 260] (by decide +kernel) (by decide +kernel)
set_option maxRecDepth 20000 in
theorem gX6_text_X0_becomes : GoodIn wsX6_text (wsV RX6 102 RX0 yX0_becomes wsX0_becomes) := goodIn_app (goodIn_of _ (by decide +kernel)) ggX6_text_X0_becomes
theorem dX6_text_0 : decode cX6_text 0 = .ok (.iconst 0, 1) := by decide +kernel
theorem dX6_text_1 : decode cX6_text 1 = .ok (.istore_n 1, 1) := by decide +kernel
theorem dX6_text_2 : decode cX6_text 2 = .ok (.aload_n 0, 1) := by decide +kernel
theorem dX6_text_3 : decode cX6_text 3 = .ok (.getfield 29, 3) := by decide +kernel
theorem dX6_text_6 : decode cX6_text 6 = .ok (.invokevirtual 83, 3) := by decide +kernel
theorem dX6_text_9 : decode cX6_text 9 = .ok (.istore_n 2, 1) := by decide +kernel
theorem dX6_text_10 : decode cX6_text 10 = .ok (.iload_n 2, 1) := by decide +kernel
theorem dX6_text_11 : decode cX6_text 11 = .ok (.ifCond .eq 34, 3) := by decide +kernel
theorem dX6_text_14 : decode cX6_text 14 = .ok (.iload_n 1, 1) := by decide +kernel
theorem dX6_text_15 : decode cX6_text 15 = .ok (.sipush 160, 3) := by decide +kernel
theorem dX6_text_18 : decode cX6_text 18 = .ok (.if_icmp .ge 27, 3) := by decide +kernel
theorem dX6_text_21 : decode cX6_text 21 = .ok (.aload_n 0, 1) := by decide +kernel
theorem dX6_text_22 : decode cX6_text 22 = .ok (.getfield 29, 3) := by decide +kernel
theorem dX6_text_25 : decode cX6_text 25 = .ok (.invokevirtual 87, 3) := by decide +kernel
theorem dX6_text_28 : decode cX6_text 28 = .ok (.ifCond .ne 17, 3) := by decide +kernel
theorem dX6_text_31 : decode cX6_text 31 = .ok (.aload_n 0, 1) := by decide +kernel
theorem dX6_text_32 : decode cX6_text 32 = .ok (.getfield 29, 3) := by decide +kernel
theorem dX6_text_35 : decode cX6_text 35 = .ok (.invokevirtual 90, 3) := by decide +kernel
theorem dX6_text_38 : decode cX6_text 38 = .ok (.istore_n 2, 1) := by decide +kernel
theorem dX6_text_39 : decode cX6_text 39 = .ok (.iinc 1 1, 3) := by decide +kernel
theorem dX6_text_42 : decode cX6_text 42 = .ok (.goto (-32), 3) := by decide +kernel
theorem dX6_text_45 : decode cX6_text 45 = .ok (.iload_n 2, 1) := by decide +kernel
theorem dX6_text_46 : decode cX6_text 46 = .ok (.ifCond .eq 17, 3) := by decide +kernel
theorem dX6_text_49 : decode cX6_text 49 = .ok (.aload_n 0, 1) := by decide +kernel
theorem dX6_text_50 : decode cX6_text 50 = .ok (.getfield 29, 3) := by decide +kernel
theorem dX6_text_53 : decode cX6_text 53 = .ok (.invokevirtual 93, 3) := by decide +kernel
theorem dX6_text_56 : decode cX6_text 56 = .ok (.ifCond .eq 7, 3) := by decide +kernel
theorem dX6_text_59 : decode cX6_text 59 = .ok (.iconst 1, 1) := by decide +kernel
theorem dX6_text_60 : decode cX6_text 60 = .ok (.goto 4, 3) := by decide +kernel
theorem dX6_text_63 : decode cX6_text 63 = .ok (.iconst 0, 1) := by decide +kernel
theorem dX6_text_64 : decode cX6_text 64 = .ok (.istore_n 2, 1) := by decide +kernel
theorem dX6_text_65 : decode cX6_text 65 = .ok (.aload_n 0, 1) := by decide +kernel
theorem dX6_text_66 : decode cX6_text 66 = .ok (.getfield 29, 3) := by decide +kernel
theorem dX6_text_69 : decode cX6_text 69 = .ok (.iconst 0, 1) := by decide +kernel
theorem dX6_text_70 : decode cX6_text 70 = .ok (.putfield 80, 3) := by decide +kernel
theorem dX6_text_73 : decode cX6_text 73 = .ok (.iload_n 2, 1) := by decide +kernel
theorem dX6_text_74 : decode cX6_text 74 = .ok (.ifCond .ne 14, 3) := by decide +kernel
theorem dX6_text_77 : decode cX6_text 77 = .ok (.bipush (-10), 2) := by decide +kernel
theorem dX6_text_79 : decode cX6_text 79 = .ok (.aload_n 0, 1) := by decide +kernel
theorem dX6_text_80 : decode cX6_text 80 = .ok (.getfield 29, 3) := by decide +kernel
theorem dX6_text_83 : decode cX6_text 83 = .ok (.getfield 96, 3) := by decide +kernel
theorem dX6_text_86 : decode cX6_text 86 = .ok (.isub, 1) := by decide +kernel
theorem dX6_text_87 : decode cX6_text 87 = .ok (.ireturn, 1) := by decide +kernel
theorem dX6_text_88 : decode cX6_text 88 = .ok (.aload_n 0, 1) := by decide +kernel
theorem dX6_text_89 : decode cX6_text 89 = .ok (.getfield 12, 3) := by decide +kernel
theorem dX6_text_92 : decode cX6_text 92 = .ok (.aload_n 0, 1) := by decide +kernel
theorem dX6_text_93 : decode cX6_text 93 = .ok (.getfield 29, 3) := by decide +kernel
theorem dX6_text_96 : decode cX6_text 96 = .ok (.getfield 99, 3) := by decide +kernel
theorem dX6_text_99 : decode cX6_text 99 = .ok (.invokevirtual 102, 3) := by decide +kernel
theorem dX6_text_102 : decode cX6_text 102 = .ok (.aload_n 0, 1) := by decide +kernel
theorem dX6_text_103 : decode cX6_text 103 = .ok (.getfield 50, 3) := by decide +kernel
theorem dX6_text_106 : decode cX6_text 106 = .ok (.iconst 0, 1) := by decide +kernel
theorem dX6_text_107 : decode cX6_text 107 = .ok (.putfield 106, 3) := by decide +kernel
theorem dX6_text_110 : decode cX6_text 110 = .ok (.aload_n 0, 1) := by decide +kernel
theorem dX6_text_111 : decode cX6_text 111 = .ok (.getfield 22, 3) := by decide +kernel
theorem dX6_text_114 : decode cX6_text 114 = .ok (.iconst 0, 1) := by decide +kernel
theorem dX6_text_115 : decode cX6_text 115 = .ok (.iconst 0, 1) := by decide +kernel
theorem dX6_text_116 : decode cX6_text 116 = .ok (.bastore, 1) := by decide +kernel
theorem dX6_text_117 : decode cX6_text 117 = .ok (.aload_n 0, 1) := by decide +kernel
theorem dX6_text_118 : decode cX6_text 118 = .ok (.getfield 22, 3) := by decide +kernel
theorem dX6_text_121 : decode cX6_text 121 = .ok (.iconst 1, 1) := by decide +kernel
theorem dX6_text_122 : decode cX6_text 122 = .ok (.iconst 0, 1) := by decide +kernel
theorem dX6_text_123 : decode cX6_text 123 = .ok (.bastore, 1) := by decide +kernel
theorem dX6_text_124 : decode cX6_text 124 = .ok (.iload_n 1, 1) := by decide +kernel
theorem dX6_text_125 : decode cX6_text 125 = .ok (.ireturn, 1) := by decide +kernel
theorem dX6_fault_0 : decode cX6_fault 0 = .ok (.aload_n 0, 1) := by decide +kernel
theorem dX6_fault_1 : decode cX6_fault 1 = .ok (.getfield 29, 3) := by decide +kernel
theorem dX6_fault_4 : decode cX6_fault 4 = .ok (.getfield 107, 3) := by decide +kernel
theorem dX6_fault_7 : decode cX6_fault 7 = .ok (.ireturn, 1) := by decide +kernel
set_option maxRecDepth 20000 in
theorem ggX6_rule_X6_bitsOf : GoodIn wsX6_rule wsX6_bitsOf := goodIn_r _ [11] (by decide +kernel) (by decide +kernel)
set_option maxRecDepth 20000 in
theorem gX6_rule_X6_bitsOf : GoodIn wsX6_rule (va_wsS RX6 125 yX6_bitsOf wsX6_bitsOf) := goodIn_app (goodIn_of _ (by decide +kernel)) ggX6_rule_X6_bitsOf
set_option maxRecDepth 20000 in
theorem ggX6_rule_X0_sumOf : GoodIn wsX6_rule wsX0_sumOf := goodIn_r _ [16, 17, 30, 31, 32, 33, 34, 35, 36, 37, 38, 39, 40, 41, 42, 43, 44, 45, 46] (by decide +kernel) (by decide +kernel)
set_option maxRecDepth 20000 in
theorem gX6_rule_X0_sumOf : GoodIn wsX6_rule (wsV RX6 132 RX0 yX0_sumOf wsX0_sumOf) := goodIn_app (goodIn_of _ (by decide +kernel)) ggX6_rule_X0_sumOf
theorem dX6_rule_0 : decode cX6_rule 0 = .ok (.iload_n 1, 1) := by decide +kernel
theorem dX6_rule_1 : decode cX6_rule 1 = .ok (.tableswitch 151 0 7 #[47, 55, 63, 71, 79, 98, 117, 136], 47) := by decide +kernel
theorem dX6_rule_48 : decode cX6_rule 48 = .ok (.aload_n 0, 1) := by decide +kernel
theorem dX6_rule_49 : decode cX6_rule 49 = .ok (.getfield 12, 3) := by decide +kernel
theorem dX6_rule_52 : decode cX6_rule 52 = .ok (.getfield 110, 3) := by decide +kernel
theorem dX6_rule_55 : decode cX6_rule 55 = .ok (.ireturn, 1) := by decide +kernel
theorem dX6_rule_56 : decode cX6_rule 56 = .ok (.aload_n 0, 1) := by decide +kernel
theorem dX6_rule_57 : decode cX6_rule 57 = .ok (.getfield 12, 3) := by decide +kernel
theorem dX6_rule_60 : decode cX6_rule 60 = .ok (.getfield 113, 3) := by decide +kernel
theorem dX6_rule_63 : decode cX6_rule 63 = .ok (.ireturn, 1) := by decide +kernel
theorem dX6_rule_64 : decode cX6_rule 64 = .ok (.aload_n 0, 1) := by decide +kernel
theorem dX6_rule_65 : decode cX6_rule 65 = .ok (.getfield 12, 3) := by decide +kernel
theorem dX6_rule_68 : decode cX6_rule 68 = .ok (.getfield 116, 3) := by decide +kernel
theorem dX6_rule_71 : decode cX6_rule 71 = .ok (.ireturn, 1) := by decide +kernel
theorem dX6_rule_72 : decode cX6_rule 72 = .ok (.aload_n 0, 1) := by decide +kernel
theorem dX6_rule_73 : decode cX6_rule 73 = .ok (.getfield 12, 3) := by decide +kernel
theorem dX6_rule_76 : decode cX6_rule 76 = .ok (.getfield 119, 3) := by decide +kernel
theorem dX6_rule_79 : decode cX6_rule 79 = .ok (.ireturn, 1) := by decide +kernel
theorem dX6_rule_80 : decode cX6_rule 80 = .ok (.aload_n 0, 1) := by decide +kernel
theorem dX6_rule_81 : decode cX6_rule 81 = .ok (.getfield 12, 3) := by decide +kernel
theorem dX6_rule_84 : decode cX6_rule 84 = .ok (.getfield 122, 3) := by decide +kernel
theorem dX6_rule_87 : decode cX6_rule 87 = .ok (.aload_n 0, 1) := by decide +kernel
theorem dX6_rule_88 : decode cX6_rule 88 = .ok (.getfield 12, 3) := by decide +kernel
theorem dX6_rule_91 : decode cX6_rule 91 = .ok (.getfield 110, 3) := by decide +kernel
theorem dX6_rule_94 : decode cX6_rule 94 = .ok (.iconst 1, 1) := by decide +kernel
theorem dX6_rule_95 : decode cX6_rule 95 = .ok (.invokestatic 125, 3) := by decide +kernel
theorem dX6_rule_98 : decode cX6_rule 98 = .ok (.ireturn, 1) := by decide +kernel
theorem dX6_rule_99 : decode cX6_rule 99 = .ok (.aload_n 0, 1) := by decide +kernel
theorem dX6_rule_100 : decode cX6_rule 100 = .ok (.getfield 12, 3) := by decide +kernel
theorem dX6_rule_103 : decode cX6_rule 103 = .ok (.getfield 122, 3) := by decide +kernel
theorem dX6_rule_106 : decode cX6_rule 106 = .ok (.aload_n 0, 1) := by decide +kernel
theorem dX6_rule_107 : decode cX6_rule 107 = .ok (.getfield 12, 3) := by decide +kernel
theorem dX6_rule_110 : decode cX6_rule 110 = .ok (.getfield 110, 3) := by decide +kernel
theorem dX6_rule_113 : decode cX6_rule 113 = .ok (.iconst 2, 1) := by decide +kernel
theorem dX6_rule_114 : decode cX6_rule 114 = .ok (.invokestatic 125, 3) := by decide +kernel
theorem dX6_rule_117 : decode cX6_rule 117 = .ok (.ireturn, 1) := by decide +kernel
theorem dX6_rule_118 : decode cX6_rule 118 = .ok (.aload_n 0, 1) := by decide +kernel
theorem dX6_rule_119 : decode cX6_rule 119 = .ok (.getfield 12, 3) := by decide +kernel
theorem dX6_rule_122 : decode cX6_rule 122 = .ok (.getfield 122, 3) := by decide +kernel
theorem dX6_rule_125 : decode cX6_rule 125 = .ok (.aload_n 0, 1) := by decide +kernel
theorem dX6_rule_126 : decode cX6_rule 126 = .ok (.getfield 12, 3) := by decide +kernel
theorem dX6_rule_129 : decode cX6_rule 129 = .ok (.getfield 110, 3) := by decide +kernel
theorem dX6_rule_132 : decode cX6_rule 132 = .ok (.iconst 3, 1) := by decide +kernel
theorem dX6_rule_133 : decode cX6_rule 133 = .ok (.invokestatic 125, 3) := by decide +kernel
theorem dX6_rule_136 : decode cX6_rule 136 = .ok (.ireturn, 1) := by decide +kernel
theorem dX6_rule_137 : decode cX6_rule 137 = .ok (.aload_n 0, 1) := by decide +kernel
theorem dX6_rule_138 : decode cX6_rule 138 = .ok (.getfield 12, 3) := by decide +kernel
theorem dX6_rule_141 : decode cX6_rule 141 = .ok (.aload_n 0, 1) := by decide +kernel
theorem dX6_rule_142 : decode cX6_rule 142 = .ok (.getfield 12, 3) := by decide +kernel
theorem dX6_rule_145 : decode cX6_rule 145 = .ok (.getfield 129, 3) := by decide +kernel
theorem dX6_rule_148 : decode cX6_rule 148 = .ok (.invokevirtual 132, 3) := by decide +kernel
theorem dX6_rule_151 : decode cX6_rule 151 = .ok (.ireturn, 1) := by decide +kernel
theorem dX6_rule_152 : decode cX6_rule 152 = .ok (.iconst (-1), 1) := by decide +kernel
theorem dX6_rule_153 : decode cX6_rule 153 = .ok (.ireturn, 1) := by decide +kernel
set_option maxRecDepth 20000 in
theorem ggX6_flame_X6_isFlame : GoodIn wsX6_flame wsX6_isFlame := goodIn_r _ [10, 1, 11, 12, 13, 14, 15, 16, 17, 9, 18, 19, 20, 21, 22, 23, 24, 25, 26, 27, 28, 29, 30, 31, 32, 33, 34, 35, 36, 37, 38, 39, 40, 41, 42, 43, 44, 45, 46, 47, 48, 49, 50, 51] (by decide +kernel) (by decide +kernel)
set_option maxRecDepth 20000 in
theorem gX6_flame_X6_isFlame : GoodIn wsX6_flame (wsV RX6 136 RX6 yX6_isFlame wsX6_isFlame) := goodIn_app (goodIn_of _ (by decide +kernel)) ggX6_flame_X6_isFlame
theorem dX6_flame_0 : decode cX6_flame 0 = .ok (.aload_n 0, 1) := by decide +kernel
theorem dX6_flame_1 : decode cX6_flame 1 = .ok (.iload_n 1, 1) := by decide +kernel
theorem dX6_flame_2 : decode cX6_flame 2 = .ok (.iload_n 2, 1) := by decide +kernel
theorem dX6_flame_3 : decode cX6_flame 3 = .ok (.invokevirtual 136, 3) := by decide +kernel
theorem dX6_flame_6 : decode cX6_flame 6 = .ok (.ifCond .ne 5, 3) := by decide +kernel
theorem dX6_flame_9 : decode cX6_flame 9 = .ok (.iconst (-1), 1) := by decide +kernel
theorem dX6_flame_10 : decode cX6_flame 10 = .ok (.ireturn, 1) := by decide +kernel
theorem dX6_flame_11 : decode cX6_flame 11 = .ok (.iconst 2, 1) := by decide +kernel
theorem dX6_flame_12 : decode cX6_flame 12 = .ok (.iload_n 1, 1) := by decide +kernel
theorem dX6_flame_13 : decode cX6_flame 13 = .ok (.imul, 1) := by decide +kernel
theorem dX6_flame_14 : decode cX6_flame 14 = .ok (.iload_n 2, 1) := by decide +kernel
theorem dX6_flame_15 : decode cX6_flame 15 = .ok (.iadd, 1) := by decide +kernel
theorem dX6_flame_16 : decode cX6_flame 16 = .ok (.istore 4, 2) := by decide +kernel
theorem dX6_flame_18 : decode cX6_flame 18 = .ok (.iload_n 3, 1) := by decide +kernel
theorem dX6_flame_19 : decode cX6_flame 19 = .ok (.tableswitch 77 0 3 #[29, 40, 51, 62], 29) := by decide +kernel
theorem dX6_flame_48 : decode cX6_flame 48 = .ok (.aload_n 0, 1) := by decide +kernel
theorem dX6_flame_49 : decode cX6_flame 49 = .ok (.getfield 12, 3) := by decide +kernel
theorem dX6_flame_52 : decode cX6_flame 52 = .ok (.getfield 140, 3) := by decide +kernel
theorem dX6_flame_55 : decode cX6_flame 55 = .ok (.iload 4, 2) := by decide +kernel
theorem dX6_flame_57 : decode cX6_flame 57 = .ok (.iaload, 1) := by decide +kernel
theorem dX6_flame_58 : decode cX6_flame 58 = .ok (.ireturn, 1) := by decide +kernel
theorem dX6_flame_59 : decode cX6_flame 59 = .ok (.aload_n 0, 1) := by decide +kernel
theorem dX6_flame_60 : decode cX6_flame 60 = .ok (.getfield 12, 3) := by decide +kernel
theorem dX6_flame_63 : decode cX6_flame 63 = .ok (.getfield 129, 3) := by decide +kernel
theorem dX6_flame_66 : decode cX6_flame 66 = .ok (.iload 4, 2) := by decide +kernel
theorem dX6_flame_68 : decode cX6_flame 68 = .ok (.iaload, 1) := by decide +kernel
theorem dX6_flame_69 : decode cX6_flame 69 = .ok (.ireturn, 1) := by decide +kernel
theorem dX6_flame_70 : decode cX6_flame 70 = .ok (.aload_n 0, 1) := by decide +kernel
theorem dX6_flame_71 : decode cX6_flame 71 = .ok (.getfield 12, 3) := by decide +kernel
theorem dX6_flame_74 : decode cX6_flame 74 = .ok (.getfield 143, 3) := by decide +kernel
theorem dX6_flame_77 : decode cX6_flame 77 = .ok (.iload 4, 2) := by decide +kernel
theorem dX6_flame_79 : decode cX6_flame 79 = .ok (.iaload, 1) := by decide +kernel
theorem dX6_flame_80 : decode cX6_flame 80 = .ok (.ireturn, 1) := by decide +kernel
theorem dX6_flame_81 : decode cX6_flame 81 = .ok (.getstatic 146, 3) := by decide +kernel
theorem dX6_flame_84 : decode cX6_flame 84 = .ok (.aload_n 0, 1) := by decide +kernel
theorem dX6_flame_85 : decode cX6_flame 85 = .ok (.getfield 12, 3) := by decide +kernel
theorem dX6_flame_88 : decode cX6_flame 88 = .ok (.getfield 140, 3) := by decide +kernel
theorem dX6_flame_91 : decode cX6_flame 91 = .ok (.iload 4, 2) := by decide +kernel
theorem dX6_flame_93 : decode cX6_flame 93 = .ok (.iaload, 1) := by decide +kernel
theorem dX6_flame_94 : decode cX6_flame 94 = .ok (.iaload, 1) := by decide +kernel
theorem dX6_flame_95 : decode cX6_flame 95 = .ok (.ireturn, 1) := by decide +kernel
theorem dX6_flame_96 : decode cX6_flame 96 = .ok (.iconst (-1), 1) := by decide +kernel
theorem dX6_flame_97 : decode cX6_flame 97 = .ok (.ireturn, 1) := by decide +kernel
set_option maxRecDepth 20000 in
theorem ggX6_suit_X0_hasCase : GoodIn wsX6_suit wsX0_hasCase := goodIn_r _ [10, 11, 12, 13, 14, 27, 28, 29, 30, 31, 32, 33, 34, 35, 36, 37, 38, 39, 40, 41, 42, 43] (by decide +kernel) (by decide +kernel)
set_option maxRecDepth 20000 in
theorem gX6_suit_X0_hasCase : GoodIn wsX6_suit (wsV RX6 149 RX0 yX0_hasCase wsX0_hasCase) := goodIn_app (goodIn_of _ (by decide +kernel)) ggX6_suit_X0_hasCase
theorem dX6_suit_0 : decode cX6_suit 0 = .ok (.aload_n 0, 1) := by decide +kernel
theorem dX6_suit_1 : decode cX6_suit 1 = .ok (.getfield 12, 3) := by decide +kernel
theorem dX6_suit_4 : decode cX6_suit 4 = .ok (.iload_n 1, 1) := by decide +kernel
theorem dX6_suit_5 : decode cX6_suit 5 = .ok (.i2l, 1) := by decide +kernel
theorem dX6_suit_6 : decode cX6_suit 6 = .ok (.invokevirtual 149, 3) := by decide +kernel
theorem dX6_suit_9 : decode cX6_suit 9 = .ok (.ifCond .ne 5, 3) := by decide +kernel
theorem dX6_suit_12 : decode cX6_suit 12 = .ok (.iconst (-1), 1) := by decide +kernel
theorem dX6_suit_13 : decode cX6_suit 13 = .ok (.ireturn, 1) := by decide +kernel
theorem dX6_suit_14 : decode cX6_suit 14 = .ok (.iload_n 2, 1) := by decide +kernel
theorem dX6_suit_15 : decode cX6_suit 15 = .ok (.tableswitch 69 0 3 #[29, 39, 49, 59], 29) := by decide +kernel
theorem dX6_suit_44 : decode cX6_suit 44 = .ok (.aload_n 0, 1) := by decide +kernel
theorem dX6_suit_45 : decode cX6_suit 45 = .ok (.getfield 12, 3) := by decide +kernel
theorem dX6_suit_48 : decode cX6_suit 48 = .ok (.getfield 122, 3) := by decide +kernel
theorem dX6_suit_51 : decode cX6_suit 51 = .ok (.iload_n 1, 1) := by decide +kernel
theorem dX6_suit_52 : decode cX6_suit 52 = .ok (.iaload, 1) := by decide +kernel
theorem dX6_suit_53 : decode cX6_suit 53 = .ok (.ireturn, 1) := by decide +kernel
theorem dX6_suit_54 : decode cX6_suit 54 = .ok (.aload_n 0, 1) := by decide +kernel
theorem dX6_suit_55 : decode cX6_suit 55 = .ok (.getfield 12, 3) := by decide +kernel
theorem dX6_suit_58 : decode cX6_suit 58 = .ok (.getfield 153, 3) := by decide +kernel
theorem dX6_suit_61 : decode cX6_suit 61 = .ok (.iload_n 1, 1) := by decide +kernel
theorem dX6_suit_62 : decode cX6_suit 62 = .ok (.iaload, 1) := by decide +kernel
theorem dX6_suit_63 : decode cX6_suit 63 = .ok (.ireturn, 1) := by decide +kernel
theorem dX6_suit_64 : decode cX6_suit 64 = .ok (.aload_n 0, 1) := by decide +kernel
theorem dX6_suit_65 : decode cX6_suit 65 = .ok (.getfield 12, 3) := by decide +kernel
theorem dX6_suit_68 : decode cX6_suit 68 = .ok (.getfield 156, 3) := by decide +kernel
theorem dX6_suit_71 : decode cX6_suit 71 = .ok (.iload_n 1, 1) := by decide +kernel
theorem dX6_suit_72 : decode cX6_suit 72 = .ok (.iaload, 1) := by decide +kernel
theorem dX6_suit_73 : decode cX6_suit 73 = .ok (.ireturn, 1) := by decide +kernel
theorem dX6_suit_74 : decode cX6_suit 74 = .ok (.aload_n 0, 1) := by decide +kernel
theorem dX6_suit_75 : decode cX6_suit 75 = .ok (.getfield 12, 3) := by decide +kernel
theorem dX6_suit_78 : decode cX6_suit 78 = .ok (.getfield 159, 3) := by decide +kernel
theorem dX6_suit_81 : decode cX6_suit 81 = .ok (.iload_n 1, 1) := by decide +kernel
theorem dX6_suit_82 : decode cX6_suit 82 = .ok (.iaload, 1) := by decide +kernel
theorem dX6_suit_83 : decode cX6_suit 83 = .ok (.ireturn, 1) := by decide +kernel
theorem dX6_suit_84 : decode cX6_suit 84 = .ok (.iconst (-1), 1) := by decide +kernel
theorem dX6_suit_85 : decode cX6_suit 85 = .ok (.ireturn, 1) := by decide +kernel
set_option maxRecDepth 20000 in
theorem ggX6_judge_X0_hasJudge : GoodIn wsX6_judge wsX0_hasJudge := goodIn_r _ [8, 9, 10, 11, 12, 26, 27, 28, 29, 30, 31, 32, 33, 34, 35, 36, 37, 38, 39, 40, 41, 42] (by decide +kernel) (by decide +kernel)
set_option maxRecDepth 20000 in
theorem gX6_judge_X0_hasJudge : GoodIn wsX6_judge (wsV RX6 162 RX0 yX0_hasJudge wsX0_hasJudge) := goodIn_app (goodIn_of _ (by decide +kernel)) ggX6_judge_X0_hasJudge
set_option maxRecDepth 20000 in
theorem ggX6_judge_X6_isIn : GoodIn wsX6_judge wsX6_isIn := goodIn_r _ [12] (by decide +kernel) (by decide +kernel)
set_option maxRecDepth 20000 in
theorem gX6_judge_X6_isIn : GoodIn wsX6_judge (va_wsS RX6 72 yX6_isIn wsX6_isIn) := goodIn_app (goodIn_of _ (by decide +kernel)) ggX6_judge_X6_isIn
theorem dX6_judge_0 : decode cX6_judge 0 = .ok (.aload_n 0, 1) := by decide +kernel
theorem dX6_judge_1 : decode cX6_judge 1 = .ok (.getfield 12, 3) := by decide +kernel
theorem dX6_judge_4 : decode cX6_judge 4 = .ok (.iload_n 1, 1) := by decide +kernel
theorem dX6_judge_5 : decode cX6_judge 5 = .ok (.invokevirtual 162, 3) := by decide +kernel
theorem dX6_judge_8 : decode cX6_judge 8 = .ok (.ifCond .eq 13, 3) := by decide +kernel
theorem dX6_judge_11 : decode cX6_judge 11 = .ok (.iload_n 2, 1) := by decide +kernel
theorem dX6_judge_12 : decode cX6_judge 12 = .ok (.i2l, 1) := by decide +kernel
theorem dX6_judge_13 : decode cX6_judge 13 = .ok (.iconst 0, 1) := by decide +kernel
theorem dX6_judge_14 : decode cX6_judge 14 = .ok (.iconst 1, 1) := by decide +kernel
theorem dX6_judge_15 : decode cX6_judge 15 = .ok (.invokestatic 72, 3) := by decide +kernel
theorem dX6_judge_18 : decode cX6_judge 18 = .ok (.ifCond .ne 5, 3) := by decide +kernel
theorem dX6_judge_21 : decode cX6_judge 21 = .ok (.iconst (-1), 1) := by decide +kernel
theorem dX6_judge_22 : decode cX6_judge 22 = .ok (.ireturn, 1) := by decide +kernel
theorem dX6_judge_23 : decode cX6_judge 23 = .ok (.iload_n 2, 1) := by decide +kernel
theorem dX6_judge_24 : decode cX6_judge 24 = .ok (.ifCond .ne 15, 3) := by decide +kernel
theorem dX6_judge_27 : decode cX6_judge 27 = .ok (.aload_n 0, 1) := by decide +kernel
theorem dX6_judge_28 : decode cX6_judge 28 = .ok (.getfield 12, 3) := by decide +kernel
theorem dX6_judge_31 : decode cX6_judge 31 = .ok (.getfield 165, 3) := by decide +kernel
theorem dX6_judge_34 : decode cX6_judge 34 = .ok (.iload_n 1, 1) := by decide +kernel
theorem dX6_judge_35 : decode cX6_judge 35 = .ok (.iaload, 1) := by decide +kernel
theorem dX6_judge_36 : decode cX6_judge 36 = .ok (.goto 12, 3) := by decide +kernel
theorem dX6_judge_39 : decode cX6_judge 39 = .ok (.aload_n 0, 1) := by decide +kernel
theorem dX6_judge_40 : decode cX6_judge 40 = .ok (.getfield 12, 3) := by decide +kernel
theorem dX6_judge_43 : decode cX6_judge 43 = .ok (.getfield 168, 3) := by decide +kernel
theorem dX6_judge_46 : decode cX6_judge 46 = .ok (.iload_n 1, 1) := by decide +kernel
theorem dX6_judge_47 : decode cX6_judge 47 = .ok (.iaload, 1) := by decide +kernel
theorem dX6_judge_48 : decode cX6_judge 48 = .ok (.ireturn, 1) := by decide +kernel
set_option maxRecDepth 20000 in
theorem ggX6_draught_X6_isIn : GoodIn wsX6_draught wsX6_isIn := goodIn_r _ [8] (by decide +kernel) (by decide +kernel)
set_option maxRecDepth 20000 in
theorem gX6_draught_X6_isIn : GoodIn wsX6_draught (va_wsS RX6 72 yX6_isIn wsX6_isIn) := goodIn_app (goodIn_of _ (by decide +kernel)) ggX6_draught_X6_isIn
theorem dX6_draught_0 : decode cX6_draught 0 = .ok (.iload_n 1, 1) := by decide +kernel
theorem dX6_draught_1 : decode cX6_draught 1 = .ok (.i2l, 1) := by decide +kernel
theorem dX6_draught_2 : decode cX6_draught 2 = .ok (.iconst 0, 1) := by decide +kernel
theorem dX6_draught_3 : decode cX6_draught 3 = .ok (.aload_n 0, 1) := by decide +kernel
theorem dX6_draught_4 : decode cX6_draught 4 = .ok (.getfield 12, 3) := by decide +kernel
theorem dX6_draught_7 : decode cX6_draught 7 = .ok (.getfield 116, 3) := by decide +kernel
theorem dX6_draught_10 : decode cX6_draught 10 = .ok (.iconst 1, 1) := by decide +kernel
theorem dX6_draught_11 : decode cX6_draught 11 = .ok (.isub, 1) := by decide +kernel
theorem dX6_draught_12 : decode cX6_draught 12 = .ok (.invokestatic 72, 3) := by decide +kernel
theorem dX6_draught_15 : decode cX6_draught 15 = .ok (.ifCond .eq 13, 3) := by decide +kernel
theorem dX6_draught_18 : decode cX6_draught 18 = .ok (.iload_n 2, 1) := by decide +kernel
theorem dX6_draught_19 : decode cX6_draught 19 = .ok (.i2l, 1) := by decide +kernel
theorem dX6_draught_20 : decode cX6_draught 20 = .ok (.iconst 0, 1) := by decide +kernel
theorem dX6_draught_21 : decode cX6_draught 21 = .ok (.iconst 1, 1) := by decide +kernel
theorem dX6_draught_22 : decode cX6_draught 22 = .ok (.invokestatic 72, 3) := by decide +kernel
theorem dX6_draught_25 : decode cX6_draught 25 = .ok (.ifCond .ne 5, 3) := by decide +kernel
theorem dX6_draught_28 : decode cX6_draught 28 = .ok (.iconst (-1), 1) := by decide +kernel
theorem dX6_draught_29 : decode cX6_draught 29 = .ok (.ireturn, 1) := by decide +kernel
theorem dX6_draught_30 : decode cX6_draught 30 = .ok (.iload_n 2, 1) := by decide +kernel
theorem dX6_draught_31 : decode cX6_draught 31 = .ok (.ifCond .ne 15, 3) := by decide +kernel
theorem dX6_draught_34 : decode cX6_draught 34 = .ok (.aload_n 0, 1) := by decide +kernel
theorem dX6_draught_35 : decode cX6_draught 35 = .ok (.getfield 12, 3) := by decide +kernel
theorem dX6_draught_38 : decode cX6_draught 38 = .ok (.getfield 171, 3) := by decide +kernel
theorem dX6_draught_41 : decode cX6_draught 41 = .ok (.iload_n 1, 1) := by decide +kernel
theorem dX6_draught_42 : decode cX6_draught 42 = .ok (.iaload, 1) := by decide +kernel
theorem dX6_draught_43 : decode cX6_draught 43 = .ok (.goto 12, 3) := by decide +kernel
theorem dX6_draught_46 : decode cX6_draught 46 = .ok (.aload_n 0, 1) := by decide +kernel
theorem dX6_draught_47 : decode cX6_draught 47 = .ok (.getfield 12, 3) := by decide +kernel
theorem dX6_draught_50 : decode cX6_draught 50 = .ok (.getfield 174, 3) := by decide +kernel
theorem dX6_draught_53 : decode cX6_draught 53 = .ok (.iload_n 1, 1) := by decide +kernel
theorem dX6_draught_54 : decode cX6_draught 54 = .ok (.iaload, 1) := by decide +kernel
theorem dX6_draught_55 : decode cX6_draught 55 = .ok (.ireturn, 1) := by decide +kernel
set_option maxRecDepth 20000 in
theorem ggX6_docket_X6_isIn : GoodIn wsX6_docket wsX6_isIn := goodIn_r _ [8] (by decide +kernel) (by decide +kernel)
set_option maxRecDepth 20000 in
theorem gX6_docket_X6_isIn : GoodIn wsX6_docket (va_wsS RX6 72 yX6_isIn wsX6_isIn) := goodIn_app (goodIn_of _ (by decide +kernel)) ggX6_docket_X6_isIn
theorem dX6_docket_0 : decode cX6_docket 0 = .ok (.iload_n 1, 1) := by decide +kernel
theorem dX6_docket_1 : decode cX6_docket 1 = .ok (.i2l, 1) := by decide +kernel
theorem dX6_docket_2 : decode cX6_docket 2 = .ok (.iconst 0, 1) := by decide +kernel
theorem dX6_docket_3 : decode cX6_docket 3 = .ok (.aload_n 0, 1) := by decide +kernel
theorem dX6_docket_4 : decode cX6_docket 4 = .ok (.getfield 12, 3) := by decide +kernel
theorem dX6_docket_7 : decode cX6_docket 7 = .ok (.getfield 119, 3) := by decide +kernel
theorem dX6_docket_10 : decode cX6_docket 10 = .ok (.iconst 1, 1) := by decide +kernel
theorem dX6_docket_11 : decode cX6_docket 11 = .ok (.isub, 1) := by decide +kernel
theorem dX6_docket_12 : decode cX6_docket 12 = .ok (.invokestatic 72, 3) := by decide +kernel
theorem dX6_docket_15 : decode cX6_docket 15 = .ok (.ifCond .eq 13, 3) := by decide +kernel
theorem dX6_docket_18 : decode cX6_docket 18 = .ok (.iload_n 2, 1) := by decide +kernel
theorem dX6_docket_19 : decode cX6_docket 19 = .ok (.i2l, 1) := by decide +kernel
theorem dX6_docket_20 : decode cX6_docket 20 = .ok (.iconst 0, 1) := by decide +kernel
theorem dX6_docket_21 : decode cX6_docket 21 = .ok (.iconst 1, 1) := by decide +kernel
theorem dX6_docket_22 : decode cX6_docket 22 = .ok (.invokestatic 72, 3) := by decide +kernel
theorem dX6_docket_25 : decode cX6_docket 25 = .ok (.ifCond .ne 5, 3) := by decide +kernel
theorem dX6_docket_28 : decode cX6_docket 28 = .ok (.iconst (-1), 1) := by decide +kernel
theorem dX6_docket_29 : decode cX6_docket 29 = .ok (.ireturn, 1) := by decide +kernel
theorem dX6_docket_30 : decode cX6_docket 30 = .ok (.iload_n 2, 1) := by decide +kernel
theorem dX6_docket_31 : decode cX6_docket 31 = .ok (.ifCond .ne 15, 3) := by decide +kernel
theorem dX6_docket_34 : decode cX6_docket 34 = .ok (.aload_n 0, 1) := by decide +kernel
theorem dX6_docket_35 : decode cX6_docket 35 = .ok (.getfield 12, 3) := by decide +kernel
theorem dX6_docket_38 : decode cX6_docket 38 = .ok (.getfield 177, 3) := by decide +kernel
theorem dX6_docket_41 : decode cX6_docket 41 = .ok (.iload_n 1, 1) := by decide +kernel
theorem dX6_docket_42 : decode cX6_docket 42 = .ok (.iaload, 1) := by decide +kernel
theorem dX6_docket_43 : decode cX6_docket 43 = .ok (.goto 12, 3) := by decide +kernel
theorem dX6_docket_46 : decode cX6_docket 46 = .ok (.aload_n 0, 1) := by decide +kernel
theorem dX6_docket_47 : decode cX6_docket 47 = .ok (.getfield 12, 3) := by decide +kernel
theorem dX6_docket_50 : decode cX6_docket 50 = .ok (.getfield 180, 3) := by decide +kernel
theorem dX6_docket_53 : decode cX6_docket 53 = .ok (.iload_n 1, 1) := by decide +kernel
theorem dX6_docket_54 : decode cX6_docket 54 = .ok (.iaload, 1) := by decide +kernel
theorem dX6_docket_55 : decode cX6_docket 55 = .ok (.ireturn, 1) := by decide +kernel
set_option maxRecDepth 20000 in
theorem ggX6_trim_X6_isFlame : GoodIn wsX6_trim wsX6_isFlame := goodIn_r _ [11, 2, 12, 13, 14, 15, 16, 17, 18, 10, 19, 20, 21, 22, 23, 27, 28, 29, 30, 31, 32, 33, 34, 35, 36, 37, 38, 39, 40, 41, 42, 43, 44, 45, 46, 47, 48, 49, 50, 51, 52, 53, 54, 55] (by decide +kernel) (by decide +kernel)
set_option maxRecDepth 20000 in
theorem gX6_trim_X6_isFlame : GoodIn wsX6_trim (wsV RX6 136 RX6 yX6_isFlame wsX6_isFlame) := goodIn_app (goodIn_of _ (by decide +kernel)) ggX6_trim_X6_isFlame
set_option maxRecDepth 20000 in
theorem ggX6_trim_X6_isIn : GoodIn wsX6_trim wsX6_isIn := goodIn_r _ [19] (by decide +kernel) (by decide +kernel)
set_option maxRecDepth 20000 in
theorem gX6_trim_X6_isIn : GoodIn wsX6_trim (va_wsS RX6 72 yX6_isIn wsX6_isIn) := goodIn_app (goodIn_of _ (by decide +kernel)) ggX6_trim_X6_isIn
set_option maxRecDepth 20000 in
theorem ggX6_trim_X6_exchange : GoodIn wsX6_trim wsX6_exchange := goodIn_r _ [26] (by decide +kernel) (by decide +kernel)
set_option maxRecDepth 20000 in
theorem gX6_trim_X6_exchange : GoodIn wsX6_trim (va_wsS RX6 186 yX6_exchange wsX6_exchange) := goodIn_app (goodIn_of _ (by decide +kernel)) ggX6_trim_X6_exchange
theorem dX6_trim_0 : decode cX6_trim 0 = .ok (.aload_n 0, 1) := by decide +kernel
theorem dX6_trim_1 : decode cX6_trim 1 = .ok (.iload_n 1, 1) := by decide +kernel
theorem dX6_trim_2 : decode cX6_trim 2 = .ok (.iload_n 2, 1) := by decide +kernel
theorem dX6_trim_3 : decode cX6_trim 3 = .ok (.invokevirtual 136, 3) := by decide +kernel
theorem dX6_trim_6 : decode cX6_trim 6 = .ok (.ifCond .eq 28, 3) := by decide +kernel
theorem dX6_trim_9 : decode cX6_trim 9 = .ok (.iload_n 3, 1) := by decide +kernel
theorem dX6_trim_10 : decode cX6_trim 10 = .ok (.i2l, 1) := by decide +kernel
theorem dX6_trim_11 : decode cX6_trim 11 = .ok (.iconst 0, 1) := by decide +kernel
theorem dX6_trim_12 : decode cX6_trim 12 = .ok (.iconst 2, 1) := by decide +kernel
theorem dX6_trim_13 : decode cX6_trim 13 = .ok (.invokestatic 72, 3) := by decide +kernel
theorem dX6_trim_16 : decode cX6_trim 16 = .ok (.ifCond .eq 18, 3) := by decide +kernel
theorem dX6_trim_19 : decode cX6_trim 19 = .ok (.iload 4, 2) := by decide +kernel
theorem dX6_trim_21 : decode cX6_trim 21 = .ok (.i2l, 1) := by decide +kernel
theorem dX6_trim_22 : decode cX6_trim 22 = .ok (.iconst 0, 1) := by decide +kernel
theorem dX6_trim_23 : decode cX6_trim 23 = .ok (.getstatic 183, 3) := by decide +kernel
theorem dX6_trim_26 : decode cX6_trim 26 = .ok (.iload_n 3, 1) := by decide +kernel
theorem dX6_trim_27 : decode cX6_trim 27 = .ok (.iaload, 1) := by decide +kernel
theorem dX6_trim_28 : decode cX6_trim 28 = .ok (.invokestatic 72, 3) := by decide +kernel
theorem dX6_trim_31 : decode cX6_trim 31 = .ok (.ifCond .ne 5, 3) := by decide +kernel
theorem dX6_trim_34 : decode cX6_trim 34 = .ok (.iconst (-1), 1) := by decide +kernel
theorem dX6_trim_35 : decode cX6_trim 35 = .ok (.ireturn, 1) := by decide +kernel
theorem dX6_trim_36 : decode cX6_trim 36 = .ok (.aload_n 0, 1) := by decide +kernel
theorem dX6_trim_37 : decode cX6_trim 37 = .ok (.getfield 12, 3) := by decide +kernel
theorem dX6_trim_40 : decode cX6_trim 40 = .ok (.getfield 122, 3) := by decide +kernel
theorem dX6_trim_43 : decode cX6_trim 43 = .ok (.iload_n 1, 1) := by decide +kernel
theorem dX6_trim_44 : decode cX6_trim 44 = .ok (.iaload, 1) := by decide +kernel
theorem dX6_trim_45 : decode cX6_trim 45 = .ok (.ifCond .eq 6, 3) := by decide +kernel
theorem dX6_trim_48 : decode cX6_trim 48 = .ok (.bipush (-2), 2) := by decide +kernel
theorem dX6_trim_50 : decode cX6_trim 50 = .ok (.ireturn, 1) := by decide +kernel
theorem dX6_trim_51 : decode cX6_trim 51 = .ok (.iload_n 3, 1) := by decide +kernel
theorem dX6_trim_52 : decode cX6_trim 52 = .ok (.ifCond .ne 13, 3) := by decide +kernel
theorem dX6_trim_55 : decode cX6_trim 55 = .ok (.aload_n 0, 1) := by decide +kernel
theorem dX6_trim_56 : decode cX6_trim 56 = .ok (.getfield 12, 3) := by decide +kernel
theorem dX6_trim_59 : decode cX6_trim 59 = .ok (.getfield 140, 3) := by decide +kernel
theorem dX6_trim_62 : decode cX6_trim 62 = .ok (.goto 25, 3) := by decide +kernel
theorem dX6_trim_65 : decode cX6_trim 65 = .ok (.iload_n 3, 1) := by decide +kernel
theorem dX6_trim_66 : decode cX6_trim 66 = .ok (.iconst 1, 1) := by decide +kernel
theorem dX6_trim_67 : decode cX6_trim 67 = .ok (.if_icmp .ne 13, 3) := by decide +kernel
theorem dX6_trim_70 : decode cX6_trim 70 = .ok (.aload_n 0, 1) := by decide +kernel
theorem dX6_trim_71 : decode cX6_trim 71 = .ok (.getfield 12, 3) := by decide +kernel
theorem dX6_trim_74 : decode cX6_trim 74 = .ok (.getfield 129, 3) := by decide +kernel
theorem dX6_trim_77 : decode cX6_trim 77 = .ok (.goto 10, 3) := by decide +kernel
theorem dX6_trim_80 : decode cX6_trim 80 = .ok (.aload_n 0, 1) := by decide +kernel
theorem dX6_trim_81 : decode cX6_trim 81 = .ok (.getfield 12, 3) := by decide +kernel
theorem dX6_trim_84 : decode cX6_trim 84 = .ok (.getfield 143, 3) := by decide +kernel
theorem dX6_trim_87 : decode cX6_trim 87 = .ok (.iconst 2, 1) := by decide +kernel
theorem dX6_trim_88 : decode cX6_trim 88 = .ok (.iload_n 1, 1) := by decide +kernel
theorem dX6_trim_89 : decode cX6_trim 89 = .ok (.imul, 1) := by decide +kernel
theorem dX6_trim_90 : decode cX6_trim 90 = .ok (.iload_n 2, 1) := by decide +kernel
theorem dX6_trim_91 : decode cX6_trim 91 = .ok (.iadd, 1) := by decide +kernel
theorem dX6_trim_92 : decode cX6_trim 92 = .ok (.iload 4, 2) := by decide +kernel
theorem dX6_trim_94 : decode cX6_trim 94 = .ok (.invokestatic 186, 3) := by decide +kernel
theorem dX6_trim_97 : decode cX6_trim 97 = .ok (.ireturn, 1) := by decide +kernel
set_option maxRecDepth 20000 in
theorem ggX6_train_X0_hasJudge : GoodIn wsX6_train wsX0_hasJudge := goodIn_r _ [8, 9, 10, 11, 12, 29, 30, 31, 32, 33, 34, 35, 36, 37, 38, 39, 40, 41, 42, 43, 44, 45] (by decide +kernel) (by decide +kernel)
set_option maxRecDepth 20000 in
theorem gX6_train_X0_hasJudge : GoodIn wsX6_train (wsV RX6 162 RX0 yX0_hasJudge wsX0_hasJudge) := goodIn_app (goodIn_of _ (by decide +kernel)) ggX6_train_X0_hasJudge
set_option maxRecDepth 20000 in
theorem ggX6_train_X6_isIn : GoodIn wsX6_train wsX6_isIn := goodIn_r _ [12] (by decide +kernel) (by decide +kernel)
set_option maxRecDepth 20000 in
theorem gX6_train_X6_isIn : GoodIn wsX6_train (va_wsS RX6 72 yX6_isIn wsX6_isIn) := goodIn_app (goodIn_of _ (by decide +kernel)) ggX6_train_X6_isIn
set_option maxRecDepth 20000 in
theorem ggX6_train_X6_exchange : GoodIn wsX6_train wsX6_exchange := goodIn_r _ [16] (by decide +kernel) (by decide +kernel)
set_option maxRecDepth 20000 in
theorem gX6_train_X6_exchange : GoodIn wsX6_train (va_wsS RX6 186 yX6_exchange wsX6_exchange) := goodIn_app (goodIn_of _ (by decide +kernel)) ggX6_train_X6_exchange
theorem dX6_train_0 : decode cX6_train 0 = .ok (.aload_n 0, 1) := by decide +kernel
theorem dX6_train_1 : decode cX6_train 1 = .ok (.getfield 12, 3) := by decide +kernel
theorem dX6_train_4 : decode cX6_train 4 = .ok (.iload_n 1, 1) := by decide +kernel
theorem dX6_train_5 : decode cX6_train 5 = .ok (.invokevirtual 162, 3) := by decide +kernel
theorem dX6_train_8 : decode cX6_train 8 = .ok (.ifCond .eq 13, 3) := by decide +kernel
theorem dX6_train_11 : decode cX6_train 11 = .ok (.iload_n 2, 1) := by decide +kernel
theorem dX6_train_12 : decode cX6_train 12 = .ok (.i2l, 1) := by decide +kernel
theorem dX6_train_13 : decode cX6_train 13 = .ok (.iconst 0, 1) := by decide +kernel
theorem dX6_train_14 : decode cX6_train 14 = .ok (.iconst 1, 1) := by decide +kernel
theorem dX6_train_15 : decode cX6_train 15 = .ok (.invokestatic 72, 3) := by decide +kernel
theorem dX6_train_18 : decode cX6_train 18 = .ok (.ifCond .ne 5, 3) := by decide +kernel
theorem dX6_train_21 : decode cX6_train 21 = .ok (.iconst (-1), 1) := by decide +kernel
theorem dX6_train_22 : decode cX6_train 22 = .ok (.ireturn, 1) := by decide +kernel
theorem dX6_train_23 : decode cX6_train 23 = .ok (.iload_n 2, 1) := by decide +kernel
theorem dX6_train_24 : decode cX6_train 24 = .ok (.ifCond .ne 30, 3) := by decide +kernel
theorem dX6_train_27 : decode cX6_train 27 = .ok (.iload_n 3, 1) := by decide +kernel
theorem dX6_train_28 : decode cX6_train 28 = .ok (.i2l, 1) := by decide +kernel
theorem dX6_train_29 : decode cX6_train 29 = .ok (.iconst 0, 1) := by decide +kernel
theorem dX6_train_30 : decode cX6_train 30 = .ok (.iconst 3, 1) := by decide +kernel
theorem dX6_train_31 : decode cX6_train 31 = .ok (.invokestatic 72, 3) := by decide +kernel
theorem dX6_train_34 : decode cX6_train 34 = .ok (.ifCond .eq 18, 3) := by decide +kernel
theorem dX6_train_37 : decode cX6_train 37 = .ok (.aload_n 0, 1) := by decide +kernel
theorem dX6_train_38 : decode cX6_train 38 = .ok (.getfield 12, 3) := by decide +kernel
theorem dX6_train_41 : decode cX6_train 41 = .ok (.getfield 165, 3) := by decide +kernel
theorem dX6_train_44 : decode cX6_train 44 = .ok (.iload_n 1, 1) := by decide +kernel
theorem dX6_train_45 : decode cX6_train 45 = .ok (.iload_n 3, 1) := by decide +kernel
theorem dX6_train_46 : decode cX6_train 46 = .ok (.invokestatic 186, 3) := by decide +kernel
theorem dX6_train_49 : decode cX6_train 49 = .ok (.goto 4, 3) := by decide +kernel
theorem dX6_train_52 : decode cX6_train 52 = .ok (.iconst (-1), 1) := by decide +kernel
theorem dX6_train_53 : decode cX6_train 53 = .ok (.ireturn, 1) := by decide +kernel
theorem dX6_train_54 : decode cX6_train 54 = .ok (.iload_n 3, 1) := by decide +kernel
theorem dX6_train_55 : decode cX6_train 55 = .ok (.i2l, 1) := by decide +kernel
theorem dX6_train_56 : decode cX6_train 56 = .ok (.iconst 1, 1) := by decide +kernel
theorem dX6_train_57 : decode cX6_train 57 = .ok (.bipush 9, 2) := by decide +kernel
theorem dX6_train_59 : decode cX6_train 59 = .ok (.invokestatic 72, 3) := by decide +kernel
theorem dX6_train_62 : decode cX6_train 62 = .ok (.ifCond .eq 18, 3) := by decide +kernel
theorem dX6_train_65 : decode cX6_train 65 = .ok (.aload_n 0, 1) := by decide +kernel
theorem dX6_train_66 : decode cX6_train 66 = .ok (.getfield 12, 3) := by decide +kernel
theorem dX6_train_69 : decode cX6_train 69 = .ok (.getfield 168, 3) := by decide +kernel
theorem dX6_train_72 : decode cX6_train 72 = .ok (.iload_n 1, 1) := by decide +kernel
theorem dX6_train_73 : decode cX6_train 73 = .ok (.iload_n 3, 1) := by decide +kernel
theorem dX6_train_74 : decode cX6_train 74 = .ok (.invokestatic 186, 3) := by decide +kernel
theorem dX6_train_77 : decode cX6_train 77 = .ok (.goto 4, 3) := by decide +kernel
theorem dX6_train_80 : decode cX6_train 80 = .ok (.iconst (-1), 1) := by decide +kernel
theorem dX6_train_81 : decode cX6_train 81 = .ok (.ireturn, 1) := by decide +kernel
set_option maxRecDepth 20000 in
theorem ggX6_blow_X6_isIn : GoodIn wsX6_blow wsX6_isIn := goodIn_r _ [6] (by decide +kernel) (by decide +kernel)
set_option maxRecDepth 20000 in
theorem gX6_blow_X6_isIn : GoodIn wsX6_blow (va_wsS RX6 72 yX6_isIn wsX6_isIn) := goodIn_app (goodIn_of _ (by decide +kernel)) ggX6_blow_X6_isIn
set_option maxRecDepth 20000 in
theorem ggX6_blow_X0_addDraught : GoodIn wsX6_blow wsX0_addDraught := goodIn_r _ [11, 12, 13, 14, 27, 28, 29, 30, 31, 32, 33, 34, 35, 36, 37, 38, 39, 40, 41, 42, 43] (by decide +kernel) (by decide +kernel)
set_option maxRecDepth 20000 in
theorem gX6_blow_X0_addDraught : GoodIn wsX6_blow (wsV RX6 189 RX0 yX0_addDraught wsX0_addDraught) := goodIn_app (goodIn_of _ (by decide +kernel)) ggX6_blow_X0_addDraught
theorem dX6_blow_0 : decode cX6_blow 0 = .ok (.iload_n 1, 1) := by decide +kernel
theorem dX6_blow_1 : decode cX6_blow 1 = .ok (.i2l, 1) := by decide +kernel
theorem dX6_blow_2 : decode cX6_blow 2 = .ok (.iconst 0, 1) := by decide +kernel
theorem dX6_blow_3 : decode cX6_blow 3 = .ok (.bipush 20, 2) := by decide +kernel
theorem dX6_blow_5 : decode cX6_blow 5 = .ok (.invokestatic 72, 3) := by decide +kernel
theorem dX6_blow_8 : decode cX6_blow 8 = .ok (.ifCond .eq 14, 3) := by decide +kernel
theorem dX6_blow_11 : decode cX6_blow 11 = .ok (.iload_n 2, 1) := by decide +kernel
theorem dX6_blow_12 : decode cX6_blow 12 = .ok (.i2l, 1) := by decide +kernel
theorem dX6_blow_13 : decode cX6_blow 13 = .ok (.iconst 1, 1) := by decide +kernel
theorem dX6_blow_14 : decode cX6_blow 14 = .ok (.bipush 9, 2) := by decide +kernel
theorem dX6_blow_16 : decode cX6_blow 16 = .ok (.invokestatic 72, 3) := by decide +kernel
theorem dX6_blow_19 : decode cX6_blow 19 = .ok (.ifCond .ne 5, 3) := by decide +kernel
theorem dX6_blow_22 : decode cX6_blow 22 = .ok (.iconst (-1), 1) := by decide +kernel
theorem dX6_blow_23 : decode cX6_blow 23 = .ok (.ireturn, 1) := by decide +kernel
theorem dX6_blow_24 : decode cX6_blow 24 = .ok (.aload_n 0, 1) := by decide +kernel
theorem dX6_blow_25 : decode cX6_blow 25 = .ok (.getfield 12, 3) := by decide +kernel
theorem dX6_blow_28 : decode cX6_blow 28 = .ok (.iload_n 1, 1) := by decide +kernel
theorem dX6_blow_29 : decode cX6_blow 29 = .ok (.iload_n 2, 1) := by decide +kernel
theorem dX6_blow_30 : decode cX6_blow 30 = .ok (.invokevirtual 189, 3) := by decide +kernel
theorem dX6_blow_33 : decode cX6_blow 33 = .ok (.ifCond .eq 13, 3) := by decide +kernel
theorem dX6_blow_36 : decode cX6_blow 36 = .ok (.aload_n 0, 1) := by decide +kernel
theorem dX6_blow_37 : decode cX6_blow 37 = .ok (.getfield 12, 3) := by decide +kernel
theorem dX6_blow_40 : decode cX6_blow 40 = .ok (.getfield 116, 3) := by decide +kernel
theorem dX6_blow_43 : decode cX6_blow 43 = .ok (.goto 5, 3) := by decide +kernel
theorem dX6_blow_46 : decode cX6_blow 46 = .ok (.bipush (-3), 2) := by decide +kernel
theorem dX6_blow_48 : decode cX6_blow 48 = .ok (.ireturn, 1) := by decide +kernel
set_option maxRecDepth 20000 in
theorem ggX6_calm_X6_isIn : GoodIn wsX6_calm wsX6_isIn := goodIn_r _ [6] (by decide +kernel) (by decide +kernel)
set_option maxRecDepth 20000 in
theorem gX6_calm_X6_isIn : GoodIn wsX6_calm (va_wsS RX6 72 yX6_isIn wsX6_isIn) := goodIn_app (goodIn_of _ (by decide +kernel)) ggX6_calm_X6_isIn
theorem dX6_calm_0 : decode cX6_calm 0 = .ok (.iload_n 1, 1) := by decide +kernel
theorem dX6_calm_1 : decode cX6_calm 1 = .ok (.i2l, 1) := by decide +kernel
theorem dX6_calm_2 : decode cX6_calm 2 = .ok (.iconst 0, 1) := by decide +kernel
theorem dX6_calm_3 : decode cX6_calm 3 = .ok (.aload_n 0, 1) := by decide +kernel
theorem dX6_calm_4 : decode cX6_calm 4 = .ok (.getfield 12, 3) := by decide +kernel
theorem dX6_calm_7 : decode cX6_calm 7 = .ok (.getfield 116, 3) := by decide +kernel
theorem dX6_calm_10 : decode cX6_calm 10 = .ok (.invokestatic 72, 3) := by decide +kernel
theorem dX6_calm_13 : decode cX6_calm 13 = .ok (.ifCond .ne 5, 3) := by decide +kernel
theorem dX6_calm_16 : decode cX6_calm 16 = .ok (.iconst (-1), 1) := by decide +kernel
theorem dX6_calm_17 : decode cX6_calm 17 = .ok (.ireturn, 1) := by decide +kernel
theorem dX6_calm_18 : decode cX6_calm 18 = .ok (.aload_n 0, 1) := by decide +kernel
theorem dX6_calm_19 : decode cX6_calm 19 = .ok (.getfield 12, 3) := by decide +kernel
theorem dX6_calm_22 : decode cX6_calm 22 = .ok (.getfield 116, 3) := by decide +kernel
theorem dX6_calm_25 : decode cX6_calm 25 = .ok (.istore_n 2, 1) := by decide +kernel
theorem dX6_calm_26 : decode cX6_calm 26 = .ok (.aload_n 0, 1) := by decide +kernel
theorem dX6_calm_27 : decode cX6_calm 27 = .ok (.getfield 12, 3) := by decide +kernel
theorem dX6_calm_30 : decode cX6_calm 30 = .ok (.iload_n 1, 1) := by decide +kernel
theorem dX6_calm_31 : decode cX6_calm 31 = .ok (.putfield 116, 3) := by decide +kernel
theorem dX6_calm_34 : decode cX6_calm 34 = .ok (.iload_n 2, 1) := by decide +kernel
theorem dX6_calm_35 : decode cX6_calm 35 = .ok (.ireturn, 1) := by decide +kernel
set_option maxRecDepth 20000 in
theorem ggX6_plan_X0_hasCase : GoodIn wsX6_plan wsX0_hasCase := goodIn_r _ [7, 8, 9, 10, 11, 36, 37, 38, 39, 40, 41, 42, 43, 44, 45, 46, 47, 48, 49, 50, 51, 52] (by decide +kernel) (by decide +kernel)
set_option maxRecDepth 20000 in
theorem gX6_plan_X0_hasCase : GoodIn wsX6_plan (wsV RX6 149 RX0 yX0_hasCase wsX0_hasCase) := goodIn_app (goodIn_of _ (by decide +kernel)) ggX6_plan_X0_hasCase
set_option maxRecDepth 20000 in
theorem ggX6_plan_X0_hasJudge : GoodIn wsX6_plan wsX0_hasJudge := goodIn_r _ [15, 16, 9, 10, 11, 36, 37, 38, 39, 40, 41, 42, 43, 44, 45, 46, 47, 48, 49, 50, 51, 52] (by decide +kernel) (by decide +kernel)
set_option maxRecDepth 20000 in
theorem gX6_plan_X0_hasJudge : GoodIn wsX6_plan (wsV RX6 162 RX0 yX0_hasJudge wsX0_hasJudge) := goodIn_app (goodIn_of _ (by decide +kernel)) ggX6_plan_X0_hasJudge
set_option maxRecDepth 20000 in
theorem ggX6_plan_X0_addHearing : GoodIn wsX6_plan wsX0_addHearing := goodIn_r _ [20, 21, 22, 23, 36, 37, 38, 39, 40, 41, 42, 43, 44, 45, 46, 47, 48, 49, 50, 51, 52] (by decide +kernel) (by decide +kernel)
set_option maxRecDepth 20000 in
theorem gX6_plan_X0_addHearing : GoodIn wsX6_plan (wsV RX6 192 RX0 yX0_addHearing wsX0_addHearing) := goodIn_app (goodIn_of _ (by decide +kernel)) ggX6_plan_X0_addHearing
theorem dX6_plan_0 : decode cX6_plan 0 = .ok (.aload_n 0, 1) := by decide +kernel
theorem dX6_plan_1 : decode cX6_plan 1 = .ok (.getfield 12, 3) := by decide +kernel
theorem dX6_plan_4 : decode cX6_plan 4 = .ok (.iload_n 1, 1) := by decide +kernel
theorem dX6_plan_5 : decode cX6_plan 5 = .ok (.i2l, 1) := by decide +kernel
theorem dX6_plan_6 : decode cX6_plan 6 = .ok (.invokevirtual 149, 3) := by decide +kernel
theorem dX6_plan_9 : decode cX6_plan 9 = .ok (.ifCond .eq 14, 3) := by decide +kernel
theorem dX6_plan_12 : decode cX6_plan 12 = .ok (.aload_n 0, 1) := by decide +kernel
theorem dX6_plan_13 : decode cX6_plan 13 = .ok (.getfield 12, 3) := by decide +kernel
theorem dX6_plan_16 : decode cX6_plan 16 = .ok (.iload_n 2, 1) := by decide +kernel
theorem dX6_plan_17 : decode cX6_plan 17 = .ok (.invokevirtual 162, 3) := by decide +kernel
theorem dX6_plan_20 : decode cX6_plan 20 = .ok (.ifCond .ne 5, 3) := by decide +kernel
theorem dX6_plan_23 : decode cX6_plan 23 = .ok (.iconst (-1), 1) := by decide +kernel
theorem dX6_plan_24 : decode cX6_plan 24 = .ok (.ireturn, 1) := by decide +kernel
theorem dX6_plan_25 : decode cX6_plan 25 = .ok (.aload_n 0, 1) := by decide +kernel
theorem dX6_plan_26 : decode cX6_plan 26 = .ok (.getfield 12, 3) := by decide +kernel
theorem dX6_plan_29 : decode cX6_plan 29 = .ok (.iload_n 1, 1) := by decide +kernel
theorem dX6_plan_30 : decode cX6_plan 30 = .ok (.iload_n 2, 1) := by decide +kernel
theorem dX6_plan_31 : decode cX6_plan 31 = .ok (.invokevirtual 192, 3) := by decide +kernel
theorem dX6_plan_34 : decode cX6_plan 34 = .ok (.ifCond .eq 13, 3) := by decide +kernel
theorem dX6_plan_37 : decode cX6_plan 37 = .ok (.aload_n 0, 1) := by decide +kernel
theorem dX6_plan_38 : decode cX6_plan 38 = .ok (.getfield 12, 3) := by decide +kernel
theorem dX6_plan_41 : decode cX6_plan 41 = .ok (.getfield 119, 3) := by decide +kernel
theorem dX6_plan_44 : decode cX6_plan 44 = .ok (.goto 5, 3) := by decide +kernel
theorem dX6_plan_47 : decode cX6_plan 47 = .ok (.bipush (-3), 2) := by decide +kernel
theorem dX6_plan_49 : decode cX6_plan 49 = .ok (.ireturn, 1) := by decide +kernel
set_option maxRecDepth 20000 in
theorem ggX6_cut_X6_isIn : GoodIn wsX6_cut wsX6_isIn := goodIn_r _ [6] (by decide +kernel) (by decide +kernel)
set_option maxRecDepth 20000 in
theorem gX6_cut_X6_isIn : GoodIn wsX6_cut (va_wsS RX6 72 yX6_isIn wsX6_isIn) := goodIn_app (goodIn_of _ (by decide +kernel)) ggX6_cut_X6_isIn
theorem dX6_cut_0 : decode cX6_cut 0 = .ok (.iload_n 1, 1) := by decide +kernel
theorem dX6_cut_1 : decode cX6_cut 1 = .ok (.i2l, 1) := by decide +kernel
theorem dX6_cut_2 : decode cX6_cut 2 = .ok (.iconst 0, 1) := by decide +kernel
theorem dX6_cut_3 : decode cX6_cut 3 = .ok (.aload_n 0, 1) := by decide +kernel
theorem dX6_cut_4 : decode cX6_cut 4 = .ok (.getfield 12, 3) := by decide +kernel
theorem dX6_cut_7 : decode cX6_cut 7 = .ok (.getfield 119, 3) := by decide +kernel
theorem dX6_cut_10 : decode cX6_cut 10 = .ok (.invokestatic 72, 3) := by decide +kernel
theorem dX6_cut_13 : decode cX6_cut 13 = .ok (.ifCond .ne 5, 3) := by decide +kernel
theorem dX6_cut_16 : decode cX6_cut 16 = .ok (.iconst (-1), 1) := by decide +kernel
theorem dX6_cut_17 : decode cX6_cut 17 = .ok (.ireturn, 1) := by decide +kernel
theorem dX6_cut_18 : decode cX6_cut 18 = .ok (.aload_n 0, 1) := by decide +kernel
theorem dX6_cut_19 : decode cX6_cut 19 = .ok (.getfield 12, 3) := by decide +kernel
theorem dX6_cut_22 : decode cX6_cut 22 = .ok (.getfield 119, 3) := by decide +kernel
theorem dX6_cut_25 : decode cX6_cut 25 = .ok (.istore_n 2, 1) := by decide +kernel
theorem dX6_cut_26 : decode cX6_cut 26 = .ok (.aload_n 0, 1) := by decide +kernel
theorem dX6_cut_27 : decode cX6_cut 27 = .ok (.getfield 12, 3) := by decide +kernel
theorem dX6_cut_30 : decode cX6_cut 30 = .ok (.iload_n 1, 1) := by decide +kernel
theorem dX6_cut_31 : decode cX6_cut 31 = .ok (.putfield 119, 3) := by decide +kernel
theorem dX6_cut_34 : decode cX6_cut 34 = .ok (.iload_n 2, 1) := by decide +kernel
theorem dX6_cut_35 : decode cX6_cut 35 = .ok (.ireturn, 1) := by decide +kernel
set_option maxRecDepth 20000 in
theorem ggX6_hear_X0_hasCase : GoodIn wsX6_hear wsX0_hasCase := goodIn_r _ [7, 8, 9, 10, 11, 87, 88, 89, 90, 91, 92, 93, 94, 95, 96, 97, 98, 99, 100, 101, 102, 103] (by decide +kernel) (by decide +kernel)
set_option maxRecDepth 20000 in
theorem gX6_hear_X0_hasCase : GoodIn wsX6_hear (wsV RX6 149 RX0 yX0_hasCase wsX0_hasCase) := goodIn_app (goodIn_of _ (by decide +kernel)) ggX6_hear_X0_hasCase
set_option maxRecDepth 20000 in
theorem ggX6_hear_X0_hasJudge : GoodIn wsX6_hear wsX0_hasJudge := goodIn_r _ [15, 16, 9, 10, 11, 87, 88, 89, 90, 91, 92, 93, 94, 95, 96, 97, 98, 99, 100, 101, 102, 103] (by decide +kernel) (by decide +kernel)
set_option maxRecDepth 20000 in
theorem gX6_hear_X0_hasJudge : GoodIn wsX6_hear (wsV RX6 162 RX0 yX0_hasJudge wsX0_hasJudge) := goodIn_app (goodIn_of _ (by decide +kernel)) ggX6_hear_X0_hasJudge
set_option maxRecDepth 20000 in
theorem ggX6_hear_X6_hearForGood : GoodIn wsX6_hear wsX6_hearForGood := goodIn_r _ [20, 1, 21, 22, 23, 2, 24, 25, 26, 27, 28, 29, 10, 30, 31, 32, 33, 34, 35, 36, 37, 38, 39, 40, 41, 42, 43, 44, 45, 46, 47, 48, 49, 50, 51, 52, 53, 54, 55, 56, 57, 58, 59, 60, 61, 62, 63, 64, 65, 66, 67, 68, 69, 70, 71, 72, 73, 74, 75, 76, 77, 78, 79, 80, 81, 82, 83, 84, 85, 86, 87, 88, 89, 90, 91, 92, 93, 94, 95, 96, 97, 98, 99, 100, 101, 102, 103, 104, 105, 106, 107, 108, 109, 110] (by decide +kernel) (by decide +kernel)
set_option maxRecDepth 20000 in
theorem gX6_hear_X6_hearForGood : GoodIn wsX6_hear (wsV RX6 195 RX6 yX6_hearForGood wsX6_hearForGood) := goodIn_app (goodIn_of _ (by decide +kernel)) ggX6_hear_X6_hearForGood
theorem dX6_hear_0 : decode cX6_hear 0 = .ok (.aload_n 0, 1) := by decide +kernel
theorem dX6_hear_1 : decode cX6_hear 1 = .ok (.getfield 12, 3) := by decide +kernel
theorem dX6_hear_4 : decode cX6_hear 4 = .ok (.iload_n 1, 1) := by decide +kernel
theorem dX6_hear_5 : decode cX6_hear 5 = .ok (.i2l, 1) := by decide +kernel
theorem dX6_hear_6 : decode cX6_hear 6 = .ok (.invokevirtual 149, 3) := by decide +kernel
theorem dX6_hear_9 : decode cX6_hear 9 = .ok (.ifCond .eq 14, 3) := by decide +kernel
theorem dX6_hear_12 : decode cX6_hear 12 = .ok (.aload_n 0, 1) := by decide +kernel
theorem dX6_hear_13 : decode cX6_hear 13 = .ok (.getfield 12, 3) := by decide +kernel
theorem dX6_hear_16 : decode cX6_hear 16 = .ok (.iload_n 2, 1) := by decide +kernel
theorem dX6_hear_17 : decode cX6_hear 17 = .ok (.invokevirtual 162, 3) := by decide +kernel
theorem dX6_hear_20 : decode cX6_hear 20 = .ok (.ifCond .ne 5, 3) := by decide +kernel
theorem dX6_hear_23 : decode cX6_hear 23 = .ok (.iconst (-1), 1) := by decide +kernel
theorem dX6_hear_24 : decode cX6_hear 24 = .ok (.ireturn, 1) := by decide +kernel
theorem dX6_hear_25 : decode cX6_hear 25 = .ok (.aload_n 0, 1) := by decide +kernel
theorem dX6_hear_26 : decode cX6_hear 26 = .ok (.getfield 12, 3) := by decide +kernel
theorem dX6_hear_29 : decode cX6_hear 29 = .ok (.getfield 122, 3) := by decide +kernel
theorem dX6_hear_32 : decode cX6_hear 32 = .ok (.iload_n 1, 1) := by decide +kernel
theorem dX6_hear_33 : decode cX6_hear 33 = .ok (.iaload, 1) := by decide +kernel
theorem dX6_hear_34 : decode cX6_hear 34 = .ok (.ifCond .eq 8, 3) := by decide +kernel
theorem dX6_hear_37 : decode cX6_hear 37 = .ok (.bipush (-2), 2) := by decide +kernel
theorem dX6_hear_39 : decode cX6_hear 39 = .ok (.goto 9, 3) := by decide +kernel
theorem dX6_hear_42 : decode cX6_hear 42 = .ok (.aload_n 0, 1) := by decide +kernel
theorem dX6_hear_43 : decode cX6_hear 43 = .ok (.iload_n 1, 1) := by decide +kernel
theorem dX6_hear_44 : decode cX6_hear 44 = .ok (.iload_n 2, 1) := by decide +kernel
theorem dX6_hear_45 : decode cX6_hear 45 = .ok (.invokevirtual 195, 3) := by decide +kernel
theorem dX6_hear_48 : decode cX6_hear 48 = .ok (.ireturn, 1) := by decide +kernel
set_option maxRecDepth 20000 in
theorem ggX6_appeal_X0_hasCase : GoodIn wsX6_appeal wsX0_hasCase := goodIn_r _ [13, 14, 15, 16, 17, 30, 31, 32, 33, 34, 35, 36, 37, 38, 39, 40, 41, 42, 43, 44, 45, 46] (by decide +kernel) (by decide +kernel)
set_option maxRecDepth 20000 in
theorem gX6_appeal_X0_hasCase : GoodIn wsX6_appeal (wsV RX6 149 RX0 yX0_hasCase wsX0_hasCase) := goodIn_app (goodIn_of _ (by decide +kernel)) ggX6_appeal_X0_hasCase
theorem dX6_appeal_0 : decode cX6_appeal 0 = .ok (.aload_n 0, 1) := by decide +kernel
theorem dX6_appeal_1 : decode cX6_appeal 1 = .ok (.getfield 12, 3) := by decide +kernel
theorem dX6_appeal_4 : decode cX6_appeal 4 = .ok (.iload_n 1, 1) := by decide +kernel
theorem dX6_appeal_5 : decode cX6_appeal 5 = .ok (.i2l, 1) := by decide +kernel
theorem dX6_appeal_6 : decode cX6_appeal 6 = .ok (.invokevirtual 149, 3) := by decide +kernel
theorem dX6_appeal_9 : decode cX6_appeal 9 = .ok (.ifCond .ne 5, 3) := by decide +kernel
theorem dX6_appeal_12 : decode cX6_appeal 12 = .ok (.iconst (-1), 1) := by decide +kernel
theorem dX6_appeal_13 : decode cX6_appeal 13 = .ok (.ireturn, 1) := by decide +kernel
theorem dX6_appeal_14 : decode cX6_appeal 14 = .ok (.aload_n 0, 1) := by decide +kernel
theorem dX6_appeal_15 : decode cX6_appeal 15 = .ok (.getfield 12, 3) := by decide +kernel
theorem dX6_appeal_18 : decode cX6_appeal 18 = .ok (.getfield 122, 3) := by decide +kernel
theorem dX6_appeal_21 : decode cX6_appeal 21 = .ok (.iload_n 1, 1) := by decide +kernel
theorem dX6_appeal_22 : decode cX6_appeal 22 = .ok (.iaload, 1) := by decide +kernel
theorem dX6_appeal_23 : decode cX6_appeal 23 = .ok (.ifCond .eq 15, 3) := by decide +kernel
theorem dX6_appeal_26 : decode cX6_appeal 26 = .ok (.aload_n 0, 1) := by decide +kernel
theorem dX6_appeal_27 : decode cX6_appeal 27 = .ok (.getfield 12, 3) := by decide +kernel
theorem dX6_appeal_30 : decode cX6_appeal 30 = .ok (.getfield 153, 3) := by decide +kernel
theorem dX6_appeal_33 : decode cX6_appeal 33 = .ok (.iload_n 1, 1) := by decide +kernel
theorem dX6_appeal_34 : decode cX6_appeal 34 = .ok (.iaload, 1) := by decide +kernel
theorem dX6_appeal_35 : decode cX6_appeal 35 = .ok (.ifCond .eq 6, 3) := by decide +kernel
theorem dX6_appeal_38 : decode cX6_appeal 38 = .ok (.bipush (-2), 2) := by decide +kernel
theorem dX6_appeal_40 : decode cX6_appeal 40 = .ok (.ireturn, 1) := by decide +kernel
theorem dX6_appeal_41 : decode cX6_appeal 41 = .ok (.aload_n 0, 1) := by decide +kernel
theorem dX6_appeal_42 : decode cX6_appeal 42 = .ok (.getfield 12, 3) := by decide +kernel
theorem dX6_appeal_45 : decode cX6_appeal 45 = .ok (.getfield 122, 3) := by decide +kernel
theorem dX6_appeal_48 : decode cX6_appeal 48 = .ok (.iload_n 1, 1) := by decide +kernel
theorem dX6_appeal_49 : decode cX6_appeal 49 = .ok (.iconst 0, 1) := by decide +kernel
theorem dX6_appeal_50 : decode cX6_appeal 50 = .ok (.iastore, 1) := by decide +kernel
theorem dX6_appeal_51 : decode cX6_appeal 51 = .ok (.aload_n 0, 1) := by decide +kernel
theorem dX6_appeal_52 : decode cX6_appeal 52 = .ok (.getfield 12, 3) := by decide +kernel
theorem dX6_appeal_55 : decode cX6_appeal 55 = .ok (.getfield 153, 3) := by decide +kernel
theorem dX6_appeal_58 : decode cX6_appeal 58 = .ok (.iload_n 1, 1) := by decide +kernel
theorem dX6_appeal_59 : decode cX6_appeal 59 = .ok (.iconst 1, 1) := by decide +kernel
theorem dX6_appeal_60 : decode cX6_appeal 60 = .ok (.iastore, 1) := by decide +kernel
theorem dX6_appeal_61 : decode cX6_appeal 61 = .ok (.iconst 2, 1) := by decide +kernel
theorem dX6_appeal_62 : decode cX6_appeal 62 = .ok (.iload_n 1, 1) := by decide +kernel
theorem dX6_appeal_63 : decode cX6_appeal 63 = .ok (.imul, 1) := by decide +kernel
theorem dX6_appeal_64 : decode cX6_appeal 64 = .ok (.istore_n 2, 1) := by decide +kernel
theorem dX6_appeal_65 : decode cX6_appeal 65 = .ok (.iload_n 2, 1) := by decide +kernel
theorem dX6_appeal_66 : decode cX6_appeal 66 = .ok (.iconst 2, 1) := by decide +kernel
theorem dX6_appeal_67 : decode cX6_appeal 67 = .ok (.iload_n 1, 1) := by decide +kernel
theorem dX6_appeal_68 : decode cX6_appeal 68 = .ok (.imul, 1) := by decide +kernel
theorem dX6_appeal_69 : decode cX6_appeal 69 = .ok (.iconst 2, 1) := by decide +kernel
theorem dX6_appeal_70 : decode cX6_appeal 70 = .ok (.iadd, 1) := by decide +kernel
theorem dX6_appeal_71 : decode cX6_appeal 71 = .ok (.if_icmp .ge 31, 3) := by decide +kernel
theorem dX6_appeal_74 : decode cX6_appeal 74 = .ok (.aload_n 0, 1) := by decide +kernel
theorem dX6_appeal_75 : decode cX6_appeal 75 = .ok (.getfield 12, 3) := by decide +kernel
theorem dX6_appeal_78 : decode cX6_appeal 78 = .ok (.getfield 129, 3) := by decide +kernel
theorem dX6_appeal_81 : decode cX6_appeal 81 = .ok (.iload_n 2, 1) := by decide +kernel
theorem dX6_appeal_82 : decode cX6_appeal 82 = .ok (.iconst 1, 1) := by decide +kernel
theorem dX6_appeal_83 : decode cX6_appeal 83 = .ok (.aload_n 0, 1) := by decide +kernel
theorem dX6_appeal_84 : decode cX6_appeal 84 = .ok (.getfield 12, 3) := by decide +kernel
theorem dX6_appeal_87 : decode cX6_appeal 87 = .ok (.getfield 129, 3) := by decide +kernel
theorem dX6_appeal_90 : decode cX6_appeal 90 = .ok (.iload_n 2, 1) := by decide +kernel
theorem dX6_appeal_91 : decode cX6_appeal 91 = .ok (.iaload, 1) := by decide +kernel
theorem dX6_appeal_92 : decode cX6_appeal 92 = .ok (.invokestatic 199, 3) := by decide +kernel
theorem dX6_appeal_95 : decode cX6_appeal 95 = .ok (.iastore, 1) := by decide +kernel
theorem dX6_appeal_96 : decode cX6_appeal 96 = .ok (.iinc 2 1, 3) := by decide +kernel
theorem dX6_appeal_99 : decode cX6_appeal 99 = .ok (.goto (-34), 3) := by decide +kernel
theorem dX6_appeal_102 : decode cX6_appeal 102 = .ok (.aload_n 0, 1) := by decide +kernel
theorem dX6_appeal_103 : decode cX6_appeal 103 = .ok (.getfield 12, 3) := by decide +kernel
theorem dX6_appeal_106 : decode cX6_appeal 106 = .ok (.getfield 129, 3) := by decide +kernel
theorem dX6_appeal_109 : decode cX6_appeal 109 = .ok (.iconst 2, 1) := by decide +kernel
theorem dX6_appeal_110 : decode cX6_appeal 110 = .ok (.iload_n 1, 1) := by decide +kernel
theorem dX6_appeal_111 : decode cX6_appeal 111 = .ok (.imul, 1) := by decide +kernel
theorem dX6_appeal_112 : decode cX6_appeal 112 = .ok (.iaload, 1) := by decide +kernel
theorem dX6_appeal_113 : decode cX6_appeal 113 = .ok (.aload_n 0, 1) := by decide +kernel
theorem dX6_appeal_114 : decode cX6_appeal 114 = .ok (.getfield 12, 3) := by decide +kernel
theorem dX6_appeal_117 : decode cX6_appeal 117 = .ok (.getfield 129, 3) := by decide +kernel
theorem dX6_appeal_120 : decode cX6_appeal 120 = .ok (.iconst 2, 1) := by decide +kernel
theorem dX6_appeal_121 : decode cX6_appeal 121 = .ok (.iload_n 1, 1) := by decide +kernel
theorem dX6_appeal_122 : decode cX6_appeal 122 = .ok (.imul, 1) := by decide +kernel
theorem dX6_appeal_123 : decode cX6_appeal 123 = .ok (.iconst 1, 1) := by decide +kernel
theorem dX6_appeal_124 : decode cX6_appeal 124 = .ok (.iadd, 1) := by decide +kernel
theorem dX6_appeal_125 : decode cX6_appeal 125 = .ok (.iaload, 1) := by decide +kernel
theorem dX6_appeal_126 : decode cX6_appeal 126 = .ok (.iadd, 1) := by decide +kernel
theorem dX6_appeal_127 : decode cX6_appeal 127 = .ok (.ireturn, 1) := by decide +kernel
set_option maxRecDepth 20000 in
theorem ggX6_foretell_X0_hasCase : GoodIn wsX6_foretell wsX0_hasCase := goodIn_r _ [9, 10, 11, 12, 13, 87, 88, 89, 90, 91, 92, 93, 94, 95, 96, 97, 98, 99, 100, 101, 102, 103] (by decide +kernel) (by decide +kernel)
set_option maxRecDepth 20000 in
theorem gX6_foretell_X0_hasCase : GoodIn wsX6_foretell (wsV RX6 149 RX0 yX0_hasCase wsX0_hasCase) := goodIn_app (goodIn_of _ (by decide +kernel)) ggX6_foretell_X0_hasCase
set_option maxRecDepth 20000 in
theorem ggX6_foretell_X0_hasJudge : GoodIn wsX6_foretell wsX0_hasJudge := goodIn_r _ [17, 18, 11, 12, 13, 87, 88, 89, 90, 91, 92, 93, 94, 95, 96, 97, 98, 99, 100, 101, 102, 103] (by decide +kernel) (by decide +kernel)
set_option maxRecDepth 20000 in
theorem gX6_foretell_X0_hasJudge : GoodIn wsX6_foretell (wsV RX6 162 RX0 yX0_hasJudge wsX0_hasJudge) := goodIn_app (goodIn_of _ (by decide +kernel)) ggX6_foretell_X0_hasJudge
set_option maxRecDepth 20000 in
theorem ggX6_foretell_X6_isIn : GoodIn wsX6_foretell wsX6_isIn := goodIn_r _ [13] (by decide +kernel) (by decide +kernel)
set_option maxRecDepth 20000 in
theorem gX6_foretell_X6_isIn : GoodIn wsX6_foretell (va_wsS RX6 72 yX6_isIn wsX6_isIn) := goodIn_app (goodIn_of _ (by decide +kernel)) ggX6_foretell_X6_isIn
set_option maxRecDepth 20000 in
theorem ggX6_foretell_X6_verdictNow : GoodIn wsX6_foretell wsX6_verdictNow := goodIn_r _ [23, 2, 24, 25, 26, 12, 27, 1, 28, 29, 30, 31, 32, 33, 34, 35, 36, 37, 38, 39, 40, 41, 42, 43, 44, 45, 46, 47, 48, 49, 50, 51, 52, 53, 54, 55, 56, 57, 58, 59, 60, 61, 62, 63, 64, 65, 66, 67, 68, 69, 70, 71, 72, 73, 74, 75, 76, 77, 78, 79, 80, 81, 82, 83, 84, 85, 86, 87, 88, 89, 90, 91, 92, 93, 94, 95, 96, 97, 98, 99, 100, 101, 102, 103] (by decide +kernel) (by decide +kernel)
set_option maxRecDepth 20000 in
theorem gX6_foretell_X6_verdictNow : GoodIn wsX6_foretell (wsV RX6 204 RX6 yX6_verdictNow wsX6_verdictNow) := goodIn_app (goodIn_of _ (by decide +kernel)) ggX6_foretell_X6_verdictNow
theorem dX6_foretell_0 : decode cX6_foretell 0 = .ok (.aload_n 0, 1) := by decide +kernel
theorem dX6_foretell_1 : decode cX6_foretell 1 = .ok (.getfield 12, 3) := by decide +kernel
theorem dX6_foretell_4 : decode cX6_foretell 4 = .ok (.iload_n 1, 1) := by decide +kernel
theorem dX6_foretell_5 : decode cX6_foretell 5 = .ok (.i2l, 1) := by decide +kernel
theorem dX6_foretell_6 : decode cX6_foretell 6 = .ok (.invokevirtual 149, 3) := by decide +kernel
theorem dX6_foretell_9 : decode cX6_foretell 9 = .ok (.ifCond .eq 24, 3) := by decide +kernel
theorem dX6_foretell_12 : decode cX6_foretell 12 = .ok (.aload_n 0, 1) := by decide +kernel
theorem dX6_foretell_13 : decode cX6_foretell 13 = .ok (.getfield 12, 3) := by decide +kernel
theorem dX6_foretell_16 : decode cX6_foretell 16 = .ok (.iload_n 2, 1) := by decide +kernel
theorem dX6_foretell_17 : decode cX6_foretell 17 = .ok (.invokevirtual 162, 3) := by decide +kernel
theorem dX6_foretell_20 : decode cX6_foretell 20 = .ok (.ifCond .eq 13, 3) := by decide +kernel
theorem dX6_foretell_23 : decode cX6_foretell 23 = .ok (.iload_n 3, 1) := by decide +kernel
theorem dX6_foretell_24 : decode cX6_foretell 24 = .ok (.i2l, 1) := by decide +kernel
theorem dX6_foretell_25 : decode cX6_foretell 25 = .ok (.iconst 0, 1) := by decide +kernel
theorem dX6_foretell_26 : decode cX6_foretell 26 = .ok (.iconst 2, 1) := by decide +kernel
theorem dX6_foretell_27 : decode cX6_foretell 27 = .ok (.invokestatic 72, 3) := by decide +kernel
theorem dX6_foretell_30 : decode cX6_foretell 30 = .ok (.ifCond .ne 5, 3) := by decide +kernel
theorem dX6_foretell_33 : decode cX6_foretell 33 = .ok (.iconst (-1), 1) := by decide +kernel
theorem dX6_foretell_34 : decode cX6_foretell 34 = .ok (.ireturn, 1) := by decide +kernel
theorem dX6_foretell_35 : decode cX6_foretell 35 = .ok (.aload_n 0, 1) := by decide +kernel
theorem dX6_foretell_36 : decode cX6_foretell 36 = .ok (.iload_n 1, 1) := by decide +kernel
theorem dX6_foretell_37 : decode cX6_foretell 37 = .ok (.iload_n 2, 1) := by decide +kernel
theorem dX6_foretell_38 : decode cX6_foretell 38 = .ok (.invokevirtual 204, 3) := by decide +kernel
theorem dX6_foretell_41 : decode cX6_foretell 41 = .ok (.istore 4, 2) := by decide +kernel
theorem dX6_foretell_43 : decode cX6_foretell 43 = .ok (.iload_n 3, 1) := by decide +kernel
theorem dX6_foretell_44 : decode cX6_foretell 44 = .ok (.ifCond .ne 6, 3) := by decide +kernel
theorem dX6_foretell_47 : decode cX6_foretell 47 = .ok (.iload 4, 2) := by decide +kernel
theorem dX6_foretell_49 : decode cX6_foretell 49 = .ok (.ireturn, 1) := by decide +kernel
theorem dX6_foretell_50 : decode cX6_foretell 50 = .ok (.iload_n 3, 1) := by decide +kernel
theorem dX6_foretell_51 : decode cX6_foretell 51 = .ok (.iconst 1, 1) := by decide +kernel
theorem dX6_foretell_52 : decode cX6_foretell 52 = .ok (.if_icmp .ne 13, 3) := by decide +kernel
theorem dX6_foretell_55 : decode cX6_foretell 55 = .ok (.aload_n 0, 1) := by decide +kernel
theorem dX6_foretell_56 : decode cX6_foretell 56 = .ok (.getfield 36, 3) := by decide +kernel
theorem dX6_foretell_59 : decode cX6_foretell 59 = .ok (.getfield 207, 3) := by decide +kernel
theorem dX6_foretell_62 : decode cX6_foretell 62 = .ok (.goto 22, 3) := by decide +kernel
theorem dX6_foretell_65 : decode cX6_foretell 65 = .ok (.aload_n 0, 1) := by decide +kernel
theorem dX6_foretell_66 : decode cX6_foretell 66 = .ok (.getfield 36, 3) := by decide +kernel
theorem dX6_foretell_69 : decode cX6_foretell 69 = .ok (.getfield 209, 3) := by decide +kernel
theorem dX6_foretell_72 : decode cX6_foretell 72 = .ok (.iconst 0, 1) := by decide +kernel
theorem dX6_foretell_73 : decode cX6_foretell 73 = .ok (.iaload, 1) := by decide +kernel
theorem dX6_foretell_74 : decode cX6_foretell 74 = .ok (.aload_n 0, 1) := by decide +kernel
theorem dX6_foretell_75 : decode cX6_foretell 75 = .ok (.getfield 36, 3) := by decide +kernel
theorem dX6_foretell_78 : decode cX6_foretell 78 = .ok (.getfield 209, 3) := by decide +kernel
theorem dX6_foretell_81 : decode cX6_foretell 81 = .ok (.iconst 1, 1) := by decide +kernel
theorem dX6_foretell_82 : decode cX6_foretell 82 = .ok (.iaload, 1) := by decide +kernel
theorem dX6_foretell_83 : decode cX6_foretell 83 = .ok (.iadd, 1) := by decide +kernel
theorem dX6_foretell_84 : decode cX6_foretell 84 = .ok (.ireturn, 1) := by decide +kernel
set_option maxRecDepth 20000 in
theorem ggX6_runs_X6_isIn : GoodIn wsX6_runs wsX6_isIn := goodIn_r _ [11] (by decide +kernel) (by decide +kernel)
set_option maxRecDepth 20000 in
theorem gX6_runs_X6_isIn : GoodIn wsX6_runs (va_wsS RX6 72 yX6_isIn wsX6_isIn) := goodIn_app (goodIn_of _ (by decide +kernel)) ggX6_runs_X6_isIn
set_option maxRecDepth 20000 in
theorem ggX6_runs_X3_goByDocket : GoodIn wsX6_runs wsX3_goByDocket := goodIn_r _ [16, 17, 18, 19, 20, 21, 22, 23, 24, 25, 10, 26, 27, 28, 29, 30, 31, 32, 33, 34, 35, 36, 37, 38, 39, 40, 41, 42, 43, 44, 45, 46, 47, 48, 49, 50, 51, 52, 53, 54, 55, 56, 57, 58, 59, 60, 61, 62, 63, 64, 65, 66, 67, 68, 69, 70, 71, 72, 73, 92, 93, 94, 95, 96, 97, 98, 99, 100, 101, 102, 103, 104, 105, 106, 107, 108, 89, 90, 91, 109, 110, 111, 112, 113, 114, 115] (by decide +kernel) (by decide +kernel)
set_option maxRecDepth 20000 in
theorem gX6_runs_X3_goByDocket : GoodIn wsX6_runs (wsV RX6 210 RX3 yX3_goByDocket wsX3_goByDocket) := goodIn_app (goodIn_of _ (by decide +kernel)) ggX6_runs_X3_goByDocket
set_option maxRecDepth 20000 in
theorem ggX6_runs_X6_bitsOf : GoodIn wsX6_runs wsX6_bitsOf := goodIn_r _ [76] (by decide +kernel) (by decide +kernel)
set_option maxRecDepth 20000 in
theorem gX6_runs_X6_bitsOf : GoodIn wsX6_runs (va_wsS RX6 125 yX6_bitsOf wsX6_bitsOf) := goodIn_app (goodIn_of _ (by decide +kernel)) ggX6_runs_X6_bitsOf
theorem dX6_runs_0 : decode cX6_runs 0 = .ok (.iload_n 1, 1) := by decide +kernel
theorem dX6_runs_1 : decode cX6_runs 1 = .ok (.i2l, 1) := by decide +kernel
theorem dX6_runs_2 : decode cX6_runs 2 = .ok (.iconst 0, 1) := by decide +kernel
theorem dX6_runs_3 : decode cX6_runs 3 = .ok (.iconst 4, 1) := by decide +kernel
theorem dX6_runs_4 : decode cX6_runs 4 = .ok (.invokestatic 72, 3) := by decide +kernel
theorem dX6_runs_7 : decode cX6_runs 7 = .ok (.ifCond .ne 5, 3) := by decide +kernel
theorem dX6_runs_10 : decode cX6_runs 10 = .ok (.iconst (-1), 1) := by decide +kernel
theorem dX6_runs_11 : decode cX6_runs 11 = .ok (.ireturn, 1) := by decide +kernel
theorem dX6_runs_12 : decode cX6_runs 12 = .ok (.aload_n 0, 1) := by decide +kernel
theorem dX6_runs_13 : decode cX6_runs 13 = .ok (.getfield 43, 3) := by decide +kernel
theorem dX6_runs_16 : decode cX6_runs 16 = .ok (.aload_n 0, 1) := by decide +kernel
theorem dX6_runs_17 : decode cX6_runs 17 = .ok (.getfield 12, 3) := by decide +kernel
theorem dX6_runs_20 : decode cX6_runs 20 = .ok (.aload_n 0, 1) := by decide +kernel
theorem dX6_runs_21 : decode cX6_runs 21 = .ok (.getfield 36, 3) := by decide +kernel
theorem dX6_runs_24 : decode cX6_runs 24 = .ok (.iconst 0, 1) := by decide +kernel
theorem dX6_runs_25 : decode cX6_runs 25 = .ok (.invokevirtual 210, 3) := by decide +kernel
theorem dX6_runs_28 : decode cX6_runs 28 = .ok (.iload_n 1, 1) := by decide +kernel
theorem dX6_runs_29 : decode cX6_runs 29 = .ok (.iconst 3, 1) := by decide +kernel
theorem dX6_runs_30 : decode cX6_runs 30 = .ok (.if_icmp .ne 11, 3) := by decide +kernel
theorem dX6_runs_33 : decode cX6_runs 33 = .ok (.aload_n 0, 1) := by decide +kernel
theorem dX6_runs_34 : decode cX6_runs 34 = .ok (.getfield 43, 3) := by decide +kernel
theorem dX6_runs_37 : decode cX6_runs 37 = .ok (.getfield 214, 3) := by decide +kernel
theorem dX6_runs_40 : decode cX6_runs 40 = .ok (.ireturn, 1) := by decide +kernel
theorem dX6_runs_41 : decode cX6_runs 41 = .ok (.iload_n 1, 1) := by decide +kernel
theorem dX6_runs_42 : decode cX6_runs 42 = .ok (.iconst 4, 1) := by decide +kernel
theorem dX6_runs_43 : decode cX6_runs 43 = .ok (.if_icmp .ne 13, 3) := by decide +kernel
theorem dX6_runs_46 : decode cX6_runs 46 = .ok (.aload_n 0, 1) := by decide +kernel
theorem dX6_runs_47 : decode cX6_runs 47 = .ok (.getfield 43, 3) := by decide +kernel
theorem dX6_runs_50 : decode cX6_runs 50 = .ok (.getfield 217, 3) := by decide +kernel
theorem dX6_runs_53 : decode cX6_runs 53 = .ok (.goto 23, 3) := by decide +kernel
theorem dX6_runs_56 : decode cX6_runs 56 = .ok (.aload_n 0, 1) := by decide +kernel
theorem dX6_runs_57 : decode cX6_runs 57 = .ok (.getfield 43, 3) := by decide +kernel
theorem dX6_runs_60 : decode cX6_runs 60 = .ok (.getfield 220, 3) := by decide +kernel
theorem dX6_runs_63 : decode cX6_runs 63 = .ok (.aload_n 0, 1) := by decide +kernel
theorem dX6_runs_64 : decode cX6_runs 64 = .ok (.getfield 12, 3) := by decide +kernel
theorem dX6_runs_67 : decode cX6_runs 67 = .ok (.getfield 110, 3) := by decide +kernel
theorem dX6_runs_70 : decode cX6_runs 70 = .ok (.iload_n 1, 1) := by decide +kernel
theorem dX6_runs_71 : decode cX6_runs 71 = .ok (.iconst 1, 1) := by decide +kernel
theorem dX6_runs_72 : decode cX6_runs 72 = .ok (.iadd, 1) := by decide +kernel
theorem dX6_runs_73 : decode cX6_runs 73 = .ok (.invokestatic 125, 3) := by decide +kernel
theorem dX6_runs_76 : decode cX6_runs 76 = .ok (.ireturn, 1) := by decide +kernel
set_option maxRecDepth 20000 in
theorem ggX6_ahead_X0_hasCase : GoodIn wsX6_ahead wsX0_hasCase := goodIn_r _ [9, 10, 11, 12, 13, 91, 92, 93, 94, 95, 96, 97, 98, 99, 100, 101, 102, 103, 104, 105, 106, 107] (by decide +kernel) (by decide +kernel)
set_option maxRecDepth 20000 in
theorem gX6_ahead_X0_hasCase : GoodIn wsX6_ahead (wsV RX6 149 RX0 yX0_hasCase wsX0_hasCase) := goodIn_app (goodIn_of _ (by decide +kernel)) ggX6_ahead_X0_hasCase
set_option maxRecDepth 20000 in
theorem ggX6_ahead_X3_goByDocket : GoodIn wsX6_ahead wsX3_goByDocket := goodIn_r _ [18, 19, 20, 21, 22, 23, 24, 25, 26, 27, 12, 28, 29, 30, 31, 32, 33, 34, 35, 36, 37, 38, 39, 40, 41, 42, 43, 44, 45, 46, 47, 48, 49, 50, 51, 52, 53, 54, 55, 56, 57, 58, 59, 60, 61, 62, 63, 64, 65, 66, 67, 68, 69, 70, 71, 72, 73, 74, 75, 91, 92, 93, 94, 95, 96, 97, 98, 99, 100, 101, 102, 103, 104, 105, 106, 107, 88, 89, 90, 108, 109, 110, 111, 112, 113, 114] (by decide +kernel) (by decide +kernel)
set_option maxRecDepth 20000 in
theorem gX6_ahead_X3_goByDocket : GoodIn wsX6_ahead (wsV RX6 210 RX3 yX3_goByDocket wsX3_goByDocket) := goodIn_app (goodIn_of _ (by decide +kernel)) ggX6_ahead_X3_goByDocket
theorem dX6_ahead_0 : decode cX6_ahead 0 = .ok (.aload_n 0, 1) := by decide +kernel
theorem dX6_ahead_1 : decode cX6_ahead 1 = .ok (.getfield 12, 3) := by decide +kernel
theorem dX6_ahead_4 : decode cX6_ahead 4 = .ok (.iload_n 1, 1) := by decide +kernel
theorem dX6_ahead_5 : decode cX6_ahead 5 = .ok (.i2l, 1) := by decide +kernel
theorem dX6_ahead_6 : decode cX6_ahead 6 = .ok (.invokevirtual 149, 3) := by decide +kernel
theorem dX6_ahead_9 : decode cX6_ahead 9 = .ok (.ifCond .ne 5, 3) := by decide +kernel
theorem dX6_ahead_12 : decode cX6_ahead 12 = .ok (.iconst (-1), 1) := by decide +kernel
theorem dX6_ahead_13 : decode cX6_ahead 13 = .ok (.ireturn, 1) := by decide +kernel
theorem dX6_ahead_14 : decode cX6_ahead 14 = .ok (.aload_n 0, 1) := by decide +kernel
theorem dX6_ahead_15 : decode cX6_ahead 15 = .ok (.getfield 43, 3) := by decide +kernel
theorem dX6_ahead_18 : decode cX6_ahead 18 = .ok (.aload_n 0, 1) := by decide +kernel
theorem dX6_ahead_19 : decode cX6_ahead 19 = .ok (.getfield 12, 3) := by decide +kernel
theorem dX6_ahead_22 : decode cX6_ahead 22 = .ok (.aload_n 0, 1) := by decide +kernel
theorem dX6_ahead_23 : decode cX6_ahead 23 = .ok (.getfield 36, 3) := by decide +kernel
theorem dX6_ahead_26 : decode cX6_ahead 26 = .ok (.iconst 0, 1) := by decide +kernel
theorem dX6_ahead_27 : decode cX6_ahead 27 = .ok (.invokevirtual 210, 3) := by decide +kernel
theorem dX6_ahead_30 : decode cX6_ahead 30 = .ok (.aload_n 0, 1) := by decide +kernel
theorem dX6_ahead_31 : decode cX6_ahead 31 = .ok (.getfield 43, 3) := by decide +kernel
theorem dX6_ahead_34 : decode cX6_ahead 34 = .ok (.getfield 220, 3) := by decide +kernel
theorem dX6_ahead_37 : decode cX6_ahead 37 = .ok (.iload_n 1, 1) := by decide +kernel
theorem dX6_ahead_38 : decode cX6_ahead 38 = .ok (.iaload, 1) := by decide +kernel
theorem dX6_ahead_39 : decode cX6_ahead 39 = .ok (.ireturn, 1) := by decide +kernel
set_option maxRecDepth 20000 in
theorem ggX6_friends_X6_isFlame : GoodIn wsX6_friends wsX6_isFlame := goodIn_r _ [5, 6, 7, 8, 9, 10, 11, 12, 13, 4, 14, 15, 16, 17, 18, 73, 74, 75, 76, 77, 78, 79, 80, 81, 82, 83, 84, 85, 86, 87, 88, 89, 90, 91, 92, 93, 94, 95, 96, 97, 98, 99, 100, 101] (by decide +kernel) (by decide +kernel)
set_option maxRecDepth 20000 in
theorem gX6_friends_X6_isFlame : GoodIn wsX6_friends (wsV RX6 136 RX6 yX6_isFlame wsX6_isFlame) := goodIn_app (goodIn_of _ (by decide +kernel)) ggX6_friends_X6_isFlame
set_option maxRecDepth 20000 in
theorem ggX6_friends_X6_judgesFor : GoodIn wsX6_friends wsX6_judgesFor := goodIn_r _ [22, 6, 23, 24, 25, 26, 4, 27, 28, 29, 30, 31, 32, 33, 34, 35, 36, 37, 38, 39, 40, 41, 42, 43, 44, 45, 46, 47, 48, 49, 50, 51, 52, 53, 54, 55, 56, 57, 58, 59, 60, 61, 62, 63, 64, 65, 66, 67, 68, 69, 70, 71, 72, 73, 74, 75, 76, 77, 78, 79, 80, 81, 82, 83, 84, 85, 86, 87, 88, 89, 90, 91, 92, 93, 94, 95, 96, 97, 98, 99, 100, 101, 102, 103, 104, 105, 106, 107, 108] (by decide +kernel) (by decide +kernel)
set_option maxRecDepth 20000 in
theorem gX6_friends_X6_judgesFor : GoodIn wsX6_friends (wsV RX6 221 RX6 yX6_judgesFor wsX6_judgesFor) := goodIn_app (goodIn_of _ (by decide +kernel)) ggX6_friends_X6_judgesFor
theorem dX6_friends_0 : decode cX6_friends 0 = .ok (.aload_n 0, 1) := by decide +kernel
theorem dX6_friends_1 : decode cX6_friends 1 = .ok (.iload_n 1, 1) := by decide +kernel
theorem dX6_friends_2 : decode cX6_friends 2 = .ok (.iload_n 2, 1) := by decide +kernel
theorem dX6_friends_3 : decode cX6_friends 3 = .ok (.invokevirtual 136, 3) := by decide +kernel
theorem dX6_friends_6 : decode cX6_friends 6 = .ok (.ifCond .eq 12, 3) := by decide +kernel
theorem dX6_friends_9 : decode cX6_friends 9 = .ok (.aload_n 0, 1) := by decide +kernel
theorem dX6_friends_10 : decode cX6_friends 10 = .ok (.iload_n 1, 1) := by decide +kernel
theorem dX6_friends_11 : decode cX6_friends 11 = .ok (.iload_n 2, 1) := by decide +kernel
theorem dX6_friends_12 : decode cX6_friends 12 = .ok (.invokevirtual 221, 3) := by decide +kernel
theorem dX6_friends_15 : decode cX6_friends 15 = .ok (.goto 4, 3) := by decide +kernel
theorem dX6_friends_18 : decode cX6_friends 18 = .ok (.iconst (-1), 1) := by decide +kernel
theorem dX6_friends_19 : decode cX6_friends 19 = .ok (.ireturn, 1) := by decide +kernel
set_option maxRecDepth 20000 in
theorem ggX6_wax_X6_firstThatWins : GoodIn wsX6_wax wsX6_firstThatWins := goodIn_r _ [5, 6, 7, 8, 9, 10, 11, 4, 12, 13, 14, 15, 16, 17, 18, 19, 20, 21, 22, 23, 24, 25, 26, 27, 28, 29, 30, 31, 32, 33, 34, 35, 36, 37, 38, 39, 40, 41, 42, 43, 44, 45, 46, 47, 48, 49, 50, 51, 52, 53, 54, 55, 56, 57, 58, 59, 60, 61, 62, 63, 64, 65, 66, 67, 68, 69, 70, 71, 72, 73, 74, 75, 76, 77, 78, 79, 80, 81, 82, 83, 84, 85, 86, 87, 88, 89, 90, 91, 92, 93, 94, 95, 96, 97, 98, 99, 100, 101, 102, 103, 104, 105, 106, 107, 108, 109, 110, 111, 112, 113] (by decide +kernel) (by decide +kernel)
set_option maxRecDepth 20000 in
theorem gX6_wax_X6_firstThatWins : GoodIn wsX6_wax (wsV RX6 224 RX6 yX6_firstThatWins wsX6_firstThatWins) := goodIn_app (goodIn_of _ (by decide +kernel)) ggX6_wax_X6_firstThatWins
theorem dX6_wax_0 : decode cX6_wax 0 = .ok (.aload_n 0, 1) := by decide +kernel
theorem dX6_wax_1 : decode cX6_wax 1 = .ok (.iload_n 1, 1) := by decide +kernel
theorem dX6_wax_2 : decode cX6_wax 2 = .ok (.iload_n 2, 1) := by decide +kernel
theorem dX6_wax_3 : decode cX6_wax 3 = .ok (.iload_n 3, 1) := by decide +kernel
theorem dX6_wax_4 : decode cX6_wax 4 = .ok (.iconst 0, 1) := by decide +kernel
theorem dX6_wax_5 : decode cX6_wax 5 = .ok (.invokevirtual 224, 3) := by decide +kernel
theorem dX6_wax_8 : decode cX6_wax 8 = .ok (.ireturn, 1) := by decide +kernel
set_option maxRecDepth 20000 in
theorem ggX6_least_X6_firstThatWins : GoodIn wsX6_least wsX6_firstThatWins := goodIn_r _ [5, 6, 7, 8, 9, 10, 11, 4, 12, 13, 14, 15, 16, 17, 18, 19, 20, 21, 22, 23, 24, 25, 26, 27, 28, 29, 30, 31, 32, 33, 34, 35, 36, 37, 38, 39, 40, 41, 42, 43, 44, 45, 46, 47, 48, 49, 50, 51, 52, 53, 54, 55, 56, 57, 58, 59, 60, 61, 62, 63, 64, 65, 66, 67, 68, 69, 70, 71, 72, 73, 74, 75, 76, 77, 78, 79, 80, 81, 82, 83, 84, 85, 86, 87, 88, 89, 90, 91, 92, 93, 94, 95, 96, 97, 98, 99, 100, 101, 102, 103, 104, 105, 106, 107, 108, 109, 110, 111, 112, 113] (by decide +kernel) (by decide +kernel)
set_option maxRecDepth 20000 in
theorem gX6_least_X6_firstThatWins : GoodIn wsX6_least (wsV RX6 224 RX6 yX6_firstThatWins wsX6_firstThatWins) := goodIn_app (goodIn_of _ (by decide +kernel)) ggX6_least_X6_firstThatWins
theorem dX6_least_0 : decode cX6_least 0 = .ok (.aload_n 0, 1) := by decide +kernel
theorem dX6_least_1 : decode cX6_least 1 = .ok (.iload_n 1, 1) := by decide +kernel
theorem dX6_least_2 : decode cX6_least 2 = .ok (.iload_n 2, 1) := by decide +kernel
theorem dX6_least_3 : decode cX6_least 3 = .ok (.iload_n 3, 1) := by decide +kernel
theorem dX6_least_4 : decode cX6_least 4 = .ok (.iconst 1, 1) := by decide +kernel
theorem dX6_least_5 : decode cX6_least 5 = .ok (.invokevirtual 224, 3) := by decide +kernel
theorem dX6_least_8 : decode cX6_least 8 = .ok (.ireturn, 1) := by decide +kernel
set_option maxRecDepth 20000 in
theorem ggX6_hand_X6_firstThatWins : GoodIn wsX6_hand wsX6_firstThatWins := goodIn_r _ [5, 6, 7, 8, 9, 10, 11, 4, 12, 13, 14, 15, 16, 17, 18, 19, 20, 21, 22, 23, 24, 25, 26, 27, 28, 29, 30, 31, 32, 33, 34, 35, 36, 37, 38, 39, 40, 41, 42, 43, 44, 45, 46, 47, 48, 49, 50, 51, 52, 53, 54, 55, 56, 57, 58, 59, 60, 61, 62, 63, 64, 65, 66, 67, 68, 69, 70, 71, 72, 73, 74, 75, 76, 77, 78, 79, 80, 81, 82, 83, 84, 85, 86, 87, 88, 89, 90, 91, 92, 93, 94, 95, 96, 97, 98, 99, 100, 101, 102, 103, 104, 105, 106, 107, 108, 109, 110, 111, 112, 113] (by decide +kernel) (by decide +kernel)
set_option maxRecDepth 20000 in
theorem gX6_hand_X6_firstThatWins : GoodIn wsX6_hand (wsV RX6 224 RX6 yX6_firstThatWins wsX6_firstThatWins) := goodIn_app (goodIn_of _ (by decide +kernel)) ggX6_hand_X6_firstThatWins
theorem dX6_hand_0 : decode cX6_hand 0 = .ok (.aload_n 0, 1) := by decide +kernel
theorem dX6_hand_1 : decode cX6_hand 1 = .ok (.iload_n 1, 1) := by decide +kernel
theorem dX6_hand_2 : decode cX6_hand 2 = .ok (.iload_n 2, 1) := by decide +kernel
theorem dX6_hand_3 : decode cX6_hand 3 = .ok (.iload_n 3, 1) := by decide +kernel
theorem dX6_hand_4 : decode cX6_hand 4 = .ok (.iconst 2, 1) := by decide +kernel
theorem dX6_hand_5 : decode cX6_hand 5 = .ok (.invokevirtual 224, 3) := by decide +kernel
theorem dX6_hand_8 : decode cX6_hand 8 = .ok (.ireturn, 1) := by decide +kernel
set_option maxRecDepth 20000 in
theorem ggX6_turn_X0_hasCase : GoodIn wsX6_turn wsX0_hasCase := goodIn_r _ [7, 8, 9, 10, 11, 79, 80, 81, 82, 83, 84, 85, 86, 87, 88, 89, 90, 91, 92, 93, 94, 95] (by decide +kernel) (by decide +kernel)
set_option maxRecDepth 20000 in
theorem gX6_turn_X0_hasCase : GoodIn wsX6_turn (wsV RX6 149 RX0 yX0_hasCase wsX0_hasCase) := goodIn_app (goodIn_of _ (by decide +kernel)) ggX6_turn_X0_hasCase
set_option maxRecDepth 20000 in
theorem ggX6_turn_X0_hasJudge : GoodIn wsX6_turn wsX0_hasJudge := goodIn_r _ [15, 16, 9, 10, 11, 79, 80, 81, 82, 83, 84, 85, 86, 87, 88, 89, 90, 91, 92, 93, 94, 95] (by decide +kernel) (by decide +kernel)
set_option maxRecDepth 20000 in
theorem gX6_turn_X0_hasJudge : GoodIn wsX6_turn (wsV RX6 162 RX0 yX0_hasJudge wsX0_hasJudge) := goodIn_app (goodIn_of _ (by decide +kernel)) ggX6_turn_X0_hasJudge
set_option maxRecDepth 20000 in
theorem ggX6_turn_X6_isIn : GoodIn wsX6_turn wsX6_isIn := goodIn_r _ [11] (by decide +kernel) (by decide +kernel)
set_option maxRecDepth 20000 in
theorem gX6_turn_X6_isIn : GoodIn wsX6_turn (va_wsS RX6 72 yX6_isIn wsX6_isIn) := goodIn_app (goodIn_of _ (by decide +kernel)) ggX6_turn_X6_isIn
set_option maxRecDepth 20000 in
theorem ggX6_turn_X6_verdictNow : GoodIn wsX6_turn wsX6_verdictNow := goodIn_r _ [21, 2, 22, 23, 24, 10, 25, 1, 26, 27, 28, 29, 30, 31, 32, 33, 34, 35, 36, 37, 38, 39, 40, 41, 42, 43, 44, 45, 46, 47, 48, 49, 50, 51, 52, 53, 54, 55, 56, 57, 58, 59, 60, 61, 62, 63, 64, 65, 67, 68, 69, 70, 71, 72, 73, 74, 75, 76, 77, 78, 96, 97, 98, 99, 100, 101, 102, 79, 80, 81, 82, 83, 84, 85, 86, 87, 88, 89, 90, 91, 92, 93, 94, 95] (by decide +kernel) (by decide +kernel)
set_option maxRecDepth 20000 in
theorem gX6_turn_X6_verdictNow : GoodIn wsX6_turn (wsV RX6 204 RX6 yX6_verdictNow wsX6_verdictNow) := goodIn_app (goodIn_of _ (by decide +kernel)) ggX6_turn_X6_verdictNow
set_option maxRecDepth 20000 in
theorem ggX6_turn_X6_prepare : GoodIn wsX6_turn wsX6_prepare := goodIn_r _ [25, 2, 1, 26, 27, 28, 29, 30, 31, 32, 33, 34, 35, 36, 37, 38, 39, 40, 41, 42, 43, 44, 45, 46, 47, 48, 49, 50, 51, 52, 67, 68, 69, 70, 71, 72, 73, 74, 75, 76, 77, 78, 96, 97, 98, 99, 100, 101, 102, 79, 80, 81, 82, 83, 84, 85, 86, 87, 88, 89, 90, 91, 92, 93, 94, 95] (by decide +kernel) (by decide +kernel)
set_option maxRecDepth 20000 in
theorem gX6_turn_X6_prepare : GoodIn wsX6_turn (wsV RX6 228 RX6 yX6_prepare wsX6_prepare) := goodIn_app (goodIn_of _ (by decide +kernel)) ggX6_turn_X6_prepare
set_option maxRecDepth 20000 in
theorem ggX6_turn_X5_blows : GoodIn wsX6_turn wsX5_blows := goodIn_r _ [48, 41, 49, 50, 51, 52, 96, 97, 98, 99, 100, 101, 102] (by decide +kernel) (by decide +kernel)
set_option maxRecDepth 20000 in
theorem gX6_turn_X5_blows : GoodIn wsX6_turn (wsV RX6 232 RX5 yX5_blows wsX5_blows) := goodIn_app (goodIn_of _ (by decide +kernel)) ggX6_turn_X5_blows
set_option maxRecDepth 20000 in
theorem ggX6_turn_X5_verdictHeld : GoodIn wsX6_turn wsX5_verdictHeld := goodIn_r _ [56, 57, 40, 33, 31, 49, 50, 51, 52, 58, 59, 60, 29, 61, 35, 41, 62, 63, 64, 65, 38, 96, 97, 98, 99, 100, 101, 102] (by decide +kernel) (by decide +kernel)
set_option maxRecDepth 20000 in
theorem gX6_turn_X5_verdictHeld : GoodIn wsX6_turn (wsV RX6 236 RX5 yX5_verdictHeld wsX5_verdictHeld) := goodIn_app (goodIn_of _ (by decide +kernel)) ggX6_turn_X5_verdictHeld
theorem dX6_turn_0 : decode cX6_turn 0 = .ok (.aload_n 0, 1) := by decide +kernel
theorem dX6_turn_1 : decode cX6_turn 1 = .ok (.getfield 12, 3) := by decide +kernel
theorem dX6_turn_4 : decode cX6_turn 4 = .ok (.iload_n 1, 1) := by decide +kernel
theorem dX6_turn_5 : decode cX6_turn 5 = .ok (.i2l, 1) := by decide +kernel
theorem dX6_turn_6 : decode cX6_turn 6 = .ok (.invokevirtual 149, 3) := by decide +kernel
theorem dX6_turn_9 : decode cX6_turn 9 = .ok (.ifCond .eq 25, 3) := by decide +kernel
theorem dX6_turn_12 : decode cX6_turn 12 = .ok (.aload_n 0, 1) := by decide +kernel
theorem dX6_turn_13 : decode cX6_turn 13 = .ok (.getfield 12, 3) := by decide +kernel
theorem dX6_turn_16 : decode cX6_turn 16 = .ok (.iload_n 2, 1) := by decide +kernel
theorem dX6_turn_17 : decode cX6_turn 17 = .ok (.invokevirtual 162, 3) := by decide +kernel
theorem dX6_turn_20 : decode cX6_turn 20 = .ok (.ifCond .eq 14, 3) := by decide +kernel
theorem dX6_turn_23 : decode cX6_turn 23 = .ok (.iload_n 3, 1) := by decide +kernel
theorem dX6_turn_24 : decode cX6_turn 24 = .ok (.i2l, 1) := by decide +kernel
theorem dX6_turn_25 : decode cX6_turn 25 = .ok (.iconst 1, 1) := by decide +kernel
theorem dX6_turn_26 : decode cX6_turn 26 = .ok (.bipush 9, 2) := by decide +kernel
theorem dX6_turn_28 : decode cX6_turn 28 = .ok (.invokestatic 72, 3) := by decide +kernel
theorem dX6_turn_31 : decode cX6_turn 31 = .ok (.ifCond .ne 5, 3) := by decide +kernel
theorem dX6_turn_34 : decode cX6_turn 34 = .ok (.iconst (-1), 1) := by decide +kernel
theorem dX6_turn_35 : decode cX6_turn 35 = .ok (.ireturn, 1) := by decide +kernel
theorem dX6_turn_36 : decode cX6_turn 36 = .ok (.aload_n 0, 1) := by decide +kernel
theorem dX6_turn_37 : decode cX6_turn 37 = .ok (.iload_n 1, 1) := by decide +kernel
theorem dX6_turn_38 : decode cX6_turn 38 = .ok (.iload_n 2, 1) := by decide +kernel
theorem dX6_turn_39 : decode cX6_turn 39 = .ok (.invokevirtual 204, 3) := by decide +kernel
theorem dX6_turn_42 : decode cX6_turn 42 = .ok (.istore 4, 2) := by decide +kernel
theorem dX6_turn_44 : decode cX6_turn 44 = .ok (.iconst 0, 1) := by decide +kernel
theorem dX6_turn_45 : decode cX6_turn 45 = .ok (.istore 5, 2) := by decide +kernel
theorem dX6_turn_47 : decode cX6_turn 47 = .ok (.iload 5, 2) := by decide +kernel
theorem dX6_turn_49 : decode cX6_turn 49 = .ok (.bipush 20, 2) := by decide +kernel
theorem dX6_turn_51 : decode cX6_turn 51 = .ok (.if_icmp .gt 41, 3) := by decide +kernel
theorem dX6_turn_54 : decode cX6_turn 54 = .ok (.aload_n 0, 1) := by decide +kernel
theorem dX6_turn_55 : decode cX6_turn 55 = .ok (.iload_n 1, 1) := by decide +kernel
theorem dX6_turn_56 : decode cX6_turn 56 = .ok (.iload_n 2, 1) := by decide +kernel
theorem dX6_turn_57 : decode cX6_turn 57 = .ok (.iconst 0, 1) := by decide +kernel
theorem dX6_turn_58 : decode cX6_turn 58 = .ok (.invokevirtual 228, 3) := by decide +kernel
theorem dX6_turn_61 : decode cX6_turn 61 = .ok (.aload_n 0, 1) := by decide +kernel
theorem dX6_turn_62 : decode cX6_turn 62 = .ok (.getfield 36, 3) := by decide +kernel
theorem dX6_turn_65 : decode cX6_turn 65 = .ok (.iload 5, 2) := by decide +kernel
theorem dX6_turn_67 : decode cX6_turn 67 = .ok (.iload_n 3, 1) := by decide +kernel
theorem dX6_turn_68 : decode cX6_turn 68 = .ok (.invokevirtual 232, 3) := by decide +kernel
theorem dX6_turn_71 : decode cX6_turn 71 = .ok (.aload_n 0, 1) := by decide +kernel
theorem dX6_turn_72 : decode cX6_turn 72 = .ok (.getfield 36, 3) := by decide +kernel
theorem dX6_turn_75 : decode cX6_turn 75 = .ok (.invokevirtual 236, 3) := by decide +kernel
theorem dX6_turn_78 : decode cX6_turn 78 = .ok (.iload 4, 2) := by decide +kernel
theorem dX6_turn_80 : decode cX6_turn 80 = .ok (.if_icmp .eq 6, 3) := by decide +kernel
theorem dX6_turn_83 : decode cX6_turn 83 = .ok (.iload 5, 2) := by decide +kernel
theorem dX6_turn_85 : decode cX6_turn 85 = .ok (.ireturn, 1) := by decide +kernel
theorem dX6_turn_86 : decode cX6_turn 86 = .ok (.iinc 5 1, 3) := by decide +kernel
theorem dX6_turn_89 : decode cX6_turn 89 = .ok (.goto (-42), 3) := by decide +kernel
theorem dX6_turn_92 : decode cX6_turn 92 = .ok (.bipush (-4), 2) := by decide +kernel
theorem dX6_turn_94 : decode cX6_turn 94 = .ok (.ireturn, 1) := by decide +kernel
set_option maxRecDepth 20000 in
theorem ggX6_sure_X6_isFlame : GoodIn wsX6_sure wsX6_isFlame := goodIn_r _ [6, 1, 7, 8, 9, 10, 11, 12, 13, 5, 14, 15, 16, 17, 18, 82, 83, 84, 85, 86, 87, 88, 89, 90, 91, 92, 93, 94, 95, 96, 97, 98, 99, 100, 101, 102, 103, 104, 105, 106, 107, 108, 109, 110] (by decide +kernel) (by decide +kernel)
set_option maxRecDepth 20000 in
theorem gX6_sure_X6_isFlame : GoodIn wsX6_sure (wsV RX6 136 RX6 yX6_isFlame wsX6_isFlame) := goodIn_app (goodIn_of _ (by decide +kernel)) ggX6_sure_X6_isFlame
set_option maxRecDepth 20000 in
theorem ggX6_sure_X0_hasJudge : GoodIn wsX6_sure wsX0_hasJudge := goodIn_r _ [22, 23, 13, 5, 14, 94, 95, 96, 97, 98, 99, 100, 101, 102, 103, 104, 105, 106, 107, 108, 109, 110] (by decide +kernel) (by decide +kernel)
set_option maxRecDepth 20000 in
theorem gX6_sure_X0_hasJudge : GoodIn wsX6_sure (wsV RX6 162 RX0 yX0_hasJudge wsX0_hasJudge) := goodIn_app (goodIn_of _ (by decide +kernel)) ggX6_sure_X0_hasJudge
set_option maxRecDepth 20000 in
theorem ggX6_sure_X6_fillVerdictsByGuards : GoodIn wsX6_sure wsX6_fillVerdictsByGuards := goodIn_r _ [27, 28, 29, 30, 31, 32, 5, 33, 1, 34, 35, 36, 37, 38, 39, 40, 41, 42, 43, 44, 45, 46, 47, 48, 49, 50, 51, 52, 53, 54, 55, 56, 57, 58, 59, 60, 61, 62, 63, 64, 65, 66, 67, 68, 69, 70, 71, 72, 73, 74, 75, 76, 77, 82, 83, 84, 85, 86, 87, 88, 89, 90, 91, 92, 93, 111, 112, 113, 114, 115, 116, 117, 94, 95, 96, 97, 98, 99, 100, 101, 102, 103, 104, 105, 106, 107, 108, 109, 110] (by decide +kernel) (by decide +kernel)
set_option maxRecDepth 20000 in
theorem gX6_sure_X6_fillVerdictsByGuards : GoodIn wsX6_sure (wsV RX6 240 RX6 yX6_fillVerdictsByGuards wsX6_fillVerdictsByGuards) := goodIn_app (goodIn_of _ (by decide +kernel)) ggX6_sure_X6_fillVerdictsByGuards
set_option maxRecDepth 20000 in
theorem ggX6_sure_X6_winsWhateverTheOther : GoodIn wsX6_sure wsX6_winsWhateverTheOther := goodIn_r _ [81, 29, 82, 83, 84, 85, 86, 87, 88, 89, 90, 91, 92, 93] (by decide +kernel) (by decide +kernel)
set_option maxRecDepth 20000 in
theorem gX6_sure_X6_winsWhateverTheOther : GoodIn wsX6_sure (wsV RX6 243 RX6 yX6_winsWhateverTheOther wsX6_winsWhateverTheOther) := goodIn_app (goodIn_of _ (by decide +kernel)) ggX6_sure_X6_winsWhateverTheOther
theorem dX6_sure_0 : decode cX6_sure 0 = .ok (.aload_n 0, 1) := by decide +kernel
theorem dX6_sure_1 : decode cX6_sure 1 = .ok (.iload_n 1, 1) := by decide +kernel
theorem dX6_sure_2 : decode cX6_sure 2 = .ok (.iload_n 2, 1) := by decide +kernel
theorem dX6_sure_3 : decode cX6_sure 3 = .ok (.invokevirtual 136, 3) := by decide +kernel
theorem dX6_sure_6 : decode cX6_sure 6 = .ok (.ifCond .eq 14, 3) := by decide +kernel
theorem dX6_sure_9 : decode cX6_sure 9 = .ok (.aload_n 0, 1) := by decide +kernel
theorem dX6_sure_10 : decode cX6_sure 10 = .ok (.getfield 12, 3) := by decide +kernel
theorem dX6_sure_13 : decode cX6_sure 13 = .ok (.iload_n 3, 1) := by decide +kernel
theorem dX6_sure_14 : decode cX6_sure 14 = .ok (.invokevirtual 162, 3) := by decide +kernel
theorem dX6_sure_17 : decode cX6_sure 17 = .ok (.ifCond .ne 5, 3) := by decide +kernel
theorem dX6_sure_20 : decode cX6_sure 20 = .ok (.iconst (-1), 1) := by decide +kernel
theorem dX6_sure_21 : decode cX6_sure 21 = .ok (.ireturn, 1) := by decide +kernel
theorem dX6_sure_22 : decode cX6_sure 22 = .ok (.aload_n 0, 1) := by decide +kernel
theorem dX6_sure_23 : decode cX6_sure 23 = .ok (.iload_n 1, 1) := by decide +kernel
theorem dX6_sure_24 : decode cX6_sure 24 = .ok (.iload_n 3, 1) := by decide +kernel
theorem dX6_sure_25 : decode cX6_sure 25 = .ok (.invokevirtual 240, 3) := by decide +kernel
theorem dX6_sure_28 : decode cX6_sure 28 = .ok (.iconst 0, 1) := by decide +kernel
theorem dX6_sure_29 : decode cX6_sure 29 = .ok (.istore 4, 2) := by decide +kernel
theorem dX6_sure_31 : decode cX6_sure 31 = .ok (.iload 4, 2) := by decide +kernel
theorem dX6_sure_33 : decode cX6_sure 33 = .ok (.bipush 10, 2) := by decide +kernel
theorem dX6_sure_35 : decode cX6_sure 35 = .ok (.if_icmp .ge 22, 3) := by decide +kernel
theorem dX6_sure_38 : decode cX6_sure 38 = .ok (.aload_n 0, 1) := by decide +kernel
theorem dX6_sure_39 : decode cX6_sure 39 = .ok (.iload_n 2, 1) := by decide +kernel
theorem dX6_sure_40 : decode cX6_sure 40 = .ok (.iload 4, 2) := by decide +kernel
theorem dX6_sure_42 : decode cX6_sure 42 = .ok (.invokevirtual 243, 3) := by decide +kernel
theorem dX6_sure_45 : decode cX6_sure 45 = .ok (.ifCond .eq 6, 3) := by decide +kernel
theorem dX6_sure_48 : decode cX6_sure 48 = .ok (.iload 4, 2) := by decide +kernel
theorem dX6_sure_50 : decode cX6_sure 50 = .ok (.ireturn, 1) := by decide +kernel
theorem dX6_sure_51 : decode cX6_sure 51 = .ok (.iinc 4 1, 3) := by decide +kernel
theorem dX6_sure_54 : decode cX6_sure 54 = .ok (.goto (-23), 3) := by decide +kernel
theorem dX6_sure_57 : decode cX6_sure 57 = .ok (.bipush (-4), 2) := by decide +kernel
theorem dX6_sure_59 : decode cX6_sure 59 = .ok (.ireturn, 1) := by decide +kernel
set_option maxRecDepth 20000 in
theorem ggX6_rest_X0_hasCase : GoodIn wsX6_rest wsX0_hasCase := goodIn_r _ [6, 7, 8, 9, 10, 90, 91, 92, 93, 94, 95, 96, 97, 98, 99, 100, 101, 102, 103, 104, 105, 106] (by decide +kernel) (by decide +kernel)
set_option maxRecDepth 20000 in
theorem gX6_rest_X0_hasCase : GoodIn wsX6_rest (wsV RX6 149 RX0 yX0_hasCase wsX0_hasCase) := goodIn_app (goodIn_of _ (by decide +kernel)) ggX6_rest_X0_hasCase
set_option maxRecDepth 20000 in
theorem ggX6_rest_X0_hasJudge : GoodIn wsX6_rest wsX0_hasJudge := goodIn_r _ [14, 15, 8, 9, 10, 90, 91, 92, 93, 94, 95, 96, 97, 98, 99, 100, 101, 102, 103, 104, 105, 106] (by decide +kernel) (by decide +kernel)
set_option maxRecDepth 20000 in
theorem gX6_rest_X0_hasJudge : GoodIn wsX6_rest (wsV RX6 162 RX0 yX0_hasJudge wsX0_hasJudge) := goodIn_app (goodIn_of _ (by decide +kernel)) ggX6_rest_X0_hasJudge
set_option maxRecDepth 20000 in
theorem ggX6_rest_X6_isIn : GoodIn wsX6_rest wsX6_isIn := goodIn_r _ [10] (by decide +kernel) (by decide +kernel)
set_option maxRecDepth 20000 in
theorem gX6_rest_X6_isIn : GoodIn wsX6_rest (va_wsS RX6 72 yX6_isIn wsX6_isIn) := goodIn_app (goodIn_of _ (by decide +kernel)) ggX6_rest_X6_isIn
set_option maxRecDepth 20000 in
theorem ggX6_rest_X6_fillVerdictsByGuards : GoodIn wsX6_rest wsX6_fillVerdictsByGuards := goodIn_r _ [20, 21, 22, 23, 24, 25, 9, 26, 1, 27, 28, 29, 30, 31, 32, 33, 34, 35, 36, 37, 38, 39, 40, 41, 42, 43, 44, 45, 46, 47, 48, 49, 50, 51, 52, 53, 54, 55, 56, 57, 58, 59, 60, 61, 62, 63, 64, 65, 66, 67, 68, 69, 70, 78, 79, 80, 81, 82, 83, 84, 85, 86, 87, 88, 89, 107, 108, 109, 110, 111, 112, 113, 90, 91, 92, 93, 94, 95, 96, 97, 98, 99, 100, 101, 102, 103, 104, 105, 106] (by decide +kernel) (by decide +kernel)
set_option maxRecDepth 20000 in
theorem gX6_rest_X6_fillVerdictsByGuards : GoodIn wsX6_rest (wsV RX6 240 RX6 yX6_fillVerdictsByGuards wsX6_fillVerdictsByGuards) := goodIn_app (goodIn_of _ (by decide +kernel)) ggX6_rest_X6_fillVerdictsByGuards
set_option maxRecDepth 20000 in
theorem ggX6_rest_X6_isAtRest : GoodIn wsX6_rest wsX6_isAtRest := goodIn_r _ [74, 22, 75, 76, 9, 77, 78, 79, 80, 81, 82, 83, 84, 85, 86, 87, 88, 89] (by decide +kernel) (by decide +kernel)
set_option maxRecDepth 20000 in
theorem gX6_rest_X6_isAtRest : GoodIn wsX6_rest (wsV RX6 246 RX6 yX6_isAtRest wsX6_isAtRest) := goodIn_app (goodIn_of _ (by decide +kernel)) ggX6_rest_X6_isAtRest
theorem dX6_rest_0 : decode cX6_rest 0 = .ok (.aload_n 0, 1) := by decide +kernel
theorem dX6_rest_1 : decode cX6_rest 1 = .ok (.getfield 12, 3) := by decide +kernel
theorem dX6_rest_4 : decode cX6_rest 4 = .ok (.iload_n 1, 1) := by decide +kernel
theorem dX6_rest_5 : decode cX6_rest 5 = .ok (.i2l, 1) := by decide +kernel
theorem dX6_rest_6 : decode cX6_rest 6 = .ok (.invokevirtual 149, 3) := by decide +kernel
theorem dX6_rest_9 : decode cX6_rest 9 = .ok (.ifCond .eq 24, 3) := by decide +kernel
theorem dX6_rest_12 : decode cX6_rest 12 = .ok (.aload_n 0, 1) := by decide +kernel
theorem dX6_rest_13 : decode cX6_rest 13 = .ok (.getfield 12, 3) := by decide +kernel
theorem dX6_rest_16 : decode cX6_rest 16 = .ok (.iload_n 2, 1) := by decide +kernel
theorem dX6_rest_17 : decode cX6_rest 17 = .ok (.invokevirtual 162, 3) := by decide +kernel
theorem dX6_rest_20 : decode cX6_rest 20 = .ok (.ifCond .eq 13, 3) := by decide +kernel
theorem dX6_rest_23 : decode cX6_rest 23 = .ok (.iload_n 3, 1) := by decide +kernel
theorem dX6_rest_24 : decode cX6_rest 24 = .ok (.i2l, 1) := by decide +kernel
theorem dX6_rest_25 : decode cX6_rest 25 = .ok (.iconst 0, 1) := by decide +kernel
theorem dX6_rest_26 : decode cX6_rest 26 = .ok (.iconst 1, 1) := by decide +kernel
theorem dX6_rest_27 : decode cX6_rest 27 = .ok (.invokestatic 72, 3) := by decide +kernel
theorem dX6_rest_30 : decode cX6_rest 30 = .ok (.ifCond .ne 5, 3) := by decide +kernel
theorem dX6_rest_33 : decode cX6_rest 33 = .ok (.iconst (-1), 1) := by decide +kernel
theorem dX6_rest_34 : decode cX6_rest 34 = .ok (.ireturn, 1) := by decide +kernel
theorem dX6_rest_35 : decode cX6_rest 35 = .ok (.aload_n 0, 1) := by decide +kernel
theorem dX6_rest_36 : decode cX6_rest 36 = .ok (.iload_n 1, 1) := by decide +kernel
theorem dX6_rest_37 : decode cX6_rest 37 = .ok (.iload_n 2, 1) := by decide +kernel
theorem dX6_rest_38 : decode cX6_rest 38 = .ok (.invokevirtual 240, 3) := by decide +kernel
theorem dX6_rest_41 : decode cX6_rest 41 = .ok (.iconst 0, 1) := by decide +kernel
theorem dX6_rest_42 : decode cX6_rest 42 = .ok (.istore 4, 2) := by decide +kernel
theorem dX6_rest_44 : decode cX6_rest 44 = .ok (.bipush (-4), 2) := by decide +kernel
theorem dX6_rest_46 : decode cX6_rest 46 = .ok (.istore 5, 2) := by decide +kernel
theorem dX6_rest_48 : decode cX6_rest 48 = .ok (.iconst 0, 1) := by decide +kernel
theorem dX6_rest_49 : decode cX6_rest 49 = .ok (.istore 6, 2) := by decide +kernel
theorem dX6_rest_51 : decode cX6_rest 51 = .ok (.iload 6, 2) := by decide +kernel
theorem dX6_rest_53 : decode cX6_rest 53 = .ok (.bipush 100, 2) := by decide +kernel
theorem dX6_rest_55 : decode cX6_rest 55 = .ok (.if_icmp .ge 45, 3) := by decide +kernel
theorem dX6_rest_58 : decode cX6_rest 58 = .ok (.aload_n 0, 1) := by decide +kernel
theorem dX6_rest_59 : decode cX6_rest 59 = .ok (.iload 6, 2) := by decide +kernel
theorem dX6_rest_61 : decode cX6_rest 61 = .ok (.bipush 10, 2) := by decide +kernel
theorem dX6_rest_63 : decode cX6_rest 63 = .ok (.idiv, 1) := by decide +kernel
theorem dX6_rest_64 : decode cX6_rest 64 = .ok (.iload 6, 2) := by decide +kernel
theorem dX6_rest_66 : decode cX6_rest 66 = .ok (.bipush 10, 2) := by decide +kernel
theorem dX6_rest_68 : decode cX6_rest 68 = .ok (.irem, 1) := by decide +kernel
theorem dX6_rest_69 : decode cX6_rest 69 = .ok (.invokevirtual 246, 3) := by decide +kernel
theorem dX6_rest_72 : decode cX6_rest 72 = .ok (.ifCond .eq 22, 3) := by decide +kernel
theorem dX6_rest_75 : decode cX6_rest 75 = .ok (.iinc 4 1, 3) := by decide +kernel
theorem dX6_rest_78 : decode cX6_rest 78 = .ok (.iload 5, 2) := by decide +kernel
theorem dX6_rest_80 : decode cX6_rest 80 = .ok (.bipush (-4), 2) := by decide +kernel
theorem dX6_rest_82 : decode cX6_rest 82 = .ok (.if_icmp .ne 8, 3) := by decide +kernel
theorem dX6_rest_85 : decode cX6_rest 85 = .ok (.iload 6, 2) := by decide +kernel
theorem dX6_rest_87 : decode cX6_rest 87 = .ok (.goto 5, 3) := by decide +kernel
theorem dX6_rest_90 : decode cX6_rest 90 = .ok (.iload 5, 2) := by decide +kernel
theorem dX6_rest_92 : decode cX6_rest 92 = .ok (.istore 5, 2) := by decide +kernel
theorem dX6_rest_94 : decode cX6_rest 94 = .ok (.iinc 6 1, 3) := by decide +kernel
theorem dX6_rest_97 : decode cX6_rest 97 = .ok (.goto (-46), 3) := by decide +kernel
theorem dX6_rest_100 : decode cX6_rest 100 = .ok (.iload_n 3, 1) := by decide +kernel
theorem dX6_rest_101 : decode cX6_rest 101 = .ok (.ifCond .ne 8, 3) := by decide +kernel
theorem dX6_rest_104 : decode cX6_rest 104 = .ok (.iload 4, 2) := by decide +kernel
theorem dX6_rest_106 : decode cX6_rest 106 = .ok (.goto 5, 3) := by decide +kernel
theorem dX6_rest_109 : decode cX6_rest 109 = .ok (.iload 5, 2) := by decide +kernel
theorem dX6_rest_111 : decode cX6_rest 111 = .ok (.ireturn, 1) := by decide +kernel
set_option maxRecDepth 20000 in
theorem ggX6_share_X6_isSide : GoodIn wsX6_share wsX6_isSide := goodIn_r _ [7, 8, 9, 6, 10] (by decide +kernel) (by decide +kernel)
set_option maxRecDepth 20000 in
theorem gX6_share_X6_isSide : GoodIn wsX6_share (va_wsS RX6 249 yX6_isSide wsX6_isSide) := goodIn_app (goodIn_of _ (by decide +kernel)) ggX6_share_X6_isSide
set_option maxRecDepth 20000 in
theorem ggX6_share_X0_hasCase : GoodIn wsX6_share wsX0_hasCase := goodIn_r _ [15, 16, 9, 6, 10, 97, 98, 99, 100, 101, 102, 103, 104, 105, 106, 107, 108, 109, 110, 111, 112, 113] (by decide +kernel) (by decide +kernel)
set_option maxRecDepth 20000 in
theorem gX6_share_X0_hasCase : GoodIn wsX6_share (wsV RX6 149 RX0 yX0_hasCase wsX0_hasCase) := goodIn_app (goodIn_of _ (by decide +kernel)) ggX6_share_X0_hasCase
set_option maxRecDepth 20000 in
theorem ggX6_share_X6_casesThatMayBeWon : GoodIn wsX6_share wsX6_casesThatMayBeWon := goodIn_r _ [20, 1, 21, 22, 23, 24, 25, 6, 26, 3, 27, 28, 29, 30, 31, 32, 33, 34, 35, 36, 37, 38, 39, 40, 41, 42, 43, 44, 45, 46, 47, 48, 49, 50, 51, 52, 53, 54, 55, 56, 57, 58, 59, 60, 61, 62, 63, 64, 65, 66, 67, 68, 69, 70, 71, 72, 73, 74, 75, 85, 86, 87, 88, 89, 90, 91, 92, 93, 94, 95, 96, 97, 98, 99, 100, 101, 102, 103, 104, 105, 106, 107, 108, 109, 110, 111, 112, 113, 114, 115, 116, 117, 118, 119, 120] (by decide +kernel) (by decide +kernel)
set_option maxRecDepth 20000 in
theorem gX6_share_X6_casesThatMayBeWon : GoodIn wsX6_share (wsV RX6 254 RX6 yX6_casesThatMayBeWon wsX6_casesThatMayBeWon) := goodIn_app (goodIn_of _ (by decide +kernel)) ggX6_share_X6_casesThatMayBeWon
set_option maxRecDepth 20000 in
theorem ggX6_share_X6_bestJudge : GoodIn wsX6_share wsX6_bestJudge := goodIn_r _ [79, 1, 22, 23, 24, 25, 6, 26, 3, 27, 28, 29, 30, 31, 32, 33, 34, 35, 36, 37, 38, 39, 40, 41, 42, 43, 44, 45, 46, 47, 48, 49, 50, 51, 52, 53, 54, 55, 56, 57, 58, 59, 60, 61, 62, 63, 64, 65, 66, 67, 68, 69, 70, 71, 72, 73, 74, 75, 80, 81, 82, 83, 84, 85, 86, 87, 88, 89, 90, 91, 92, 93, 94, 95, 96, 97, 98, 99, 100, 101, 102, 103, 104, 105, 106, 107, 108, 109, 110, 111, 112, 113, 114, 115, 116, 117, 118, 119, 120] (by decide +kernel) (by decide +kernel)
set_option maxRecDepth 20000 in
theorem gX6_share_X6_bestJudge : GoodIn wsX6_share (wsV RX6 258 RX6 yX6_bestJudge wsX6_bestJudge) := goodIn_app (goodIn_of _ (by decide +kernel)) ggX6_share_X6_bestJudge
theorem dX6_share_0 : decode cX6_share 0 = .ok (.iload_n 1, 1) := by decide +kernel
theorem dX6_share_1 : decode cX6_share 1 = .ok (.invokestatic 249, 3) := by decide +kernel
theorem dX6_share_4 : decode cX6_share 4 = .ok (.ifCond .eq 23, 3) := by decide +kernel
theorem dX6_share_7 : decode cX6_share 7 = .ok (.iload_n 2, 1) := by decide +kernel
theorem dX6_share_8 : decode cX6_share 8 = .ok (.ifCond .eq 21, 3) := by decide +kernel
theorem dX6_share_11 : decode cX6_share 11 = .ok (.aload_n 0, 1) := by decide +kernel
theorem dX6_share_12 : decode cX6_share 12 = .ok (.getfield 12, 3) := by decide +kernel
theorem dX6_share_15 : decode cX6_share 15 = .ok (.iload_n 2, 1) := by decide +kernel
theorem dX6_share_16 : decode cX6_share 16 = .ok (.i2l, 1) := by decide +kernel
theorem dX6_share_17 : decode cX6_share 17 = .ok (.ldc2_w 252, 3) := by decide +kernel
theorem dX6_share_20 : decode cX6_share 20 = .ok (.lsub, 1) := by decide +kernel
theorem dX6_share_21 : decode cX6_share 21 = .ok (.invokevirtual 149, 3) := by decide +kernel
theorem dX6_share_24 : decode cX6_share 24 = .ok (.ifCond .ne 5, 3) := by decide +kernel
theorem dX6_share_27 : decode cX6_share 27 = .ok (.iconst (-1), 1) := by decide +kernel
theorem dX6_share_28 : decode cX6_share 28 = .ok (.ireturn, 1) := by decide +kernel
theorem dX6_share_29 : decode cX6_share 29 = .ok (.aload_n 0, 1) := by decide +kernel
theorem dX6_share_30 : decode cX6_share 30 = .ok (.getfield 12, 3) := by decide +kernel
theorem dX6_share_33 : decode cX6_share 33 = .ok (.getfield 113, 3) := by decide +kernel
theorem dX6_share_36 : decode cX6_share 36 = .ok (.ifCond .ne 6, 3) := by decide +kernel
theorem dX6_share_39 : decode cX6_share 39 = .ok (.bipush (-4), 2) := by decide +kernel
theorem dX6_share_41 : decode cX6_share 41 = .ok (.ireturn, 1) := by decide +kernel
theorem dX6_share_42 : decode cX6_share 42 = .ok (.iload_n 2, 1) := by decide +kernel
theorem dX6_share_43 : decode cX6_share 43 = .ok (.ifCond .ne 11, 3) := by decide +kernel
theorem dX6_share_46 : decode cX6_share 46 = .ok (.aload_n 0, 1) := by decide +kernel
theorem dX6_share_47 : decode cX6_share 47 = .ok (.iload_n 1, 1) := by decide +kernel
theorem dX6_share_48 : decode cX6_share 48 = .ok (.invokevirtual 254, 3) := by decide +kernel
theorem dX6_share_51 : decode cX6_share 51 = .ok (.goto 12, 3) := by decide +kernel
theorem dX6_share_54 : decode cX6_share 54 = .ok (.aload_n 0, 1) := by decide +kernel
theorem dX6_share_55 : decode cX6_share 55 = .ok (.iload_n 2, 1) := by decide +kernel
theorem dX6_share_56 : decode cX6_share 56 = .ok (.bipush 10, 2) := by decide +kernel
theorem dX6_share_58 : decode cX6_share 58 = .ok (.isub, 1) := by decide +kernel
theorem dX6_share_59 : decode cX6_share 59 = .ok (.iload_n 1, 1) := by decide +kernel
theorem dX6_share_60 : decode cX6_share 60 = .ok (.invokevirtual 258, 3) := by decide +kernel
theorem dX6_share_63 : decode cX6_share 63 = .ok (.ireturn, 1) := by decide +kernel
set_option maxRecDepth 20000 in
theorem ggX6_swap_X6_isSide : GoodIn wsX6_swap wsX6_isSide := goodIn_r _ [6, 7, 8, 5, 9] (by decide +kernel) (by decide +kernel)
set_option maxRecDepth 20000 in
theorem gX6_swap_X6_isSide : GoodIn wsX6_swap (va_wsS RX6 249 yX6_isSide wsX6_isSide) := goodIn_app (goodIn_of _ (by decide +kernel)) ggX6_swap_X6_isSide
set_option maxRecDepth 20000 in
theorem ggX6_swap_X6_isIn : GoodIn wsX6_swap wsX6_isIn := goodIn_r _ [9] (by decide +kernel) (by decide +kernel)
set_option maxRecDepth 20000 in
theorem gX6_swap_X6_isIn : GoodIn wsX6_swap (va_wsS RX6 72 yX6_isIn wsX6_isIn) := goodIn_app (goodIn_of _ (by decide +kernel)) ggX6_swap_X6_isIn
set_option maxRecDepth 20000 in
theorem ggX6_swap_X6_wonByDocket : GoodIn wsX6_swap wsX6_wonByDocket := goodIn_r _ [13, 14, 1, 15, 16, 17, 18, 19, 20, 21, 22, 23, 24, 25, 26, 27, 28, 29, 30, 31, 5, 32, 33, 34, 35, 36, 37, 38, 39, 40, 41, 42, 43, 44, 45, 46, 47, 48, 49, 50, 51, 52, 53, 54, 55, 56, 57, 58, 59, 60, 61, 62, 63, 64, 65, 66, 67, 68, 69, 70, 71, 72, 73, 74, 75, 76, 77, 78, 79, 80, 81, 82, 83, 84, 85, 86, 87, 88, 89, 96, 97, 98, 99, 100, 101, 102, 103, 104, 105, 106, 107, 125, 126, 127, 108, 109, 110, 111, 112, 113, 114, 115, 116, 117, 118, 119, 120, 121, 122, 123, 124, 128, 129, 130, 131, 132, 133, 134] (by decide +kernel) (by decide +kernel)
set_option maxRecDepth 20000 in
theorem gX6_swap_X6_wonByDocket : GoodIn wsX6_swap (wsV RX6 261 RX6 yX6_wonByDocket wsX6_wonByDocket) := goodIn_app (goodIn_of _ (by decide +kernel)) ggX6_swap_X6_wonByDocket
set_option maxRecDepth 20000 in
theorem ggX6_swap_X0_changeDocketJudges : GoodIn wsX6_swap wsX0_changeDocketJudges := goodIn_r _ [94, 95, 108, 109, 110, 111, 112, 113, 114, 115, 116, 117, 118, 119, 120, 121, 122, 123, 124] (by decide +kernel) (by decide +kernel)
set_option maxRecDepth 20000 in
theorem gX6_swap_X0_changeDocketJudges : GoodIn wsX6_swap (wsV RX6 264 RX0 yX0_changeDocketJudges wsX0_changeDocketJudges) := goodIn_app (goodIn_of _ (by decide +kernel)) ggX6_swap_X0_changeDocketJudges
theorem dX6_swap_0 : decode cX6_swap 0 = .ok (.iload_n 1, 1) := by decide +kernel
theorem dX6_swap_1 : decode cX6_swap 1 = .ok (.invokestatic 249, 3) := by decide +kernel
theorem dX6_swap_4 : decode cX6_swap 4 = .ok (.ifCond .eq 13, 3) := by decide +kernel
theorem dX6_swap_7 : decode cX6_swap 7 = .ok (.iload_n 2, 1) := by decide +kernel
theorem dX6_swap_8 : decode cX6_swap 8 = .ok (.i2l, 1) := by decide +kernel
theorem dX6_swap_9 : decode cX6_swap 9 = .ok (.iconst 0, 1) := by decide +kernel
theorem dX6_swap_10 : decode cX6_swap 10 = .ok (.iconst 1, 1) := by decide +kernel
theorem dX6_swap_11 : decode cX6_swap 11 = .ok (.invokestatic 72, 3) := by decide +kernel
theorem dX6_swap_14 : decode cX6_swap 14 = .ok (.ifCond .ne 5, 3) := by decide +kernel
theorem dX6_swap_17 : decode cX6_swap 17 = .ok (.iconst (-1), 1) := by decide +kernel
theorem dX6_swap_18 : decode cX6_swap 18 = .ok (.ireturn, 1) := by decide +kernel
theorem dX6_swap_19 : decode cX6_swap 19 = .ok (.aload_n 0, 1) := by decide +kernel
theorem dX6_swap_20 : decode cX6_swap 20 = .ok (.iload_n 1, 1) := by decide +kernel
theorem dX6_swap_21 : decode cX6_swap 21 = .ok (.iconst 0, 1) := by decide +kernel
theorem dX6_swap_22 : decode cX6_swap 22 = .ok (.invokevirtual 261, 3) := by decide +kernel
theorem dX6_swap_25 : decode cX6_swap 25 = .ok (.istore_n 3, 1) := by decide +kernel
theorem dX6_swap_26 : decode cX6_swap 26 = .ok (.bipush (-4), 2) := by decide +kernel
theorem dX6_swap_28 : decode cX6_swap 28 = .ok (.istore 4, 2) := by decide +kernel
theorem dX6_swap_30 : decode cX6_swap 30 = .ok (.iconst 0, 1) := by decide +kernel
theorem dX6_swap_31 : decode cX6_swap 31 = .ok (.istore 5, 2) := by decide +kernel
theorem dX6_swap_33 : decode cX6_swap 33 = .ok (.iload 5, 2) := by decide +kernel
theorem dX6_swap_35 : decode cX6_swap 35 = .ok (.aload_n 0, 1) := by decide +kernel
theorem dX6_swap_36 : decode cX6_swap 36 = .ok (.getfield 12, 3) := by decide +kernel
theorem dX6_swap_39 : decode cX6_swap 39 = .ok (.getfield 119, 3) := by decide +kernel
theorem dX6_swap_42 : decode cX6_swap 42 = .ok (.if_icmp .ge 82, 3) := by decide +kernel
theorem dX6_swap_45 : decode cX6_swap 45 = .ok (.iload 5, 2) := by decide +kernel
theorem dX6_swap_47 : decode cX6_swap 47 = .ok (.iconst 1, 1) := by decide +kernel
theorem dX6_swap_48 : decode cX6_swap 48 = .ok (.iadd, 1) := by decide +kernel
theorem dX6_swap_49 : decode cX6_swap 49 = .ok (.istore 6, 2) := by decide +kernel
theorem dX6_swap_51 : decode cX6_swap 51 = .ok (.iload 6, 2) := by decide +kernel
theorem dX6_swap_53 : decode cX6_swap 53 = .ok (.aload_n 0, 1) := by decide +kernel
theorem dX6_swap_54 : decode cX6_swap 54 = .ok (.getfield 12, 3) := by decide +kernel
theorem dX6_swap_57 : decode cX6_swap 57 = .ok (.getfield 119, 3) := by decide +kernel
theorem dX6_swap_60 : decode cX6_swap 60 = .ok (.if_icmp .ge 58, 3) := by decide +kernel
theorem dX6_swap_63 : decode cX6_swap 63 = .ok (.aload_n 0, 1) := by decide +kernel
theorem dX6_swap_64 : decode cX6_swap 64 = .ok (.getfield 12, 3) := by decide +kernel
theorem dX6_swap_67 : decode cX6_swap 67 = .ok (.iload 5, 2) := by decide +kernel
theorem dX6_swap_69 : decode cX6_swap 69 = .ok (.iload 6, 2) := by decide +kernel
theorem dX6_swap_71 : decode cX6_swap 71 = .ok (.invokevirtual 264, 3) := by decide +kernel
theorem dX6_swap_74 : decode cX6_swap 74 = .ok (.aload_n 0, 1) := by decide +kernel
theorem dX6_swap_75 : decode cX6_swap 75 = .ok (.iload_n 1, 1) := by decide +kernel
theorem dX6_swap_76 : decode cX6_swap 76 = .ok (.iconst 0, 1) := by decide +kernel
theorem dX6_swap_77 : decode cX6_swap 77 = .ok (.invokevirtual 261, 3) := by decide +kernel
theorem dX6_swap_80 : decode cX6_swap 80 = .ok (.istore 7, 2) := by decide +kernel
theorem dX6_swap_82 : decode cX6_swap 82 = .ok (.aload_n 0, 1) := by decide +kernel
theorem dX6_swap_83 : decode cX6_swap 83 = .ok (.getfield 12, 3) := by decide +kernel
theorem dX6_swap_86 : decode cX6_swap 86 = .ok (.iload 5, 2) := by decide +kernel
theorem dX6_swap_88 : decode cX6_swap 88 = .ok (.iload 6, 2) := by decide +kernel
theorem dX6_swap_90 : decode cX6_swap 90 = .ok (.invokevirtual 264, 3) := by decide +kernel
theorem dX6_swap_93 : decode cX6_swap 93 = .ok (.iload 7, 2) := by decide +kernel
theorem dX6_swap_95 : decode cX6_swap 95 = .ok (.iload_n 3, 1) := by decide +kernel
theorem dX6_swap_96 : decode cX6_swap 96 = .ok (.if_icmp .le 16, 3) := by decide +kernel
theorem dX6_swap_99 : decode cX6_swap 99 = .ok (.iload 7, 2) := by decide +kernel
theorem dX6_swap_101 : decode cX6_swap 101 = .ok (.istore_n 3, 1) := by decide +kernel
theorem dX6_swap_102 : decode cX6_swap 102 = .ok (.bipush 10, 2) := by decide +kernel
theorem dX6_swap_104 : decode cX6_swap 104 = .ok (.iload 5, 2) := by decide +kernel
theorem dX6_swap_106 : decode cX6_swap 106 = .ok (.imul, 1) := by decide +kernel
theorem dX6_swap_107 : decode cX6_swap 107 = .ok (.iload 6, 2) := by decide +kernel
theorem dX6_swap_109 : decode cX6_swap 109 = .ok (.iadd, 1) := by decide +kernel
theorem dX6_swap_110 : decode cX6_swap 110 = .ok (.istore 4, 2) := by decide +kernel
theorem dX6_swap_112 : decode cX6_swap 112 = .ok (.iinc 6 1, 3) := by decide +kernel
theorem dX6_swap_115 : decode cX6_swap 115 = .ok (.goto (-64), 3) := by decide +kernel
theorem dX6_swap_118 : decode cX6_swap 118 = .ok (.iinc 5 1, 3) := by decide +kernel
theorem dX6_swap_121 : decode cX6_swap 121 = .ok (.goto (-88), 3) := by decide +kernel
theorem dX6_swap_124 : decode cX6_swap 124 = .ok (.iload 4, 2) := by decide +kernel
theorem dX6_swap_126 : decode cX6_swap 126 = .ok (.bipush (-4), 2) := by decide +kernel
theorem dX6_swap_128 : decode cX6_swap 128 = .ok (.if_icmp .eq 7, 3) := by decide +kernel
theorem dX6_swap_131 : decode cX6_swap 131 = .ok (.iload_n 2, 1) := by decide +kernel
theorem dX6_swap_132 : decode cX6_swap 132 = .ok (.ifCond .ne 8, 3) := by decide +kernel
theorem dX6_swap_135 : decode cX6_swap 135 = .ok (.iload 4, 2) := by decide +kernel
theorem dX6_swap_137 : decode cX6_swap 137 = .ok (.goto 4, 3) := by decide +kernel
theorem dX6_swap_140 : decode cX6_swap 140 = .ok (.iload_n 3, 1) := by decide +kernel
theorem dX6_swap_141 : decode cX6_swap 141 = .ok (.ireturn, 1) := by decide +kernel
set_option maxRecDepth 20000 in
theorem ggX6_luck_X6_isIn : GoodIn wsX6_luck wsX6_isIn := goodIn_r _ [8] (by decide +kernel) (by decide +kernel)
set_option maxRecDepth 20000 in
theorem gX6_luck_X6_isIn : GoodIn wsX6_luck (va_wsS RX6 72 yX6_isIn wsX6_isIn) := goodIn_app (goodIn_of _ (by decide +kernel)) ggX6_luck_X6_isIn
set_option maxRecDepth 20000 in
theorem ggX6_luck_X6_isFlame : GoodIn wsX6_luck wsX6_isFlame := goodIn_r _ [12, 1, 13, 14, 15, 16, 17, 18, 6, 7, 8, 19, 20, 21, 5, 83, 84, 85, 86, 87, 88, 89, 90, 91, 92, 93, 94, 95, 96, 97, 98, 99, 100, 101, 102, 103, 104, 105, 106, 107, 108, 109, 110, 111] (by decide +kernel) (by decide +kernel)
set_option maxRecDepth 20000 in
theorem gX6_luck_X6_isFlame : GoodIn wsX6_luck (wsV RX6 136 RX6 yX6_isFlame wsX6_isFlame) := goodIn_app (goodIn_of _ (by decide +kernel)) ggX6_luck_X6_isFlame
set_option maxRecDepth 20000 in
theorem ggX6_luck_X0_hasJudge : GoodIn wsX6_luck wsX0_hasJudge := goodIn_r _ [25, 26, 6, 7, 8, 95, 96, 97, 98, 99, 100, 101, 102, 103, 104, 105, 106, 107, 108, 109, 110, 111] (by decide +kernel) (by decide +kernel)
set_option maxRecDepth 20000 in
theorem gX6_luck_X0_hasJudge : GoodIn wsX6_luck (wsV RX6 162 RX0 yX0_hasJudge wsX0_hasJudge) := goodIn_app (goodIn_of _ (by decide +kernel)) ggX6_luck_X0_hasJudge
set_option maxRecDepth 20000 in
theorem ggX6_luck_X6_prepare : GoodIn wsX6_luck wsX6_prepare := goodIn_r _ [30, 4, 1, 31, 32, 33, 34, 35, 36, 37, 38, 39, 40, 41, 42, 43, 44, 45, 46, 47, 48, 49, 50, 51, 52, 53, 54, 55, 56, 57, 83, 84, 85, 86, 87, 88, 89, 90, 91, 92, 93, 94, 112, 113, 114, 115, 116, 117, 118, 95, 96, 97, 98, 99, 100, 101, 102, 103, 104, 105, 106, 107, 108, 109, 110, 111] (by decide +kernel) (by decide +kernel)
set_option maxRecDepth 20000 in
theorem gX6_luck_X6_prepare : GoodIn wsX6_luck (wsV RX6 228 RX6 yX6_prepare wsX6_prepare) := goodIn_app (goodIn_of _ (by decide +kernel)) ggX6_luck_X6_prepare
set_option maxRecDepth 20000 in
theorem ggX6_luck_X5_verdictHeld : GoodIn wsX6_luck wsX5_verdictHeld := goodIn_r _ [61, 62, 45, 38, 36, 54, 55, 56, 57, 63, 64, 65, 34, 66, 40, 46, 67, 68, 69, 70, 43, 112, 113, 114, 115, 116, 117, 118] (by decide +kernel) (by decide +kernel)
set_option maxRecDepth 20000 in
theorem gX6_luck_X5_verdictHeld : GoodIn wsX6_luck (wsV RX6 236 RX5 yX5_verdictHeld wsX5_verdictHeld) := goodIn_app (goodIn_of _ (by decide +kernel)) ggX6_luck_X5_verdictHeld
set_option maxRecDepth 20000 in
theorem ggX6_luck_X6_weightOf : GoodIn wsX6_luck wsX6_weightOf := goodIn_r _ [74, 1, 3, 83, 84, 85, 86, 87, 88, 89, 90, 91, 92, 93, 94, 95, 96, 97, 98, 99, 100, 101, 102, 103, 104, 105, 106, 107, 108, 109, 110, 111] (by decide +kernel) (by decide +kernel)
set_option maxRecDepth 20000 in
theorem gX6_luck_X6_weightOf : GoodIn wsX6_luck (wsV RX6 269 RX6 yX6_weightOf wsX6_weightOf) := goodIn_app (goodIn_of _ (by decide +kernel)) ggX6_luck_X6_weightOf
set_option maxRecDepth 20000 in
theorem ggX6_luck_X6_tenths : GoodIn wsX6_luck wsX6_tenths := goodIn_r _ [78, 1, 3, 79, 83, 84, 85, 86, 87, 88, 89, 90, 91, 92, 93, 94, 95, 96, 97, 98, 99, 100, 101, 102, 103, 104, 105, 106, 107, 108, 109, 110, 111] (by decide +kernel) (by decide +kernel)
set_option maxRecDepth 20000 in
theorem gX6_luck_X6_tenths : GoodIn wsX6_luck (wsV RX6 273 RX6 yX6_tenths wsX6_tenths) := goodIn_app (goodIn_of _ (by decide +kernel)) ggX6_luck_X6_tenths
set_option maxRecDepth 20000 in
theorem ggX6_luck_X6_inLowestTerms : GoodIn wsX6_luck wsX6_inLowestTerms := goodIn_r _ [82, 2] (by decide +kernel) (by decide +kernel)
set_option maxRecDepth 20000 in
theorem gX6_luck_X6_inLowestTerms : GoodIn wsX6_luck (va_wsS RX6 277 yX6_inLowestTerms wsX6_inLowestTerms) := goodIn_app (goodIn_of _ (by decide +kernel)) ggX6_luck_X6_inLowestTerms
theorem dX6_luck_0 : decode cX6_luck 0 = .ok (.iload_n 1, 1) := by decide +kernel
theorem dX6_luck_1 : decode cX6_luck 1 = .ok (.i2l, 1) := by decide +kernel
theorem dX6_luck_2 : decode cX6_luck 2 = .ok (.iconst 0, 1) := by decide +kernel
theorem dX6_luck_3 : decode cX6_luck 3 = .ok (.bipush 10, 2) := by decide +kernel
theorem dX6_luck_5 : decode cX6_luck 5 = .ok (.invokestatic 72, 3) := by decide +kernel
theorem dX6_luck_8 : decode cX6_luck 8 = .ok (.ifCond .eq 35, 3) := by decide +kernel
theorem dX6_luck_11 : decode cX6_luck 11 = .ok (.aload_n 0, 1) := by decide +kernel
theorem dX6_luck_12 : decode cX6_luck 12 = .ok (.iload_n 2, 1) := by decide +kernel
theorem dX6_luck_13 : decode cX6_luck 13 = .ok (.iload_n 3, 1) := by decide +kernel
theorem dX6_luck_14 : decode cX6_luck 14 = .ok (.invokevirtual 136, 3) := by decide +kernel
theorem dX6_luck_17 : decode cX6_luck 17 = .ok (.ifCond .eq 26, 3) := by decide +kernel
theorem dX6_luck_20 : decode cX6_luck 20 = .ok (.aload_n 0, 1) := by decide +kernel
theorem dX6_luck_21 : decode cX6_luck 21 = .ok (.getfield 12, 3) := by decide +kernel
theorem dX6_luck_24 : decode cX6_luck 24 = .ok (.iload 4, 2) := by decide +kernel
theorem dX6_luck_26 : decode cX6_luck 26 = .ok (.invokevirtual 162, 3) := by decide +kernel
theorem dX6_luck_29 : decode cX6_luck 29 = .ok (.ifCond .eq 14, 3) := by decide +kernel
theorem dX6_luck_32 : decode cX6_luck 32 = .ok (.iload 5, 2) := by decide +kernel
theorem dX6_luck_34 : decode cX6_luck 34 = .ok (.i2l, 1) := by decide +kernel
theorem dX6_luck_35 : decode cX6_luck 35 = .ok (.iconst 0, 1) := by decide +kernel
theorem dX6_luck_36 : decode cX6_luck 36 = .ok (.iconst 1, 1) := by decide +kernel
theorem dX6_luck_37 : decode cX6_luck 37 = .ok (.invokestatic 72, 3) := by decide +kernel
theorem dX6_luck_40 : decode cX6_luck 40 = .ok (.ifCond .ne 7, 3) := by decide +kernel
theorem dX6_luck_43 : decode cX6_luck 43 = .ok (.ldc2_w 267, 3) := by decide +kernel
theorem dX6_luck_46 : decode cX6_luck 46 = .ok (.lreturn, 1) := by decide +kernel
theorem dX6_luck_47 : decode cX6_luck 47 = .ok (.lconst 0, 1) := by decide +kernel
theorem dX6_luck_48 : decode cX6_luck 48 = .ok (.lstore 6, 2) := by decide +kernel
theorem dX6_luck_50 : decode cX6_luck 50 = .ok (.iconst 0, 1) := by decide +kernel
theorem dX6_luck_51 : decode cX6_luck 51 = .ok (.istore 8, 2) := by decide +kernel
theorem dX6_luck_53 : decode cX6_luck 53 = .ok (.iload 8, 2) := by decide +kernel
theorem dX6_luck_55 : decode cX6_luck 55 = .ok (.iconst 1, 1) := by decide +kernel
theorem dX6_luck_56 : decode cX6_luck 56 = .ok (.aload_n 0, 1) := by decide +kernel
theorem dX6_luck_57 : decode cX6_luck 57 = .ok (.getfield 12, 3) := by decide +kernel
theorem dX6_luck_60 : decode cX6_luck 60 = .ok (.getfield 116, 3) := by decide +kernel
theorem dX6_luck_63 : decode cX6_luck 63 = .ok (.ishl, 1) := by decide +kernel
theorem dX6_luck_64 : decode cX6_luck 64 = .ok (.if_icmp .ge 43, 3) := by decide +kernel
theorem dX6_luck_67 : decode cX6_luck 67 = .ok (.aload_n 0, 1) := by decide +kernel
theorem dX6_luck_68 : decode cX6_luck 68 = .ok (.iload_n 2, 1) := by decide +kernel
theorem dX6_luck_69 : decode cX6_luck 69 = .ok (.iload 4, 2) := by decide +kernel
theorem dX6_luck_71 : decode cX6_luck 71 = .ok (.iload 8, 2) := by decide +kernel
theorem dX6_luck_73 : decode cX6_luck 73 = .ok (.invokevirtual 228, 3) := by decide +kernel
theorem dX6_luck_76 : decode cX6_luck 76 = .ok (.aload_n 0, 1) := by decide +kernel
theorem dX6_luck_77 : decode cX6_luck 77 = .ok (.getfield 36, 3) := by decide +kernel
theorem dX6_luck_80 : decode cX6_luck 80 = .ok (.invokevirtual 236, 3) := by decide +kernel
theorem dX6_luck_83 : decode cX6_luck 83 = .ok (.iload_n 3, 1) := by decide +kernel
theorem dX6_luck_84 : decode cX6_luck 84 = .ok (.iconst 1, 1) := by decide +kernel
theorem dX6_luck_85 : decode cX6_luck 85 = .ok (.iadd, 1) := by decide +kernel
theorem dX6_luck_86 : decode cX6_luck 86 = .ok (.if_icmp .ne 15, 3) := by decide +kernel
theorem dX6_luck_89 : decode cX6_luck 89 = .ok (.lload 6, 2) := by decide +kernel
theorem dX6_luck_91 : decode cX6_luck 91 = .ok (.aload_n 0, 1) := by decide +kernel
theorem dX6_luck_92 : decode cX6_luck 92 = .ok (.iload_n 1, 1) := by decide +kernel
theorem dX6_luck_93 : decode cX6_luck 93 = .ok (.iload 8, 2) := by decide +kernel
theorem dX6_luck_95 : decode cX6_luck 95 = .ok (.invokevirtual 269, 3) := by decide +kernel
theorem dX6_luck_98 : decode cX6_luck 98 = .ok (.ladd, 1) := by decide +kernel
theorem dX6_luck_99 : decode cX6_luck 99 = .ok (.lstore 6, 2) := by decide +kernel
theorem dX6_luck_101 : decode cX6_luck 101 = .ok (.iinc 8 1, 3) := by decide +kernel
theorem dX6_luck_104 : decode cX6_luck 104 = .ok (.goto (-51), 3) := by decide +kernel
theorem dX6_luck_107 : decode cX6_luck 107 = .ok (.lload 6, 2) := by decide +kernel
theorem dX6_luck_109 : decode cX6_luck 109 = .ok (.aload_n 0, 1) := by decide +kernel
theorem dX6_luck_110 : decode cX6_luck 110 = .ok (.invokevirtual 273, 3) := by decide +kernel
theorem dX6_luck_113 : decode cX6_luck 113 = .ok (.iload 5, 2) := by decide +kernel
theorem dX6_luck_115 : decode cX6_luck 115 = .ok (.invokestatic 277, 3) := by decide +kernel
theorem dX6_luck_118 : decode cX6_luck 118 = .ok (.lreturn, 1) := by decide +kernel
set_option maxRecDepth 20000 in
theorem ggX6_mean_X6_isIn : GoodIn wsX6_mean wsX6_isIn := goodIn_r _ [7] (by decide +kernel) (by decide +kernel)
set_option maxRecDepth 20000 in
theorem gX6_mean_X6_isIn : GoodIn wsX6_mean (va_wsS RX6 72 yX6_isIn wsX6_isIn) := goodIn_app (goodIn_of _ (by decide +kernel)) ggX6_mean_X6_isIn
set_option maxRecDepth 20000 in
theorem ggX6_mean_X6_isSide : GoodIn wsX6_mean wsX6_isSide := goodIn_r _ [10, 4, 5, 6, 7] (by decide +kernel) (by decide +kernel)
set_option maxRecDepth 20000 in
theorem gX6_mean_X6_isSide : GoodIn wsX6_mean (va_wsS RX6 249 yX6_isSide wsX6_isSide) := goodIn_app (goodIn_of _ (by decide +kernel)) ggX6_mean_X6_isSide
set_option maxRecDepth 20000 in
theorem ggX6_mean_X6_weightOf : GoodIn wsX6_mean wsX6_weightOf := goodIn_r _ [14, 2, 3, 103, 104, 105, 106, 107, 108, 109, 110, 111, 112, 113, 114, 115, 116, 117, 118, 119, 120, 121, 122, 123, 124, 125, 126, 127, 128, 129, 130, 131] (by decide +kernel) (by decide +kernel)
set_option maxRecDepth 20000 in
theorem gX6_mean_X6_weightOf : GoodIn wsX6_mean (wsV RX6 269 RX6 yX6_weightOf wsX6_weightOf) := goodIn_app (goodIn_of _ (by decide +kernel)) ggX6_mean_X6_weightOf
set_option maxRecDepth 20000 in
theorem ggX6_mean_X6_wonByDocket : GoodIn wsX6_mean wsX6_wonByDocket := goodIn_r _ [18, 19, 2, 20, 21, 22, 23, 24, 25, 26, 27, 28, 29, 30, 31, 32, 33, 34, 35, 36, 6, 37, 38, 39, 40, 41, 42, 43, 44, 45, 46, 47, 48, 49, 50, 51, 52, 53, 54, 55, 56, 57, 58, 59, 60, 61, 62, 63, 64, 65, 66, 67, 68, 69, 70, 71, 72, 73, 74, 75, 76, 77, 78, 79, 80, 81, 82, 83, 84, 85, 86, 87, 88, 89, 90, 91, 92, 93, 94, 103, 104, 105, 106, 107, 108, 109, 110, 111, 112, 113, 114, 132, 133, 134, 115, 116, 117, 118, 119, 120, 121, 122, 123, 124, 125, 126, 127, 128, 129, 130, 131, 135, 136, 137, 138, 139, 140, 141] (by decide +kernel) (by decide +kernel)
set_option maxRecDepth 20000 in
theorem gX6_mean_X6_wonByDocket : GoodIn wsX6_mean (wsV RX6 261 RX6 yX6_wonByDocket wsX6_wonByDocket) := goodIn_app (goodIn_of _ (by decide +kernel)) ggX6_mean_X6_wonByDocket
set_option maxRecDepth 20000 in
theorem ggX6_mean_X6_tenths : GoodIn wsX6_mean wsX6_tenths := goodIn_r _ [98, 2, 3, 99, 103, 104, 105, 106, 107, 108, 109, 110, 111, 112, 113, 114, 115, 116, 117, 118, 119, 120, 121, 122, 123, 124, 125, 126, 127, 128, 129, 130, 131] (by decide +kernel) (by decide +kernel)
set_option maxRecDepth 20000 in
theorem gX6_mean_X6_tenths : GoodIn wsX6_mean (wsV RX6 273 RX6 yX6_tenths wsX6_tenths) := goodIn_app (goodIn_of _ (by decide +kernel)) ggX6_mean_X6_tenths
set_option maxRecDepth 20000 in
theorem ggX6_mean_X6_inLowestTerms : GoodIn wsX6_mean wsX6_inLowestTerms := goodIn_r _ [102, 1] (by decide +kernel) (by decide +kernel)
set_option maxRecDepth 20000 in
theorem gX6_mean_X6_inLowestTerms : GoodIn wsX6_mean (va_wsS RX6 277 yX6_inLowestTerms wsX6_inLowestTerms) := goodIn_app (goodIn_of _ (by decide +kernel)) ggX6_mean_X6_inLowestTerms
theorem dX6_mean_0 : decode cX6_mean 0 = .ok (.iload_n 1, 1) := by decide +kernel
theorem dX6_mean_1 : decode cX6_mean 1 = .ok (.i2l, 1) := by decide +kernel
theorem dX6_mean_2 : decode cX6_mean 2 = .ok (.iconst 0, 1) := by decide +kernel
theorem dX6_mean_3 : decode cX6_mean 3 = .ok (.bipush 10, 2) := by decide +kernel
theorem dX6_mean_5 : decode cX6_mean 5 = .ok (.invokestatic 72, 3) := by decide +kernel
theorem dX6_mean_8 : decode cX6_mean 8 = .ok (.ifCond .eq 20, 3) := by decide +kernel
theorem dX6_mean_11 : decode cX6_mean 11 = .ok (.iload_n 2, 1) := by decide +kernel
theorem dX6_mean_12 : decode cX6_mean 12 = .ok (.invokestatic 249, 3) := by decide +kernel
theorem dX6_mean_15 : decode cX6_mean 15 = .ok (.ifCond .eq 13, 3) := by decide +kernel
theorem dX6_mean_18 : decode cX6_mean 18 = .ok (.iload_n 3, 1) := by decide +kernel
theorem dX6_mean_19 : decode cX6_mean 19 = .ok (.i2l, 1) := by decide +kernel
theorem dX6_mean_20 : decode cX6_mean 20 = .ok (.iconst 0, 1) := by decide +kernel
theorem dX6_mean_21 : decode cX6_mean 21 = .ok (.iconst 1, 1) := by decide +kernel
theorem dX6_mean_22 : decode cX6_mean 22 = .ok (.invokestatic 72, 3) := by decide +kernel
theorem dX6_mean_25 : decode cX6_mean 25 = .ok (.ifCond .ne 7, 3) := by decide +kernel
theorem dX6_mean_28 : decode cX6_mean 28 = .ok (.ldc2_w 267, 3) := by decide +kernel
theorem dX6_mean_31 : decode cX6_mean 31 = .ok (.lreturn, 1) := by decide +kernel
theorem dX6_mean_32 : decode cX6_mean 32 = .ok (.lconst 0, 1) := by decide +kernel
theorem dX6_mean_33 : decode cX6_mean 33 = .ok (.lstore 4, 2) := by decide +kernel
theorem dX6_mean_35 : decode cX6_mean 35 = .ok (.iconst 0, 1) := by decide +kernel
theorem dX6_mean_36 : decode cX6_mean 36 = .ok (.istore 6, 2) := by decide +kernel
theorem dX6_mean_38 : decode cX6_mean 38 = .ok (.iload 6, 2) := by decide +kernel
theorem dX6_mean_40 : decode cX6_mean 40 = .ok (.iconst 1, 1) := by decide +kernel
theorem dX6_mean_41 : decode cX6_mean 41 = .ok (.aload_n 0, 1) := by decide +kernel
theorem dX6_mean_42 : decode cX6_mean 42 = .ok (.getfield 12, 3) := by decide +kernel
theorem dX6_mean_45 : decode cX6_mean 45 = .ok (.getfield 116, 3) := by decide +kernel
theorem dX6_mean_48 : decode cX6_mean 48 = .ok (.ishl, 1) := by decide +kernel
theorem dX6_mean_49 : decode cX6_mean 49 = .ok (.if_icmp .ge 30, 3) := by decide +kernel
theorem dX6_mean_52 : decode cX6_mean 52 = .ok (.lload 4, 2) := by decide +kernel
theorem dX6_mean_54 : decode cX6_mean 54 = .ok (.aload_n 0, 1) := by decide +kernel
theorem dX6_mean_55 : decode cX6_mean 55 = .ok (.iload_n 1, 1) := by decide +kernel
theorem dX6_mean_56 : decode cX6_mean 56 = .ok (.iload 6, 2) := by decide +kernel
theorem dX6_mean_58 : decode cX6_mean 58 = .ok (.invokevirtual 269, 3) := by decide +kernel
theorem dX6_mean_61 : decode cX6_mean 61 = .ok (.aload_n 0, 1) := by decide +kernel
theorem dX6_mean_62 : decode cX6_mean 62 = .ok (.iload_n 2, 1) := by decide +kernel
theorem dX6_mean_63 : decode cX6_mean 63 = .ok (.iload 6, 2) := by decide +kernel
theorem dX6_mean_65 : decode cX6_mean 65 = .ok (.invokevirtual 261, 3) := by decide +kernel
theorem dX6_mean_68 : decode cX6_mean 68 = .ok (.i2l, 1) := by decide +kernel
theorem dX6_mean_69 : decode cX6_mean 69 = .ok (.lmul, 1) := by decide +kernel
theorem dX6_mean_70 : decode cX6_mean 70 = .ok (.ladd, 1) := by decide +kernel
theorem dX6_mean_71 : decode cX6_mean 71 = .ok (.lstore 4, 2) := by decide +kernel
theorem dX6_mean_73 : decode cX6_mean 73 = .ok (.iinc 6 1, 3) := by decide +kernel
theorem dX6_mean_76 : decode cX6_mean 76 = .ok (.goto (-38), 3) := by decide +kernel
theorem dX6_mean_79 : decode cX6_mean 79 = .ok (.lload 4, 2) := by decide +kernel
theorem dX6_mean_81 : decode cX6_mean 81 = .ok (.aload_n 0, 1) := by decide +kernel
theorem dX6_mean_82 : decode cX6_mean 82 = .ok (.invokevirtual 273, 3) := by decide +kernel
theorem dX6_mean_85 : decode cX6_mean 85 = .ok (.iload_n 3, 1) := by decide +kernel
theorem dX6_mean_86 : decode cX6_mean 86 = .ok (.invokestatic 277, 3) := by decide +kernel
theorem dX6_mean_89 : decode cX6_mean 89 = .ok (.lreturn, 1) := by decide +kernel
set_option maxRecDepth 20000 in
theorem ggX6_see_X0_hasCase : GoodIn wsX6_see wsX0_hasCase := goodIn_r _ [8, 9, 10, 11, 12, 44, 45, 46, 47, 48, 49, 50, 51, 52, 53, 54, 55, 56, 57, 58, 59, 60] (by decide +kernel) (by decide +kernel)
set_option maxRecDepth 20000 in
theorem gX6_see_X0_hasCase : GoodIn wsX6_see (wsV RX6 149 RX0 yX0_hasCase wsX0_hasCase) := goodIn_app (goodIn_of _ (by decide +kernel)) ggX6_see_X0_hasCase
set_option maxRecDepth 20000 in
theorem ggX6_see_X0_hasJudge : GoodIn wsX6_see wsX0_hasJudge := goodIn_r _ [16, 17, 10, 11, 12, 44, 45, 46, 47, 48, 49, 50, 51, 52, 53, 54, 55, 56, 57, 58, 59, 60] (by decide +kernel) (by decide +kernel)
set_option maxRecDepth 20000 in
theorem gX6_see_X0_hasJudge : GoodIn wsX6_see (wsV RX6 162 RX0 yX0_hasJudge wsX0_hasJudge) := goodIn_app (goodIn_of _ (by decide +kernel)) ggX6_see_X0_hasJudge
set_option maxRecDepth 20000 in
theorem ggX6_see_X6_isIn : GoodIn wsX6_see wsX6_isIn := goodIn_r _ [12] (by decide +kernel) (by decide +kernel)
set_option maxRecDepth 20000 in
theorem gX6_see_X6_isIn : GoodIn wsX6_see (va_wsS RX6 72 yX6_isIn wsX6_isIn) := goodIn_app (goodIn_of _ (by decide +kernel)) ggX6_see_X6_isIn
set_option maxRecDepth 20000 in
theorem ggX6_see_X1_add : GoodIn wsX6_see wsX1_add := goodIn_r _ [23, 24, 25, 26, 27, 40, 41, 42, 43] (by decide +kernel) (by decide +kernel)
set_option maxRecDepth 20000 in
theorem gX6_see_X1_add : GoodIn wsX6_see (wsV RX6 281 RX1 yX1_add wsX1_add) := goodIn_app (goodIn_of _ (by decide +kernel)) ggX6_see_X1_add
theorem dX6_see_0 : decode cX6_see 0 = .ok (.aload_n 0, 1) := by decide +kernel
theorem dX6_see_1 : decode cX6_see 1 = .ok (.getfield 12, 3) := by decide +kernel
theorem dX6_see_4 : decode cX6_see 4 = .ok (.iload_n 1, 1) := by decide +kernel
theorem dX6_see_5 : decode cX6_see 5 = .ok (.i2l, 1) := by decide +kernel
theorem dX6_see_6 : decode cX6_see 6 = .ok (.invokevirtual 149, 3) := by decide +kernel
theorem dX6_see_9 : decode cX6_see 9 = .ok (.ifCond .eq 24, 3) := by decide +kernel
theorem dX6_see_12 : decode cX6_see 12 = .ok (.aload_n 0, 1) := by decide +kernel
theorem dX6_see_13 : decode cX6_see 13 = .ok (.getfield 12, 3) := by decide +kernel
theorem dX6_see_16 : decode cX6_see 16 = .ok (.iload_n 2, 1) := by decide +kernel
theorem dX6_see_17 : decode cX6_see 17 = .ok (.invokevirtual 162, 3) := by decide +kernel
theorem dX6_see_20 : decode cX6_see 20 = .ok (.ifCond .eq 13, 3) := by decide +kernel
theorem dX6_see_23 : decode cX6_see 23 = .ok (.iload_n 3, 1) := by decide +kernel
theorem dX6_see_24 : decode cX6_see 24 = .ok (.i2l, 1) := by decide +kernel
theorem dX6_see_25 : decode cX6_see 25 = .ok (.iconst 1, 1) := by decide +kernel
theorem dX6_see_26 : decode cX6_see 26 = .ok (.iconst 3, 1) := by decide +kernel
theorem dX6_see_27 : decode cX6_see 27 = .ok (.invokestatic 72, 3) := by decide +kernel
theorem dX6_see_30 : decode cX6_see 30 = .ok (.ifCond .ne 5, 3) := by decide +kernel
theorem dX6_see_33 : decode cX6_see 33 = .ok (.iconst (-1), 1) := by decide +kernel
theorem dX6_see_34 : decode cX6_see 34 = .ok (.ireturn, 1) := by decide +kernel
theorem dX6_see_35 : decode cX6_see 35 = .ok (.aload_n 0, 1) := by decide +kernel
theorem dX6_see_36 : decode cX6_see 36 = .ok (.getfield 50, 3) := by decide +kernel
theorem dX6_see_39 : decode cX6_see 39 = .ok (.iload_n 1, 1) := by decide +kernel
theorem dX6_see_40 : decode cX6_see 40 = .ok (.iload_n 2, 1) := by decide +kernel
theorem dX6_see_41 : decode cX6_see 41 = .ok (.iload_n 3, 1) := by decide +kernel
theorem dX6_see_42 : decode cX6_see 42 = .ok (.invokevirtual 281, 3) := by decide +kernel
theorem dX6_see_45 : decode cX6_see 45 = .ok (.ifCond .eq 13, 3) := by decide +kernel
theorem dX6_see_48 : decode cX6_see 48 = .ok (.aload_n 0, 1) := by decide +kernel
theorem dX6_see_49 : decode cX6_see 49 = .ok (.getfield 50, 3) := by decide +kernel
theorem dX6_see_52 : decode cX6_see 52 = .ok (.getfield 106, 3) := by decide +kernel
theorem dX6_see_55 : decode cX6_see 55 = .ok (.goto 5, 3) := by decide +kernel
theorem dX6_see_58 : decode cX6_see 58 = .ok (.bipush (-3), 2) := by decide +kernel
theorem dX6_see_60 : decode cX6_see 60 = .ok (.ireturn, 1) := by decide +kernel
set_option maxRecDepth 20000 in
theorem ggX6_forget_X6_isIn : GoodIn wsX6_forget wsX6_isIn := goodIn_r _ [6] (by decide +kernel) (by decide +kernel)
set_option maxRecDepth 20000 in
theorem gX6_forget_X6_isIn : GoodIn wsX6_forget (va_wsS RX6 72 yX6_isIn wsX6_isIn) := goodIn_app (goodIn_of _ (by decide +kernel)) ggX6_forget_X6_isIn
theorem dX6_forget_0 : decode cX6_forget 0 = .ok (.iload_n 1, 1) := by decide +kernel
theorem dX6_forget_1 : decode cX6_forget 1 = .ok (.i2l, 1) := by decide +kernel
theorem dX6_forget_2 : decode cX6_forget 2 = .ok (.iconst 0, 1) := by decide +kernel
theorem dX6_forget_3 : decode cX6_forget 3 = .ok (.aload_n 0, 1) := by decide +kernel
theorem dX6_forget_4 : decode cX6_forget 4 = .ok (.getfield 50, 3) := by decide +kernel
theorem dX6_forget_7 : decode cX6_forget 7 = .ok (.getfield 106, 3) := by decide +kernel
theorem dX6_forget_10 : decode cX6_forget 10 = .ok (.invokestatic 72, 3) := by decide +kernel
theorem dX6_forget_13 : decode cX6_forget 13 = .ok (.ifCond .ne 5, 3) := by decide +kernel
theorem dX6_forget_16 : decode cX6_forget 16 = .ok (.iconst (-1), 1) := by decide +kernel
theorem dX6_forget_17 : decode cX6_forget 17 = .ok (.ireturn, 1) := by decide +kernel
theorem dX6_forget_18 : decode cX6_forget 18 = .ok (.aload_n 0, 1) := by decide +kernel
theorem dX6_forget_19 : decode cX6_forget 19 = .ok (.getfield 50, 3) := by decide +kernel
theorem dX6_forget_22 : decode cX6_forget 22 = .ok (.getfield 106, 3) := by decide +kernel
theorem dX6_forget_25 : decode cX6_forget 25 = .ok (.istore_n 2, 1) := by decide +kernel
theorem dX6_forget_26 : decode cX6_forget 26 = .ok (.aload_n 0, 1) := by decide +kernel
theorem dX6_forget_27 : decode cX6_forget 27 = .ok (.getfield 50, 3) := by decide +kernel
theorem dX6_forget_30 : decode cX6_forget 30 = .ok (.iload_n 1, 1) := by decide +kernel
theorem dX6_forget_31 : decode cX6_forget 31 = .ok (.putfield 106, 3) := by decide +kernel
theorem dX6_forget_34 : decode cX6_forget 34 = .ok (.iload_n 2, 1) := by decide +kernel
theorem dX6_forget_35 : decode cX6_forget 35 = .ok (.ireturn, 1) := by decide +kernel
set_option maxRecDepth 20000 in
theorem ggX6_habits_X0_hasJudge : GoodIn wsX6_habits wsX0_hasJudge := goodIn_r _ [6, 7, 8, 9, 10, 81, 82, 83, 84, 85, 86, 87, 88, 89, 90, 91, 92, 93, 94, 95, 96, 97] (by decide +kernel) (by decide +kernel)
set_option maxRecDepth 20000 in
theorem gX6_habits_X0_hasJudge : GoodIn wsX6_habits (wsV RX6 162 RX0 yX0_hasJudge wsX0_hasJudge) := goodIn_app (goodIn_of _ (by decide +kernel)) ggX6_habits_X0_hasJudge
set_option maxRecDepth 20000 in
theorem ggX6_habits_X6_habitsAsSeen : GoodIn wsX6_habits wsX6_habitsAsSeen := goodIn_r _ [14, 15, 1, 16, 17, 18, 19, 20, 21, 22, 23, 24, 25, 26, 27, 28, 29, 30, 31, 32, 33, 34, 35, 36, 37, 38, 39, 40, 41, 42, 43, 44, 45, 46, 47, 48, 49, 50, 51, 52, 53, 54, 55, 56, 57, 58, 59, 60, 61, 62, 63, 64, 65, 66, 67, 68, 69, 70, 71, 72, 73, 74, 75, 76, 77, 78, 79, 80, 81, 82, 83, 84, 85, 86, 87, 88, 89, 90, 91, 92, 93, 94, 95, 96, 97, 98, 99, 100, 101, 102, 103, 104, 105, 106, 107, 108] (by decide +kernel) (by decide +kernel)
set_option maxRecDepth 20000 in
theorem gX6_habits_X6_habitsAsSeen : GoodIn wsX6_habits (wsV RX6 284 RX6 yX6_habitsAsSeen wsX6_habitsAsSeen) := goodIn_app (goodIn_of _ (by decide +kernel)) ggX6_habits_X6_habitsAsSeen
theorem dX6_habits_0 : decode cX6_habits 0 = .ok (.aload_n 0, 1) := by decide +kernel
theorem dX6_habits_1 : decode cX6_habits 1 = .ok (.getfield 12, 3) := by decide +kernel
theorem dX6_habits_4 : decode cX6_habits 4 = .ok (.iload_n 1, 1) := by decide +kernel
theorem dX6_habits_5 : decode cX6_habits 5 = .ok (.invokevirtual 162, 3) := by decide +kernel
theorem dX6_habits_8 : decode cX6_habits 8 = .ok (.ifCond .eq 11, 3) := by decide +kernel
theorem dX6_habits_11 : decode cX6_habits 11 = .ok (.aload_n 0, 1) := by decide +kernel
theorem dX6_habits_12 : decode cX6_habits 12 = .ok (.iload_n 1, 1) := by decide +kernel
theorem dX6_habits_13 : decode cX6_habits 13 = .ok (.invokevirtual 284, 3) := by decide +kernel
theorem dX6_habits_16 : decode cX6_habits 16 = .ok (.goto 4, 3) := by decide +kernel
theorem dX6_habits_19 : decode cX6_habits 19 = .ok (.iconst (-1), 1) := by decide +kernel
theorem dX6_habits_20 : decode cX6_habits 20 = .ok (.ireturn, 1) := by decide +kernel
set_option maxRecDepth 20000 in
theorem ggX6_slows_X0_hasJudge : GoodIn wsX6_slows wsX0_hasJudge := goodIn_r _ [9, 10, 11, 12, 13, 77, 78, 79, 80, 81, 82, 83, 84, 85, 86, 87, 88, 89, 90, 91, 92, 93] (by decide +kernel) (by decide +kernel)
set_option maxRecDepth 20000 in
theorem gX6_slows_X0_hasJudge : GoodIn wsX6_slows (wsV RX6 162 RX0 yX0_hasJudge wsX0_hasJudge) := goodIn_app (goodIn_of _ (by decide +kernel)) ggX6_slows_X0_hasJudge
set_option maxRecDepth 20000 in
theorem ggX6_slows_X1_fits : GoodIn wsX6_slows wsX1_fits := goodIn_r _ [18, 19, 20, 21, 22, 23, 24, 25, 26, 27, 28, 29, 30, 31, 32, 33, 34, 35, 36, 37, 38, 39, 40, 41, 42, 43, 44, 45, 46, 47, 48, 49, 50, 51, 52, 53, 54, 55, 56, 57, 58, 59, 60, 61, 62, 63, 64, 94, 95, 96, 97, 98, 99, 100, 101, 102, 103, 104, 77, 78, 79, 80, 81, 82, 83, 84, 85, 86, 87, 88, 89, 90, 91, 92, 93] (by decide +kernel) (by decide +kernel)
set_option maxRecDepth 20000 in
theorem gX6_slows_X1_fits : GoodIn wsX6_slows (wsV RX6 287 RX1 yX1_fits wsX1_fits) := goodIn_app (goodIn_of _ (by decide +kernel)) ggX6_slows_X1_fits
theorem dX6_slows_0 : decode cX6_slows 0 = .ok (.aload_n 0, 1) := by decide +kernel
theorem dX6_slows_1 : decode cX6_slows 1 = .ok (.getfield 12, 3) := by decide +kernel
theorem dX6_slows_4 : decode cX6_slows 4 = .ok (.iload_n 1, 1) := by decide +kernel
theorem dX6_slows_5 : decode cX6_slows 5 = .ok (.invokevirtual 162, 3) := by decide +kernel
theorem dX6_slows_8 : decode cX6_slows 8 = .ok (.ifCond .ne 5, 3) := by decide +kernel
theorem dX6_slows_11 : decode cX6_slows 11 = .ok (.iconst (-1), 1) := by decide +kernel
theorem dX6_slows_12 : decode cX6_slows 12 = .ok (.ireturn, 1) := by decide +kernel
theorem dX6_slows_13 : decode cX6_slows 13 = .ok (.iconst 0, 1) := by decide +kernel
theorem dX6_slows_14 : decode cX6_slows 14 = .ok (.istore_n 2, 1) := by decide +kernel
theorem dX6_slows_15 : decode cX6_slows 15 = .ok (.iconst 1, 1) := by decide +kernel
theorem dX6_slows_16 : decode cX6_slows 16 = .ok (.istore_n 3, 1) := by decide +kernel
theorem dX6_slows_17 : decode cX6_slows 17 = .ok (.iload_n 3, 1) := by decide +kernel
theorem dX6_slows_18 : decode cX6_slows 18 = .ok (.bipush 9, 2) := by decide +kernel
theorem dX6_slows_20 : decode cX6_slows 20 = .ok (.if_icmp .gt 44, 3) := by decide +kernel
theorem dX6_slows_23 : decode cX6_slows 23 = .ok (.aload_n 0, 1) := by decide +kernel
theorem dX6_slows_24 : decode cX6_slows 24 = .ok (.getfield 50, 3) := by decide +kernel
theorem dX6_slows_27 : decode cX6_slows 27 = .ok (.aload_n 0, 1) := by decide +kernel
theorem dX6_slows_28 : decode cX6_slows 28 = .ok (.getfield 12, 3) := by decide +kernel
theorem dX6_slows_31 : decode cX6_slows 31 = .ok (.aload_n 0, 1) := by decide +kernel
theorem dX6_slows_32 : decode cX6_slows 32 = .ok (.getfield 36, 3) := by decide +kernel
theorem dX6_slows_35 : decode cX6_slows 35 = .ok (.iload_n 1, 1) := by decide +kernel
theorem dX6_slows_36 : decode cX6_slows 36 = .ok (.aload_n 0, 1) := by decide +kernel
theorem dX6_slows_37 : decode cX6_slows 37 = .ok (.getfield 12, 3) := by decide +kernel
theorem dX6_slows_40 : decode cX6_slows 40 = .ok (.getfield 165, 3) := by decide +kernel
theorem dX6_slows_43 : decode cX6_slows 43 = .ok (.iload_n 1, 1) := by decide +kernel
theorem dX6_slows_44 : decode cX6_slows 44 = .ok (.iaload, 1) := by decide +kernel
theorem dX6_slows_45 : decode cX6_slows 45 = .ok (.iload_n 3, 1) := by decide +kernel
theorem dX6_slows_46 : decode cX6_slows 46 = .ok (.invokevirtual 287, 3) := by decide +kernel
theorem dX6_slows_49 : decode cX6_slows 49 = .ok (.ifCond .eq 9, 3) := by decide +kernel
theorem dX6_slows_52 : decode cX6_slows 52 = .ok (.iload_n 2, 1) := by decide +kernel
theorem dX6_slows_53 : decode cX6_slows 53 = .ok (.iconst 1, 1) := by decide +kernel
theorem dX6_slows_54 : decode cX6_slows 54 = .ok (.iload_n 3, 1) := by decide +kernel
theorem dX6_slows_55 : decode cX6_slows 55 = .ok (.ishl, 1) := by decide +kernel
theorem dX6_slows_56 : decode cX6_slows 56 = .ok (.ior, 1) := by decide +kernel
theorem dX6_slows_57 : decode cX6_slows 57 = .ok (.istore_n 2, 1) := by decide +kernel
theorem dX6_slows_58 : decode cX6_slows 58 = .ok (.iinc 3 1, 3) := by decide +kernel
theorem dX6_slows_61 : decode cX6_slows 61 = .ok (.goto (-44), 3) := by decide +kernel
theorem dX6_slows_64 : decode cX6_slows 64 = .ok (.iload_n 2, 1) := by decide +kernel
theorem dX6_slows_65 : decode cX6_slows 65 = .ok (.ireturn, 1) := by decide +kernel
set_option maxRecDepth 20000 in
theorem ggX6_ask_X0_hasJudge : GoodIn wsX6_ask wsX0_hasJudge := goodIn_r _ [7, 8, 9, 10, 11, 102, 103, 104, 105, 106, 107, 108, 109, 110, 111, 112, 113, 114, 115, 116, 117, 118] (by decide +kernel) (by decide +kernel)
set_option maxRecDepth 20000 in
theorem gX6_ask_X0_hasJudge : GoodIn wsX6_ask (wsV RX6 162 RX0 yX0_hasJudge wsX0_hasJudge) := goodIn_app (goodIn_of _ (by decide +kernel)) ggX6_ask_X0_hasJudge
set_option maxRecDepth 20000 in
theorem ggX6_ask_X6_isIn : GoodIn wsX6_ask wsX6_isIn := goodIn_r _ [11] (by decide +kernel) (by decide +kernel)
set_option maxRecDepth 20000 in
theorem gX6_ask_X6_isIn : GoodIn wsX6_ask (va_wsS RX6 72 yX6_isIn wsX6_isIn) := goodIn_app (goodIn_of _ (by decide +kernel)) ggX6_ask_X6_isIn
set_option maxRecDepth 20000 in
theorem ggX6_ask_X6_habitsAsSeen : GoodIn wsX6_ask wsX6_habitsAsSeen := goodIn_r _ [16, 17, 1, 18, 19, 20, 21, 22, 23, 24, 25, 26, 27, 28, 29, 30, 31, 32, 33, 34, 35, 36, 37, 38, 39, 40, 41, 42, 43, 44, 45, 46, 47, 48, 49, 50, 51, 52, 53, 54, 55, 56, 57, 58, 59, 60, 61, 62, 63, 64, 65, 66, 67, 68, 69, 70, 90, 91, 92, 93, 94, 95, 96, 97, 98, 99, 100, 101, 102, 103, 104, 105, 106, 107, 108, 109, 110, 111, 112, 113, 114, 115, 116, 117, 118, 119, 120, 121, 122, 123, 124, 125, 126, 127, 128, 129] (by decide +kernel) (by decide +kernel)
set_option maxRecDepth 20000 in
theorem gX6_ask_X6_habitsAsSeen : GoodIn wsX6_ask (wsV RX6 284 RX6 yX6_habitsAsSeen wsX6_habitsAsSeen) := goodIn_app (goodIn_of _ (by decide +kernel)) ggX6_ask_X6_habitsAsSeen
set_option maxRecDepth 20000 in
theorem ggX6_ask_J6_bitCount_0f7a4 : GoodIn wsX6_ask wsJ6_bitCount_0f7a4 := goodIn_r _ [74, 75, 76, 77] (by decide +kernel) (by decide +kernel)
set_option maxRecDepth 20000 in
theorem gX6_ask_J6_bitCount_0f7a4 : GoodIn wsX6_ask (va_wsS RX6 291 yJ6_bitCount_0f7a4 wsJ6_bitCount_0f7a4) := goodIn_app (goodIn_of _ (by decide +kernel)) ggX6_ask_J6_bitCount_0f7a4
set_option maxRecDepth 20000 in
theorem ggX6_ask_X6_leftAtTheWorst : GoodIn wsX6_ask wsX6_leftAtTheWorst := goodIn_r _ [81, 18, 82, 83, 55, 56, 57, 84, 85, 86, 10, 87, 1, 88, 32, 33, 34, 35, 36, 37, 38, 39, 40, 41, 42, 43, 44, 45, 46, 47, 48, 49, 50, 51, 52, 53, 54, 89, 59, 60, 61, 62, 63, 64, 65, 66, 67, 68, 69, 70, 90, 91, 92, 93, 94, 95, 96, 97, 98, 99, 100, 101, 123, 124, 125, 126, 127, 128, 129, 102, 103, 104, 105, 106, 107, 108, 109, 110, 111, 112, 113, 114, 115, 116, 117, 118] (by decide +kernel) (by decide +kernel)
set_option maxRecDepth 20000 in
theorem gX6_ask_X6_leftAtTheWorst : GoodIn wsX6_ask (wsV RX6 296 RX6 yX6_leftAtTheWorst wsX6_leftAtTheWorst) := goodIn_app (goodIn_of _ (by decide +kernel)) ggX6_ask_X6_leftAtTheWorst
theorem dX6_ask_0 : decode cX6_ask 0 = .ok (.aload_n 0, 1) := by decide +kernel
theorem dX6_ask_1 : decode cX6_ask 1 = .ok (.getfield 12, 3) := by decide +kernel
theorem dX6_ask_4 : decode cX6_ask 4 = .ok (.iload_n 1, 1) := by decide +kernel
theorem dX6_ask_5 : decode cX6_ask 5 = .ok (.invokevirtual 162, 3) := by decide +kernel
theorem dX6_ask_8 : decode cX6_ask 8 = .ok (.ifCond .eq 13, 3) := by decide +kernel
theorem dX6_ask_11 : decode cX6_ask 11 = .ok (.iload_n 2, 1) := by decide +kernel
theorem dX6_ask_12 : decode cX6_ask 12 = .ok (.i2l, 1) := by decide +kernel
theorem dX6_ask_13 : decode cX6_ask 13 = .ok (.iconst 0, 1) := by decide +kernel
theorem dX6_ask_14 : decode cX6_ask 14 = .ok (.iconst 1, 1) := by decide +kernel
theorem dX6_ask_15 : decode cX6_ask 15 = .ok (.invokestatic 72, 3) := by decide +kernel
theorem dX6_ask_18 : decode cX6_ask 18 = .ok (.ifCond .ne 5, 3) := by decide +kernel
theorem dX6_ask_21 : decode cX6_ask 21 = .ok (.iconst (-1), 1) := by decide +kernel
theorem dX6_ask_22 : decode cX6_ask 22 = .ok (.ireturn, 1) := by decide +kernel
theorem dX6_ask_23 : decode cX6_ask 23 = .ok (.aload_n 0, 1) := by decide +kernel
theorem dX6_ask_24 : decode cX6_ask 24 = .ok (.iload_n 1, 1) := by decide +kernel
theorem dX6_ask_25 : decode cX6_ask 25 = .ok (.invokevirtual 284, 3) := by decide +kernel
theorem dX6_ask_28 : decode cX6_ask 28 = .ok (.istore_n 3, 1) := by decide +kernel
theorem dX6_ask_29 : decode cX6_ask 29 = .ok (.iload_n 3, 1) := by decide +kernel
theorem dX6_ask_30 : decode cX6_ask 30 = .ok (.invokestatic 291, 3) := by decide +kernel
theorem dX6_ask_33 : decode cX6_ask 33 = .ok (.istore 4, 2) := by decide +kernel
theorem dX6_ask_35 : decode cX6_ask 35 = .ok (.bipush (-4), 2) := by decide +kernel
theorem dX6_ask_37 : decode cX6_ask 37 = .ok (.istore 5, 2) := by decide +kernel
theorem dX6_ask_39 : decode cX6_ask 39 = .ok (.iconst 0, 1) := by decide +kernel
theorem dX6_ask_40 : decode cX6_ask 40 = .ok (.istore 6, 2) := by decide +kernel
theorem dX6_ask_42 : decode cX6_ask 42 = .ok (.iload 6, 2) := by decide +kernel
theorem dX6_ask_44 : decode cX6_ask 44 = .ok (.aload_n 0, 1) := by decide +kernel
theorem dX6_ask_45 : decode cX6_ask 45 = .ok (.getfield 12, 3) := by decide +kernel
theorem dX6_ask_48 : decode cX6_ask 48 = .ok (.getfield 110, 3) := by decide +kernel
theorem dX6_ask_51 : decode cX6_ask 51 = .ok (.if_icmp .ge 34, 3) := by decide +kernel
theorem dX6_ask_54 : decode cX6_ask 54 = .ok (.aload_n 0, 1) := by decide +kernel
theorem dX6_ask_55 : decode cX6_ask 55 = .ok (.iload 6, 2) := by decide +kernel
theorem dX6_ask_57 : decode cX6_ask 57 = .ok (.iload_n 1, 1) := by decide +kernel
theorem dX6_ask_58 : decode cX6_ask 58 = .ok (.iload_n 3, 1) := by decide +kernel
theorem dX6_ask_59 : decode cX6_ask 59 = .ok (.invokevirtual 296, 3) := by decide +kernel
theorem dX6_ask_62 : decode cX6_ask 62 = .ok (.istore 7, 2) := by decide +kernel
theorem dX6_ask_64 : decode cX6_ask 64 = .ok (.iload 7, 2) := by decide +kernel
theorem dX6_ask_66 : decode cX6_ask 66 = .ok (.iload 4, 2) := by decide +kernel
theorem dX6_ask_68 : decode cX6_ask 68 = .ok (.if_icmp .ge 11, 3) := by decide +kernel
theorem dX6_ask_71 : decode cX6_ask 71 = .ok (.iload 7, 2) := by decide +kernel
theorem dX6_ask_73 : decode cX6_ask 73 = .ok (.istore 4, 2) := by decide +kernel
theorem dX6_ask_75 : decode cX6_ask 75 = .ok (.iload 6, 2) := by decide +kernel
theorem dX6_ask_77 : decode cX6_ask 77 = .ok (.istore 5, 2) := by decide +kernel
theorem dX6_ask_79 : decode cX6_ask 79 = .ok (.iinc 6 1, 3) := by decide +kernel
theorem dX6_ask_82 : decode cX6_ask 82 = .ok (.goto (-40), 3) := by decide +kernel
theorem dX6_ask_85 : decode cX6_ask 85 = .ok (.iload 5, 2) := by decide +kernel
theorem dX6_ask_87 : decode cX6_ask 87 = .ok (.bipush (-4), 2) := by decide +kernel
theorem dX6_ask_89 : decode cX6_ask 89 = .ok (.if_icmp .eq 7, 3) := by decide +kernel
theorem dX6_ask_92 : decode cX6_ask 92 = .ok (.iload_n 2, 1) := by decide +kernel
theorem dX6_ask_93 : decode cX6_ask 93 = .ok (.ifCond .ne 8, 3) := by decide +kernel
theorem dX6_ask_96 : decode cX6_ask 96 = .ok (.iload 5, 2) := by decide +kernel
theorem dX6_ask_98 : decode cX6_ask 98 = .ok (.goto 5, 3) := by decide +kernel
theorem dX6_ask_101 : decode cX6_ask 101 = .ok (.iload 4, 2) := by decide +kernel
theorem dX6_ask_103 : decode cX6_ask 103 = .ok (.ireturn, 1) := by decide +kernel
set_option maxRecDepth 20000 in
theorem ggX6_drift_X6_isIn : GoodIn wsX6_drift wsX6_isIn := goodIn_r _ [10] (by decide +kernel) (by decide +kernel)
set_option maxRecDepth 20000 in
theorem gX6_drift_X6_isIn : GoodIn wsX6_drift (va_wsS RX6 72 yX6_isIn wsX6_isIn) := goodIn_app (goodIn_of _ (by decide +kernel)) ggX6_drift_X6_isIn
set_option maxRecDepth 20000 in
theorem ggX6_drift_X6_copyRow : GoodIn wsX6_drift wsX6_copyRow := goodIn_r _ [13, 14, 15, 16, 17, 18, 19, 20, 21] (by decide +kernel) (by decide +kernel)
set_option maxRecDepth 20000 in
theorem gX6_drift_X6_copyRow : GoodIn wsX6_drift (va_wsS RX6 300 yX6_copyRow wsX6_copyRow) := goodIn_app (goodIn_of _ (by decide +kernel)) ggX6_drift_X6_copyRow
set_option maxRecDepth 20000 in
theorem ggX6_drift_X6_driftVerdict : GoodIn wsX6_drift wsX6_driftVerdict := goodIn_r _ [25, 1, 2, 3, 5, 26, 27, 28, 29, 30, 9, 31, 32, 33, 34, 35, 36, 37, 38, 39, 40, 41, 42, 43, 44, 45, 46, 47, 48, 49, 50, 51, 52, 53, 54, 55, 56, 16, 57, 58, 59, 60, 61, 62, 63, 64, 65, 66, 67, 68, 69, 70, 71, 72, 73, 74, 81, 82, 83, 84, 85, 86, 87, 88, 89, 90, 91, 92, 93, 94, 95, 96, 97, 98, 99, 100, 101, 102, 103, 104, 105, 106, 107, 108, 109, 110, 111, 112, 113, 114, 115, 116] (by decide +kernel) (by decide +kernel)
set_option maxRecDepth 20000 in
theorem gX6_drift_X6_driftVerdict : GoodIn wsX6_drift (wsV RX6 305 RX6 yX6_driftVerdict wsX6_driftVerdict) := goodIn_app (goodIn_of _ (by decide +kernel)) ggX6_drift_X6_driftVerdict
set_option maxRecDepth 20000 in
theorem ggX6_drift_X0_sumOf : GoodIn wsX6_drift wsX0_sumOf := goodIn_r _ [79, 80, 93, 94, 95, 96, 97, 98, 99, 100, 101, 102, 103, 104, 105, 106, 107, 108, 109] (by decide +kernel) (by decide +kernel)
set_option maxRecDepth 20000 in
theorem gX6_drift_X0_sumOf : GoodIn wsX6_drift (wsV RX6 132 RX0 yX0_sumOf wsX0_sumOf) := goodIn_app (goodIn_of _ (by decide +kernel)) ggX6_drift_X0_sumOf
theorem dX6_drift_0 : decode cX6_drift 0 = .ok (.iload_n 2, 1) := by decide +kernel
theorem dX6_drift_1 : decode cX6_drift 1 = .ok (.i2l, 1) := by decide +kernel
theorem dX6_drift_2 : decode cX6_drift 2 = .ok (.iconst 1, 1) := by decide +kernel
theorem dX6_drift_3 : decode cX6_drift 3 = .ok (.bipush 60, 2) := by decide +kernel
theorem dX6_drift_5 : decode cX6_drift 5 = .ok (.invokestatic 72, 3) := by decide +kernel
theorem dX6_drift_8 : decode cX6_drift 8 = .ok (.ifCond .eq 13, 3) := by decide +kernel
theorem dX6_drift_11 : decode cX6_drift 11 = .ok (.iload_n 3, 1) := by decide +kernel
theorem dX6_drift_12 : decode cX6_drift 12 = .ok (.i2l, 1) := by decide +kernel
theorem dX6_drift_13 : decode cX6_drift 13 = .ok (.iconst 0, 1) := by decide +kernel
theorem dX6_drift_14 : decode cX6_drift 14 = .ok (.iconst 1, 1) := by decide +kernel
theorem dX6_drift_15 : decode cX6_drift 15 = .ok (.invokestatic 72, 3) := by decide +kernel
theorem dX6_drift_18 : decode cX6_drift 18 = .ok (.ifCond .ne 5, 3) := by decide +kernel
theorem dX6_drift_21 : decode cX6_drift 21 = .ok (.iconst (-1), 1) := by decide +kernel
theorem dX6_drift_22 : decode cX6_drift 22 = .ok (.ireturn, 1) := by decide +kernel
theorem dX6_drift_23 : decode cX6_drift 23 = .ok (.aload_n 0, 1) := by decide +kernel
theorem dX6_drift_24 : decode cX6_drift 24 = .ok (.getfield 12, 3) := by decide +kernel
theorem dX6_drift_27 : decode cX6_drift 27 = .ok (.getfield 110, 3) := by decide +kernel
theorem dX6_drift_30 : decode cX6_drift 30 = .ok (.ifCond .eq 13, 3) := by decide +kernel
theorem dX6_drift_33 : decode cX6_drift 33 = .ok (.aload_n 0, 1) := by decide +kernel
theorem dX6_drift_34 : decode cX6_drift 34 = .ok (.getfield 12, 3) := by decide +kernel
theorem dX6_drift_37 : decode cX6_drift 37 = .ok (.getfield 113, 3) := by decide +kernel
theorem dX6_drift_40 : decode cX6_drift 40 = .ok (.ifCond .ne 6, 3) := by decide +kernel
theorem dX6_drift_43 : decode cX6_drift 43 = .ok (.bipush (-2), 2) := by decide +kernel
theorem dX6_drift_45 : decode cX6_drift 45 = .ok (.ireturn, 1) := by decide +kernel
theorem dX6_drift_46 : decode cX6_drift 46 = .ok (.aload_n 0, 1) := by decide +kernel
theorem dX6_drift_47 : decode cX6_drift 47 = .ok (.getfield 12, 3) := by decide +kernel
theorem dX6_drift_50 : decode cX6_drift 50 = .ok (.getfield 129, 3) := by decide +kernel
theorem dX6_drift_53 : decode cX6_drift 53 = .ok (.aload_n 0, 1) := by decide +kernel
theorem dX6_drift_54 : decode cX6_drift 54 = .ok (.getfield 65, 3) := by decide +kernel
theorem dX6_drift_57 : decode cX6_drift 57 = .ok (.invokestatic 300, 3) := by decide +kernel
theorem dX6_drift_60 : decode cX6_drift 60 = .ok (.iconst 0, 1) := by decide +kernel
theorem dX6_drift_61 : decode cX6_drift 61 = .ok (.istore 4, 2) := by decide +kernel
theorem dX6_drift_63 : decode cX6_drift 63 = .ok (.iload_n 1, 1) := by decide +kernel
theorem dX6_drift_64 : decode cX6_drift 64 = .ok (.istore 5, 2) := by decide +kernel
theorem dX6_drift_66 : decode cX6_drift 66 = .ok (.iconst 0, 1) := by decide +kernel
theorem dX6_drift_67 : decode cX6_drift 67 = .ok (.istore 6, 2) := by decide +kernel
theorem dX6_drift_69 : decode cX6_drift 69 = .ok (.iload 6, 2) := by decide +kernel
theorem dX6_drift_71 : decode cX6_drift 71 = .ok (.iload_n 2, 1) := by decide +kernel
theorem dX6_drift_72 : decode cX6_drift 72 = .ok (.if_icmp .ge 48, 3) := by decide +kernel
theorem dX6_drift_75 : decode cX6_drift 75 = .ok (.iload 5, 2) := by decide +kernel
theorem dX6_drift_77 : decode cX6_drift 77 = .ok (.ldc_w 304, 3) := by decide +kernel
theorem dX6_drift_80 : decode cX6_drift 80 = .ok (.imul, 1) := by decide +kernel
theorem dX6_drift_81 : decode cX6_drift 81 = .ok (.sipush 12345, 3) := by decide +kernel
theorem dX6_drift_84 : decode cX6_drift 84 = .ok (.iadd, 1) := by decide +kernel
theorem dX6_drift_85 : decode cX6_drift 85 = .ok (.istore 5, 2) := by decide +kernel
theorem dX6_drift_87 : decode cX6_drift 87 = .ok (.iload 4, 2) := by decide +kernel
theorem dX6_drift_89 : decode cX6_drift 89 = .ok (.aload_n 0, 1) := by decide +kernel
theorem dX6_drift_90 : decode cX6_drift 90 = .ok (.iload 5, 2) := by decide +kernel
theorem dX6_drift_92 : decode cX6_drift 92 = .ok (.bipush 16, 2) := by decide +kernel
theorem dX6_drift_94 : decode cX6_drift 94 = .ok (.iushr, 1) := by decide +kernel
theorem dX6_drift_95 : decode cX6_drift 95 = .ok (.sipush 32767, 3) := by decide +kernel
theorem dX6_drift_98 : decode cX6_drift 98 = .ok (.iand, 1) := by decide +kernel
theorem dX6_drift_99 : decode cX6_drift 99 = .ok (.invokevirtual 305, 3) := by decide +kernel
theorem dX6_drift_102 : decode cX6_drift 102 = .ok (.iconst 1, 1) := by decide +kernel
theorem dX6_drift_103 : decode cX6_drift 103 = .ok (.if_icmp .ne 7, 3) := by decide +kernel
theorem dX6_drift_106 : decode cX6_drift 106 = .ok (.iconst 1, 1) := by decide +kernel
theorem dX6_drift_107 : decode cX6_drift 107 = .ok (.goto 4, 3) := by decide +kernel
theorem dX6_drift_110 : decode cX6_drift 110 = .ok (.iconst 0, 1) := by decide +kernel
theorem dX6_drift_111 : decode cX6_drift 111 = .ok (.iadd, 1) := by decide +kernel
theorem dX6_drift_112 : decode cX6_drift 112 = .ok (.istore 4, 2) := by decide +kernel
theorem dX6_drift_114 : decode cX6_drift 114 = .ok (.iinc 6 1, 3) := by decide +kernel
theorem dX6_drift_117 : decode cX6_drift 117 = .ok (.goto (-48), 3) := by decide +kernel
theorem dX6_drift_120 : decode cX6_drift 120 = .ok (.iload_n 3, 1) := by decide +kernel
theorem dX6_drift_121 : decode cX6_drift 121 = .ok (.ifCond .ne 8, 3) := by decide +kernel
theorem dX6_drift_124 : decode cX6_drift 124 = .ok (.iload 4, 2) := by decide +kernel
theorem dX6_drift_126 : decode cX6_drift 126 = .ok (.goto 14, 3) := by decide +kernel
theorem dX6_drift_129 : decode cX6_drift 129 = .ok (.aload_n 0, 1) := by decide +kernel
theorem dX6_drift_130 : decode cX6_drift 130 = .ok (.getfield 12, 3) := by decide +kernel
theorem dX6_drift_133 : decode cX6_drift 133 = .ok (.aload_n 0, 1) := by decide +kernel
theorem dX6_drift_134 : decode cX6_drift 134 = .ok (.getfield 65, 3) := by decide +kernel
theorem dX6_drift_137 : decode cX6_drift 137 = .ok (.invokevirtual 132, 3) := by decide +kernel
theorem dX6_drift_140 : decode cX6_drift 140 = .ok (.ireturn, 1) := by decide +kernel
set_option maxRecDepth 20000 in
theorem ggX6_keep_X6_isIn : GoodIn wsX6_keep wsX6_isIn := goodIn_r _ [6] (by decide +kernel) (by decide +kernel)
set_option maxRecDepth 20000 in
theorem gX6_keep_X6_isIn : GoodIn wsX6_keep (va_wsS RX6 72 yX6_isIn wsX6_isIn) := goodIn_app (goodIn_of _ (by decide +kernel)) ggX6_keep_X6_isIn
set_option maxRecDepth 20000 in
theorem ggX6_keep_X6_imageOf : GoodIn wsX6_keep wsX6_imageOf := goodIn_r _ [10, 11, 12, 45, 46, 47, 48, 49, 50, 51, 52, 53, 54, 55, 56] (by decide +kernel) (by decide +kernel)
set_option maxRecDepth 20000 in
theorem gX6_keep_X6_imageOf : GoodIn wsX6_keep (wsV RX6 308 RX6 yX6_imageOf wsX6_imageOf) := goodIn_app (goodIn_of _ (by decide +kernel)) ggX6_keep_X6_imageOf
set_option maxRecDepth 20000 in
theorem ggX6_keep_X0_becomes : GoodIn wsX6_keep wsX0_becomes := goodIn_r _ [17, 18, 19, 20, 21, 22, 23, 24, 25, 26, 27, 28, 29, 30, 31, 32, 33, 34, 35, 5, 36, 37, 38, 39, 40, 41, 42, 43, 44, 57, 58, 59, 60, 61, 62, 63, 64, 65, 66, 67, 68, 69, 70, 71, 72, 73] (by decide +kernel) (by decide +kernel)
set_option maxRecDepth 20000 in
theorem gX6_keep_X0_becomes : GoodIn wsX6_keep (wsV RX6 102 RX0 yX0_becomes wsX0_becomes) := goodIn_app (goodIn_of _ (by decide +kernel)) ggX6_keep_X0_becomes
theorem dX6_keep_0 : decode cX6_keep 0 = .ok (.iload_n 1, 1) := by decide +kernel
theorem dX6_keep_1 : decode cX6_keep 1 = .ok (.i2l, 1) := by decide +kernel
theorem dX6_keep_2 : decode cX6_keep 2 = .ok (.iconst 0, 1) := by decide +kernel
theorem dX6_keep_3 : decode cX6_keep 3 = .ok (.iconst 1, 1) := by decide +kernel
theorem dX6_keep_4 : decode cX6_keep 4 = .ok (.invokestatic 72, 3) := by decide +kernel
theorem dX6_keep_7 : decode cX6_keep 7 = .ok (.ifCond .ne 5, 3) := by decide +kernel
theorem dX6_keep_10 : decode cX6_keep 10 = .ok (.iconst (-1), 1) := by decide +kernel
theorem dX6_keep_11 : decode cX6_keep 11 = .ok (.ireturn, 1) := by decide +kernel
theorem dX6_keep_12 : decode cX6_keep 12 = .ok (.aload_n 0, 1) := by decide +kernel
theorem dX6_keep_13 : decode cX6_keep 13 = .ok (.getfield 22, 3) := by decide +kernel
theorem dX6_keep_16 : decode cX6_keep 16 = .ok (.iload_n 1, 1) := by decide +kernel
theorem dX6_keep_17 : decode cX6_keep 17 = .ok (.baload, 1) := by decide +kernel
theorem dX6_keep_18 : decode cX6_keep 18 = .ok (.ifCond .eq 7, 3) := by decide +kernel
theorem dX6_keep_21 : decode cX6_keep 21 = .ok (.iconst 1, 1) := by decide +kernel
theorem dX6_keep_22 : decode cX6_keep 22 = .ok (.goto 4, 3) := by decide +kernel
theorem dX6_keep_25 : decode cX6_keep 25 = .ok (.iconst 0, 1) := by decide +kernel
theorem dX6_keep_26 : decode cX6_keep 26 = .ok (.istore_n 2, 1) := by decide +kernel
theorem dX6_keep_27 : decode cX6_keep 27 = .ok (.aload_n 0, 1) := by decide +kernel
theorem dX6_keep_28 : decode cX6_keep 28 = .ok (.iload_n 1, 1) := by decide +kernel
theorem dX6_keep_29 : decode cX6_keep 29 = .ok (.invokevirtual 308, 3) := by decide +kernel
theorem dX6_keep_32 : decode cX6_keep 32 = .ok (.aload_n 0, 1) := by decide +kernel
theorem dX6_keep_33 : decode cX6_keep 33 = .ok (.getfield 12, 3) := by decide +kernel
theorem dX6_keep_36 : decode cX6_keep 36 = .ok (.invokevirtual 102, 3) := by decide +kernel
theorem dX6_keep_39 : decode cX6_keep 39 = .ok (.aload_n 0, 1) := by decide +kernel
theorem dX6_keep_40 : decode cX6_keep 40 = .ok (.getfield 22, 3) := by decide +kernel
theorem dX6_keep_43 : decode cX6_keep 43 = .ok (.iload_n 1, 1) := by decide +kernel
theorem dX6_keep_44 : decode cX6_keep 44 = .ok (.iconst 1, 1) := by decide +kernel
theorem dX6_keep_45 : decode cX6_keep 45 = .ok (.bastore, 1) := by decide +kernel
theorem dX6_keep_46 : decode cX6_keep 46 = .ok (.iload_n 2, 1) := by decide +kernel
theorem dX6_keep_47 : decode cX6_keep 47 = .ok (.ireturn, 1) := by decide +kernel
set_option maxRecDepth 20000 in
theorem ggX6_back_X6_isIn : GoodIn wsX6_back wsX6_isIn := goodIn_r _ [7] (by decide +kernel) (by decide +kernel)
set_option maxRecDepth 20000 in
theorem gX6_back_X6_isIn : GoodIn wsX6_back (va_wsS RX6 72 yX6_isIn wsX6_isIn) := goodIn_app (goodIn_of _ (by decide +kernel)) ggX6_back_X6_isIn
set_option maxRecDepth 20000 in
theorem ggX6_back_X6_imageOf : GoodIn wsX6_back wsX6_imageOf := goodIn_r _ [11, 12, 13, 50, 51, 52, 53, 54, 55, 56, 57, 58, 59, 60, 61] (by decide +kernel) (by decide +kernel)
set_option maxRecDepth 20000 in
theorem gX6_back_X6_imageOf : GoodIn wsX6_back (wsV RX6 308 RX6 yX6_imageOf wsX6_imageOf) := goodIn_app (goodIn_of _ (by decide +kernel)) ggX6_back_X6_imageOf
set_option maxRecDepth 20000 in
theorem ggX6_back_X0_becomes : GoodIn wsX6_back wsX0_becomes := goodIn_r _ [18, 19, 20, 21, 22, 23, 24, 25, 26, 27, 28, 29, 30, 31, 32, 33, 34, 35, 36, 6, 37, 38, 39, 40, 41, 42, 43, 44, 45, 62, 63, 64, 65, 66, 67, 68, 69, 70, 71, 72, 73, 74, 75, 76, 77, 78] (by decide +kernel) (by decide +kernel)
set_option maxRecDepth 20000 in
theorem gX6_back_X0_becomes : GoodIn wsX6_back (wsV RX6 102 RX0 yX0_becomes wsX0_becomes) := goodIn_app (goodIn_of _ (by decide +kernel)) ggX6_back_X0_becomes
set_option maxRecDepth 20000 in
theorem ggX6_back_X0_sumOf : GoodIn wsX6_back wsX0_sumOf := goodIn_r _ [49, 19, 62, 63, 64, 65, 66, 67, 68, 69, 70, 71, 72, 73, 74, 75, 76, 77, 78] (by decide +kernel) (by decide +kernel)
set_option maxRecDepth 20000 in
theorem gX6_back_X0_sumOf : GoodIn wsX6_back (wsV RX6 132 RX0 yX0_sumOf wsX0_sumOf) := goodIn_app (goodIn_of _ (by decide +kernel)) ggX6_back_X0_sumOf
theorem dX6_back_0 : decode cX6_back 0 = .ok (.iload_n 1, 1) := by decide +kernel
theorem dX6_back_1 : decode cX6_back 1 = .ok (.i2l, 1) := by decide +kernel
theorem dX6_back_2 : decode cX6_back 2 = .ok (.iconst 0, 1) := by decide +kernel
theorem dX6_back_3 : decode cX6_back 3 = .ok (.iconst 1, 1) := by decide +kernel
theorem dX6_back_4 : decode cX6_back 4 = .ok (.invokestatic 72, 3) := by decide +kernel
theorem dX6_back_7 : decode cX6_back 7 = .ok (.ifCond .ne 5, 3) := by decide +kernel
theorem dX6_back_10 : decode cX6_back 10 = .ok (.iconst (-1), 1) := by decide +kernel
theorem dX6_back_11 : decode cX6_back 11 = .ok (.ireturn, 1) := by decide +kernel
theorem dX6_back_12 : decode cX6_back 12 = .ok (.aload_n 0, 1) := by decide +kernel
theorem dX6_back_13 : decode cX6_back 13 = .ok (.getfield 22, 3) := by decide +kernel
theorem dX6_back_16 : decode cX6_back 16 = .ok (.iload_n 1, 1) := by decide +kernel
theorem dX6_back_17 : decode cX6_back 17 = .ok (.baload, 1) := by decide +kernel
theorem dX6_back_18 : decode cX6_back 18 = .ok (.ifCond .ne 6, 3) := by decide +kernel
theorem dX6_back_21 : decode cX6_back 21 = .ok (.bipush (-2), 2) := by decide +kernel
theorem dX6_back_23 : decode cX6_back 23 = .ok (.ireturn, 1) := by decide +kernel
theorem dX6_back_24 : decode cX6_back 24 = .ok (.aload_n 0, 1) := by decide +kernel
theorem dX6_back_25 : decode cX6_back 25 = .ok (.getfield 12, 3) := by decide +kernel
theorem dX6_back_28 : decode cX6_back 28 = .ok (.aload_n 0, 1) := by decide +kernel
theorem dX6_back_29 : decode cX6_back 29 = .ok (.iload_n 1, 1) := by decide +kernel
theorem dX6_back_30 : decode cX6_back 30 = .ok (.invokevirtual 308, 3) := by decide +kernel
theorem dX6_back_33 : decode cX6_back 33 = .ok (.invokevirtual 102, 3) := by decide +kernel
theorem dX6_back_36 : decode cX6_back 36 = .ok (.aload_n 0, 1) := by decide +kernel
theorem dX6_back_37 : decode cX6_back 37 = .ok (.getfield 12, 3) := by decide +kernel
theorem dX6_back_40 : decode cX6_back 40 = .ok (.aload_n 0, 1) := by decide +kernel
theorem dX6_back_41 : decode cX6_back 41 = .ok (.getfield 12, 3) := by decide +kernel
theorem dX6_back_44 : decode cX6_back 44 = .ok (.getfield 129, 3) := by decide +kernel
theorem dX6_back_47 : decode cX6_back 47 = .ok (.invokevirtual 132, 3) := by decide +kernel
theorem dX6_back_50 : decode cX6_back 50 = .ok (.ireturn, 1) := by decide +kernel
set_option maxRecDepth 20000 in
theorem ggX6_sheet_X6_isSheet : GoodIn wsX6_sheet wsX6_isSheet := goodIn_r _ [5, 6, 7, 4, 8] (by decide +kernel) (by decide +kernel)
set_option maxRecDepth 20000 in
theorem gX6_sheet_X6_isSheet : GoodIn wsX6_sheet (va_wsS RX6 312 yX6_isSheet wsX6_isSheet) := goodIn_app (goodIn_of _ (by decide +kernel)) ggX6_sheet_X6_isSheet
set_option maxRecDepth 20000 in
theorem ggX6_sheet_X4_renew : GoodIn wsX6_sheet wsX4_renew := goodIn_r _ [13, 14, 15, 16, 29, 30, 31] (by decide +kernel) (by decide +kernel)
set_option maxRecDepth 20000 in
theorem gX6_sheet_X4_renew : GoodIn wsX6_sheet (wsV RX6 315 RX4 yX4_renew wsX4_renew) := goodIn_app (goodIn_of _ (by decide +kernel)) ggX6_sheet_X4_renew
theorem dX6_sheet_0 : decode cX6_sheet 0 = .ok (.iload_n 1, 1) := by decide +kernel
theorem dX6_sheet_1 : decode cX6_sheet 1 = .ok (.iload_n 2, 1) := by decide +kernel
theorem dX6_sheet_2 : decode cX6_sheet 2 = .ok (.invokestatic 312, 3) := by decide +kernel
theorem dX6_sheet_5 : decode cX6_sheet 5 = .ok (.ifCond .eq 9, 3) := by decide +kernel
theorem dX6_sheet_8 : decode cX6_sheet 8 = .ok (.iload_n 3, 1) := by decide +kernel
theorem dX6_sheet_9 : decode cX6_sheet 9 = .ok (.bipush 40, 2) := by decide +kernel
theorem dX6_sheet_11 : decode cX6_sheet 11 = .ok (.if_icmp .le 5, 3) := by decide +kernel
theorem dX6_sheet_14 : decode cX6_sheet 14 = .ok (.iconst (-1), 1) := by decide +kernel
theorem dX6_sheet_15 : decode cX6_sheet 15 = .ok (.ireturn, 1) := by decide +kernel
theorem dX6_sheet_16 : decode cX6_sheet 16 = .ok (.iload_n 3, 1) := by decide +kernel
theorem dX6_sheet_17 : decode cX6_sheet 17 = .ok (.ifCond .ge 6, 3) := by decide +kernel
theorem dX6_sheet_20 : decode cX6_sheet 20 = .ok (.bipush (-14), 2) := by decide +kernel
theorem dX6_sheet_22 : decode cX6_sheet 22 = .ok (.ireturn, 1) := by decide +kernel
theorem dX6_sheet_23 : decode cX6_sheet 23 = .ok (.aload_n 0, 1) := by decide +kernel
theorem dX6_sheet_24 : decode cX6_sheet 24 = .ok (.getfield 57, 3) := by decide +kernel
theorem dX6_sheet_27 : decode cX6_sheet 27 = .ok (.iload_n 1, 1) := by decide +kernel
theorem dX6_sheet_28 : decode cX6_sheet 28 = .ok (.iload_n 2, 1) := by decide +kernel
theorem dX6_sheet_29 : decode cX6_sheet 29 = .ok (.iload_n 3, 1) := by decide +kernel
theorem dX6_sheet_30 : decode cX6_sheet 30 = .ok (.invokevirtual 315, 3) := by decide +kernel
theorem dX6_sheet_33 : decode cX6_sheet 33 = .ok (.iconst 1, 1) := by decide +kernel
theorem dX6_sheet_34 : decode cX6_sheet 34 = .ok (.ireturn, 1) := by decide +kernel
set_option maxRecDepth 20000 in
theorem ggX6_lay_X6_isSheet : GoodIn wsX6_lay wsX6_isSheet := goodIn_r _ [5, 6, 7, 4, 8] (by decide +kernel) (by decide +kernel)
set_option maxRecDepth 20000 in
theorem gX6_lay_X6_isSheet : GoodIn wsX6_lay (va_wsS RX6 312 yX6_isSheet wsX6_isSheet) := goodIn_app (goodIn_of _ (by decide +kernel)) ggX6_lay_X6_isSheet
set_option maxRecDepth 20000 in
theorem ggX6_lay_X4_isNothing : GoodIn wsX6_lay wsX4_isNothing := goodIn_r _ [13, 14, 37, 38, 39] (by decide +kernel) (by decide +kernel)
set_option maxRecDepth 20000 in
theorem gX6_lay_X4_isNothing : GoodIn wsX6_lay (wsV RX6 318 RX4 yX4_isNothing wsX4_isNothing) := goodIn_app (goodIn_of _ (by decide +kernel)) ggX6_lay_X4_isNothing
set_option maxRecDepth 20000 in
theorem ggX6_lay_X4_hasCell : GoodIn wsX6_lay wsX4_hasCell := goodIn_r _ [18, 14, 7, 4, 8, 37, 38, 39] (by decide +kernel) (by decide +kernel)
set_option maxRecDepth 20000 in
theorem gX6_lay_X4_hasCell : GoodIn wsX6_lay (wsV RX6 321 RX4 yX4_hasCell wsX4_hasCell) := goodIn_app (goodIn_of _ (by decide +kernel)) ggX6_lay_X4_hasCell
set_option maxRecDepth 20000 in
theorem ggX6_lay_X4_put : GoodIn wsX6_lay wsX4_put := goodIn_r _ [22, 23, 24, 37, 38, 39] (by decide +kernel) (by decide +kernel)
set_option maxRecDepth 20000 in
theorem gX6_lay_X4_put : GoodIn wsX6_lay (wsV RX6 324 RX4 yX4_put wsX4_put) := goodIn_app (goodIn_of _ (by decide +kernel)) ggX6_lay_X4_put
theorem dX6_lay_0 : decode cX6_lay 0 = .ok (.iload_n 1, 1) := by decide +kernel
theorem dX6_lay_1 : decode cX6_lay 1 = .ok (.iconst 0, 1) := by decide +kernel
theorem dX6_lay_2 : decode cX6_lay 2 = .ok (.invokestatic 312, 3) := by decide +kernel
theorem dX6_lay_5 : decode cX6_lay 5 = .ok (.ifCond .ne 5, 3) := by decide +kernel
theorem dX6_lay_8 : decode cX6_lay 8 = .ok (.iconst (-1), 1) := by decide +kernel
theorem dX6_lay_9 : decode cX6_lay 9 = .ok (.ireturn, 1) := by decide +kernel
theorem dX6_lay_10 : decode cX6_lay 10 = .ok (.aload_n 0, 1) := by decide +kernel
theorem dX6_lay_11 : decode cX6_lay 11 = .ok (.getfield 57, 3) := by decide +kernel
theorem dX6_lay_14 : decode cX6_lay 14 = .ok (.iload_n 1, 1) := by decide +kernel
theorem dX6_lay_15 : decode cX6_lay 15 = .ok (.invokevirtual 318, 3) := by decide +kernel
theorem dX6_lay_18 : decode cX6_lay 18 = .ok (.ifCond .eq 6, 3) := by decide +kernel
theorem dX6_lay_21 : decode cX6_lay 21 = .ok (.bipush (-11), 2) := by decide +kernel
theorem dX6_lay_23 : decode cX6_lay 23 = .ok (.ireturn, 1) := by decide +kernel
theorem dX6_lay_24 : decode cX6_lay 24 = .ok (.aload_n 0, 1) := by decide +kernel
theorem dX6_lay_25 : decode cX6_lay 25 = .ok (.getfield 57, 3) := by decide +kernel
theorem dX6_lay_28 : decode cX6_lay 28 = .ok (.iload_n 1, 1) := by decide +kernel
theorem dX6_lay_29 : decode cX6_lay 29 = .ok (.iload_n 2, 1) := by decide +kernel
theorem dX6_lay_30 : decode cX6_lay 30 = .ok (.invokevirtual 321, 3) := by decide +kernel
theorem dX6_lay_33 : decode cX6_lay 33 = .ok (.ifCond .ne 6, 3) := by decide +kernel
theorem dX6_lay_36 : decode cX6_lay 36 = .ok (.bipush (-12), 2) := by decide +kernel
theorem dX6_lay_38 : decode cX6_lay 38 = .ok (.ireturn, 1) := by decide +kernel
theorem dX6_lay_39 : decode cX6_lay 39 = .ok (.aload_n 0, 1) := by decide +kernel
theorem dX6_lay_40 : decode cX6_lay 40 = .ok (.getfield 57, 3) := by decide +kernel
theorem dX6_lay_43 : decode cX6_lay 43 = .ok (.iload_n 1, 1) := by decide +kernel
theorem dX6_lay_44 : decode cX6_lay 44 = .ok (.iload_n 2, 1) := by decide +kernel
theorem dX6_lay_45 : decode cX6_lay 45 = .ok (.iload_n 3, 1) := by decide +kernel
theorem dX6_lay_46 : decode cX6_lay 46 = .ok (.invokevirtual 324, 3) := by decide +kernel
theorem dX6_lay_49 : decode cX6_lay 49 = .ok (.iconst 1, 1) := by decide +kernel
theorem dX6_lay_50 : decode cX6_lay 50 = .ok (.ireturn, 1) := by decide +kernel
set_option maxRecDepth 20000 in
theorem ggX6_read_X6_isSheet : GoodIn wsX6_read wsX6_isSheet := goodIn_r _ [6, 7, 8, 5, 9] (by decide +kernel) (by decide +kernel)
set_option maxRecDepth 20000 in
theorem gX6_read_X6_isSheet : GoodIn wsX6_read (va_wsS RX6 312 yX6_isSheet wsX6_isSheet) := goodIn_app (goodIn_of _ (by decide +kernel)) ggX6_read_X6_isSheet
set_option maxRecDepth 20000 in
theorem ggX6_read_X6_isIn : GoodIn wsX6_read wsX6_isIn := goodIn_r _ [9] (by decide +kernel) (by decide +kernel)
set_option maxRecDepth 20000 in
theorem gX6_read_X6_isIn : GoodIn wsX6_read (va_wsS RX6 72 yX6_isIn wsX6_isIn) := goodIn_app (goodIn_of _ (by decide +kernel)) ggX6_read_X6_isIn
set_option maxRecDepth 20000 in
theorem ggX6_read_X4_faultAs : GoodIn wsX6_read wsX4_faultAs := goodIn_r _ [14, 15, 16, 17, 18, 13, 19, 20, 124, 125, 126] (by decide +kernel) (by decide +kernel)
set_option maxRecDepth 20000 in
theorem gX6_read_X4_faultAs : GoodIn wsX6_read (wsV RX6 327 RX4 yX4_faultAs wsX4_faultAs) := goodIn_app (goodIn_of _ (by decide +kernel)) ggX6_read_X4_faultAs
set_option maxRecDepth 20000 in
theorem ggX6_read_X4_wholePairs : GoodIn wsX6_read wsX4_wholePairs := goodIn_r _ [24, 20, 25, 26, 27, 28, 29, 30, 31, 13, 32, 8, 5, 9, 124, 125, 126] (by decide +kernel) (by decide +kernel)
set_option maxRecDepth 20000 in
theorem gX6_read_X4_wholePairs : GoodIn wsX6_read (wsV RX6 330 RX4 yX4_wholePairs wsX4_wholePairs) := goodIn_app (goodIn_of _ (by decide +kernel)) ggX6_read_X4_wholePairs
set_option maxRecDepth 20000 in
theorem ggX6_read_X6_pairsAccepted : GoodIn wsX6_read wsX6_pairsAccepted := goodIn_r _ [36, 1, 37, 38, 39, 40, 41, 13, 42, 43, 29, 30, 31, 32, 20, 8, 5, 9, 44, 45, 46, 47, 48, 49, 50, 51, 52, 53, 54, 112, 113, 114, 115, 116, 117, 118, 119, 120, 121, 122, 123, 127, 128, 129, 130, 131, 132, 133, 134, 135, 136, 137, 138, 139, 140, 141, 142, 143, 124, 125, 126] (by decide +kernel) (by decide +kernel)
set_option maxRecDepth 20000 in
theorem gX6_read_X6_pairsAccepted : GoodIn wsX6_read (wsV RX6 333 RX6 yX6_pairsAccepted wsX6_pairsAccepted) := goodIn_app (goodIn_of _ (by decide +kernel)) ggX6_read_X6_pairsAccepted
set_option maxRecDepth 20000 in
theorem ggX6_read_X4_cell : GoodIn wsX6_read wsX4_cell := goodIn_r _ [42, 43, 29, 30, 31, 13, 32, 20, 8, 5, 9, 124, 125, 126] (by decide +kernel) (by decide +kernel)
set_option maxRecDepth 20000 in
theorem gX6_read_X4_cell : GoodIn wsX6_read (wsV RX6 336 RX4 yX4_cell wsX4_cell) := goodIn_app (goodIn_of _ (by decide +kernel)) ggX6_read_X4_cell
set_option maxRecDepth 20000 in
theorem ggX6_read_X6_hearForGood : GoodIn wsX6_read wsX6_hearForGood := goodIn_r _ [58, 37, 59, 60, 61, 38, 62, 63, 64, 65, 66, 67, 5, 68, 69, 70, 71, 72, 73, 74, 75, 76, 77, 78, 79, 80, 81, 82, 83, 84, 85, 86, 87, 88, 89, 90, 91, 92, 93, 94, 95, 96, 97, 27, 98, 99, 100, 101, 102, 103, 104, 105, 106, 107, 108, 109, 110, 111, 112, 113, 114, 115, 116, 117, 118, 119, 120, 121, 122, 123, 127, 128, 129, 130, 131, 132, 133, 134, 135, 136, 137, 138, 139, 140, 141, 142, 143, 144, 145, 146, 147, 148, 149, 150] (by decide +kernel) (by decide +kernel)
set_option maxRecDepth 20000 in
theorem gX6_read_X6_hearForGood : GoodIn wsX6_read (wsV RX6 195 RX6 yX6_hearForGood wsX6_hearForGood) := goodIn_app (goodIn_of _ (by decide +kernel)) ggX6_read_X6_hearForGood
theorem dX6_read_0 : decode cX6_read 0 = .ok (.iload_n 1, 1) := by decide +kernel
theorem dX6_read_1 : decode cX6_read 1 = .ok (.iload_n 2, 1) := by decide +kernel
theorem dX6_read_2 : decode cX6_read 2 = .ok (.invokestatic 312, 3) := by decide +kernel
theorem dX6_read_5 : decode cX6_read 5 = .ok (.ifCond .eq 15, 3) := by decide +kernel
theorem dX6_read_8 : decode cX6_read 8 = .ok (.iload 4, 2) := by decide +kernel
theorem dX6_read_10 : decode cX6_read 10 = .ok (.i2l, 1) := by decide +kernel
theorem dX6_read_11 : decode cX6_read 11 = .ok (.iconst 0, 1) := by decide +kernel
theorem dX6_read_12 : decode cX6_read 12 = .ok (.bipush 20, 2) := by decide +kernel
theorem dX6_read_14 : decode cX6_read 14 = .ok (.invokestatic 72, 3) := by decide +kernel
theorem dX6_read_17 : decode cX6_read 17 = .ok (.ifCond .ne 5, 3) := by decide +kernel
theorem dX6_read_20 : decode cX6_read 20 = .ok (.iconst (-1), 1) := by decide +kernel
theorem dX6_read_21 : decode cX6_read 21 = .ok (.ireturn, 1) := by decide +kernel
theorem dX6_read_22 : decode cX6_read 22 = .ok (.iload 4, 2) := by decide +kernel
theorem dX6_read_24 : decode cX6_read 24 = .ok (.ifCond .ne 7, 3) := by decide +kernel
theorem dX6_read_27 : decode cX6_read 27 = .ok (.iconst 0, 1) := by decide +kernel
theorem dX6_read_28 : decode cX6_read 28 = .ok (.goto 12, 3) := by decide +kernel
theorem dX6_read_31 : decode cX6_read 31 = .ok (.aload_n 0, 1) := by decide +kernel
theorem dX6_read_32 : decode cX6_read 32 = .ok (.getfield 57, 3) := by decide +kernel
theorem dX6_read_35 : decode cX6_read 35 = .ok (.iload_n 1, 1) := by decide +kernel
theorem dX6_read_36 : decode cX6_read 36 = .ok (.iload_n 2, 1) := by decide +kernel
theorem dX6_read_37 : decode cX6_read 37 = .ok (.invokevirtual 327, 3) := by decide +kernel
theorem dX6_read_40 : decode cX6_read 40 = .ok (.istore 5, 2) := by decide +kernel
theorem dX6_read_42 : decode cX6_read 42 = .ok (.iload 5, 2) := by decide +kernel
theorem dX6_read_44 : decode cX6_read 44 = .ok (.ifCond .ne 17, 3) := by decide +kernel
theorem dX6_read_47 : decode cX6_read 47 = .ok (.aload_n 0, 1) := by decide +kernel
theorem dX6_read_48 : decode cX6_read 48 = .ok (.getfield 57, 3) := by decide +kernel
theorem dX6_read_51 : decode cX6_read 51 = .ok (.iload_n 1, 1) := by decide +kernel
theorem dX6_read_52 : decode cX6_read 52 = .ok (.iload_n 3, 1) := by decide +kernel
theorem dX6_read_53 : decode cX6_read 53 = .ok (.iload 4, 2) := by decide +kernel
theorem dX6_read_55 : decode cX6_read 55 = .ok (.invokevirtual 330, 3) := by decide +kernel
theorem dX6_read_58 : decode cX6_read 58 = .ok (.goto 4, 3) := by decide +kernel
theorem dX6_read_61 : decode cX6_read 61 = .ok (.iconst 0, 1) := by decide +kernel
theorem dX6_read_62 : decode cX6_read 62 = .ok (.istore 6, 2) := by decide +kernel
theorem dX6_read_64 : decode cX6_read 64 = .ok (.aload_n 0, 1) := by decide +kernel
theorem dX6_read_65 : decode cX6_read 65 = .ok (.iload_n 1, 1) := by decide +kernel
theorem dX6_read_66 : decode cX6_read 66 = .ok (.iload_n 3, 1) := by decide +kernel
theorem dX6_read_67 : decode cX6_read 67 = .ok (.iload 6, 2) := by decide +kernel
theorem dX6_read_69 : decode cX6_read 69 = .ok (.invokevirtual 333, 3) := by decide +kernel
theorem dX6_read_72 : decode cX6_read 72 = .ok (.istore 7, 2) := by decide +kernel
theorem dX6_read_74 : decode cX6_read 74 = .ok (.iload 7, 2) := by decide +kernel
theorem dX6_read_76 : decode cX6_read 76 = .ok (.iload 6, 2) := by decide +kernel
theorem dX6_read_78 : decode cX6_read 78 = .ok (.if_icmp .ge 9, 3) := by decide +kernel
theorem dX6_read_81 : decode cX6_read 81 = .ok (.bipush (-20), 2) := by decide +kernel
theorem dX6_read_83 : decode cX6_read 83 = .ok (.iload 7, 2) := by decide +kernel
theorem dX6_read_85 : decode cX6_read 85 = .ok (.isub, 1) := by decide +kernel
theorem dX6_read_86 : decode cX6_read 86 = .ok (.ireturn, 1) := by decide +kernel
theorem dX6_read_87 : decode cX6_read 87 = .ok (.iconst 0, 1) := by decide +kernel
theorem dX6_read_88 : decode cX6_read 88 = .ok (.istore 8, 2) := by decide +kernel
theorem dX6_read_90 : decode cX6_read 90 = .ok (.iload 8, 2) := by decide +kernel
theorem dX6_read_92 : decode cX6_read 92 = .ok (.iload 6, 2) := by decide +kernel
theorem dX6_read_94 : decode cX6_read 94 = .ok (.if_icmp .ge 44, 3) := by decide +kernel
theorem dX6_read_97 : decode cX6_read 97 = .ok (.aload_n 0, 1) := by decide +kernel
theorem dX6_read_98 : decode cX6_read 98 = .ok (.aload_n 0, 1) := by decide +kernel
theorem dX6_read_99 : decode cX6_read 99 = .ok (.getfield 57, 3) := by decide +kernel
theorem dX6_read_102 : decode cX6_read 102 = .ok (.iload_n 1, 1) := by decide +kernel
theorem dX6_read_103 : decode cX6_read 103 = .ok (.iload_n 3, 1) := by decide +kernel
theorem dX6_read_104 : decode cX6_read 104 = .ok (.iconst 2, 1) := by decide +kernel
theorem dX6_read_105 : decode cX6_read 105 = .ok (.iload 8, 2) := by decide +kernel
theorem dX6_read_107 : decode cX6_read 107 = .ok (.imul, 1) := by decide +kernel
theorem dX6_read_108 : decode cX6_read 108 = .ok (.iadd, 1) := by decide +kernel
theorem dX6_read_109 : decode cX6_read 109 = .ok (.invokevirtual 336, 3) := by decide +kernel
theorem dX6_read_112 : decode cX6_read 112 = .ok (.aload_n 0, 1) := by decide +kernel
theorem dX6_read_113 : decode cX6_read 113 = .ok (.getfield 57, 3) := by decide +kernel
theorem dX6_read_116 : decode cX6_read 116 = .ok (.iload_n 1, 1) := by decide +kernel
theorem dX6_read_117 : decode cX6_read 117 = .ok (.iload_n 3, 1) := by decide +kernel
theorem dX6_read_118 : decode cX6_read 118 = .ok (.iconst 2, 1) := by decide +kernel
theorem dX6_read_119 : decode cX6_read 119 = .ok (.iload 8, 2) := by decide +kernel
theorem dX6_read_121 : decode cX6_read 121 = .ok (.imul, 1) := by decide +kernel
theorem dX6_read_122 : decode cX6_read 122 = .ok (.iadd, 1) := by decide +kernel
theorem dX6_read_123 : decode cX6_read 123 = .ok (.iconst 1, 1) := by decide +kernel
theorem dX6_read_124 : decode cX6_read 124 = .ok (.iadd, 1) := by decide +kernel
theorem dX6_read_125 : decode cX6_read 125 = .ok (.invokevirtual 336, 3) := by decide +kernel
theorem dX6_read_128 : decode cX6_read 128 = .ok (.invokevirtual 195, 3) := by decide +kernel
theorem dX6_read_131 : decode cX6_read 131 = .ok (.pop, 1) := by decide +kernel
theorem dX6_read_132 : decode cX6_read 132 = .ok (.iinc 8 1, 3) := by decide +kernel
theorem dX6_read_135 : decode cX6_read 135 = .ok (.goto (-45), 3) := by decide +kernel
theorem dX6_read_138 : decode cX6_read 138 = .ok (.aload_n 0, 1) := by decide +kernel
theorem dX6_read_139 : decode cX6_read 139 = .ok (.iload 5, 2) := by decide +kernel
theorem dX6_read_141 : decode cX6_read 141 = .ok (.ifCond .ne 14, 3) := by decide +kernel
theorem dX6_read_144 : decode cX6_read 144 = .ok (.iload 6, 2) := by decide +kernel
theorem dX6_read_146 : decode cX6_read 146 = .ok (.iload 4, 2) := by decide +kernel
theorem dX6_read_148 : decode cX6_read 148 = .ok (.if_icmp .ge 7, 3) := by decide +kernel
theorem dX6_read_151 : decode cX6_read 151 = .ok (.iconst 2, 1) := by decide +kernel
theorem dX6_read_152 : decode cX6_read 152 = .ok (.goto 5, 3) := by decide +kernel
theorem dX6_read_155 : decode cX6_read 155 = .ok (.iload 5, 2) := by decide +kernel
theorem dX6_read_157 : decode cX6_read 157 = .ok (.putfield 68, 3) := by decide +kernel
theorem dX6_read_160 : decode cX6_read 160 = .ok (.iload 6, 2) := by decide +kernel
theorem dX6_read_162 : decode cX6_read 162 = .ok (.ireturn, 1) := by decide +kernel
theorem dX6_torn_0 : decode cX6_torn 0 = .ok (.aload_n 0, 1) := by decide +kernel
theorem dX6_torn_1 : decode cX6_torn 1 = .ok (.getfield 68, 3) := by decide +kernel
theorem dX6_torn_4 : decode cX6_torn 4 = .ok (.ireturn, 1) := by decide +kernel
set_option maxRecDepth 20000 in
theorem ggX6_count_X4_isNothing : GoodIn wsX6_count wsX4_isNothing := goodIn_r _ [16, 17, 60, 61, 62] (by decide +kernel) (by decide +kernel)
set_option maxRecDepth 20000 in
theorem gX6_count_X4_isNothing : GoodIn wsX6_count (wsV RX6 318 RX4 yX4_isNothing wsX4_isNothing) := goodIn_app (goodIn_of _ (by decide +kernel)) ggX6_count_X4_isNothing
set_option maxRecDepth 20000 in
theorem ggX6_count_X0_sumOf : GoodIn wsX6_count wsX0_sumOf := goodIn_r _ [22, 23, 63, 64, 65, 66, 67, 68, 69, 70, 71, 72, 73, 74, 75, 76, 77, 78, 79] (by decide +kernel) (by decide +kernel)
set_option maxRecDepth 20000 in
theorem gX6_count_X0_sumOf : GoodIn wsX6_count (wsV RX6 132 RX0 yX0_sumOf wsX0_sumOf) := goodIn_app (goodIn_of _ (by decide +kernel)) ggX6_count_X0_sumOf
set_option maxRecDepth 20000 in
theorem ggX6_count_X6_bitsOf : GoodIn wsX6_count wsX6_bitsOf := goodIn_r _ [27] (by decide +kernel) (by decide +kernel)
set_option maxRecDepth 20000 in
theorem gX6_count_X6_bitsOf : GoodIn wsX6_count (va_wsS RX6 125 yX6_bitsOf wsX6_bitsOf) := goodIn_app (goodIn_of _ (by decide +kernel)) ggX6_count_X6_bitsOf
set_option maxRecDepth 20000 in
theorem ggX6_count_J6_bitCount_0f7a4 : GoodIn wsX6_count wsJ6_bitCount_0f7a4 := goodIn_r _ [31, 32, 33, 34] (by decide +kernel) (by decide +kernel)
set_option maxRecDepth 20000 in
theorem gX6_count_J6_bitCount_0f7a4 : GoodIn wsX6_count (va_wsS RX6 291 yJ6_bitCount_0f7a4 wsJ6_bitCount_0f7a4) := goodIn_app (goodIn_of _ (by decide +kernel)) ggX6_count_J6_bitCount_0f7a4
theorem dX6_count_0 : decode cX6_count 0 = .ok (.iload_n 1, 1) := by decide +kernel
theorem dX6_count_1 : decode cX6_count 1 = .ok (.tableswitch 148 0 5 #[39, 47, 77, 85, 111, 126], 39) := by decide +kernel
theorem dX6_count_40 : decode cX6_count 40 = .ok (.aload_n 0, 1) := by decide +kernel
theorem dX6_count_41 : decode cX6_count 41 = .ok (.getfield 50, 3) := by decide +kernel
theorem dX6_count_44 : decode cX6_count 44 = .ok (.getfield 106, 3) := by decide +kernel
theorem dX6_count_47 : decode cX6_count 47 = .ok (.ireturn, 1) := by decide +kernel
theorem dX6_count_48 : decode cX6_count 48 = .ok (.aload_n 0, 1) := by decide +kernel
theorem dX6_count_49 : decode cX6_count 49 = .ok (.getfield 22, 3) := by decide +kernel
theorem dX6_count_52 : decode cX6_count 52 = .ok (.iconst 0, 1) := by decide +kernel
theorem dX6_count_53 : decode cX6_count 53 = .ok (.baload, 1) := by decide +kernel
theorem dX6_count_54 : decode cX6_count 54 = .ok (.ifCond .eq 7, 3) := by decide +kernel
theorem dX6_count_57 : decode cX6_count 57 = .ok (.iconst 1, 1) := by decide +kernel
theorem dX6_count_58 : decode cX6_count 58 = .ok (.goto 4, 3) := by decide +kernel
theorem dX6_count_61 : decode cX6_count 61 = .ok (.iconst 0, 1) := by decide +kernel
theorem dX6_count_62 : decode cX6_count 62 = .ok (.aload_n 0, 1) := by decide +kernel
theorem dX6_count_63 : decode cX6_count 63 = .ok (.getfield 22, 3) := by decide +kernel
theorem dX6_count_66 : decode cX6_count 66 = .ok (.iconst 1, 1) := by decide +kernel
theorem dX6_count_67 : decode cX6_count 67 = .ok (.baload, 1) := by decide +kernel
theorem dX6_count_68 : decode cX6_count 68 = .ok (.ifCond .eq 7, 3) := by decide +kernel
theorem dX6_count_71 : decode cX6_count 71 = .ok (.iconst 1, 1) := by decide +kernel
theorem dX6_count_72 : decode cX6_count 72 = .ok (.goto 4, 3) := by decide +kernel
theorem dX6_count_75 : decode cX6_count 75 = .ok (.iconst 0, 1) := by decide +kernel
theorem dX6_count_76 : decode cX6_count 76 = .ok (.iadd, 1) := by decide +kernel
theorem dX6_count_77 : decode cX6_count 77 = .ok (.ireturn, 1) := by decide +kernel
theorem dX6_count_78 : decode cX6_count 78 = .ok (.aload_n 0, 1) := by decide +kernel
theorem dX6_count_79 : decode cX6_count 79 = .ok (.getfield 29, 3) := by decide +kernel
theorem dX6_count_82 : decode cX6_count 82 = .ok (.getfield 80, 3) := by decide +kernel
theorem dX6_count_85 : decode cX6_count 85 = .ok (.ireturn, 1) := by decide +kernel
theorem dX6_count_86 : decode cX6_count 86 = .ok (.aload_n 0, 1) := by decide +kernel
theorem dX6_count_87 : decode cX6_count 87 = .ok (.getfield 57, 3) := by decide +kernel
theorem dX6_count_90 : decode cX6_count 90 = .ok (.iconst 0, 1) := by decide +kernel
theorem dX6_count_91 : decode cX6_count 91 = .ok (.invokevirtual 318, 3) := by decide +kernel
theorem dX6_count_94 : decode cX6_count 94 = .ok (.ifCond .eq 8, 3) := by decide +kernel
theorem dX6_count_97 : decode cX6_count 97 = .ok (.bipush (-4), 2) := by decide +kernel
theorem dX6_count_99 : decode cX6_count 99 = .ok (.goto 12, 3) := by decide +kernel
theorem dX6_count_102 : decode cX6_count 102 = .ok (.aload_n 0, 1) := by decide +kernel
theorem dX6_count_103 : decode cX6_count 103 = .ok (.getfield 57, 3) := by decide +kernel
theorem dX6_count_106 : decode cX6_count 106 = .ok (.getfield 339, 3) := by decide +kernel
theorem dX6_count_109 : decode cX6_count 109 = .ok (.iconst 0, 1) := by decide +kernel
theorem dX6_count_110 : decode cX6_count 110 = .ok (.iaload, 1) := by decide +kernel
theorem dX6_count_111 : decode cX6_count 111 = .ok (.ireturn, 1) := by decide +kernel
theorem dX6_count_112 : decode cX6_count 112 = .ok (.aload_n 0, 1) := by decide +kernel
theorem dX6_count_113 : decode cX6_count 113 = .ok (.getfield 12, 3) := by decide +kernel
theorem dX6_count_116 : decode cX6_count 116 = .ok (.aload_n 0, 1) := by decide +kernel
theorem dX6_count_117 : decode cX6_count 117 = .ok (.getfield 12, 3) := by decide +kernel
theorem dX6_count_120 : decode cX6_count 120 = .ok (.getfield 143, 3) := by decide +kernel
theorem dX6_count_123 : decode cX6_count 123 = .ok (.invokevirtual 132, 3) := by decide +kernel
theorem dX6_count_126 : decode cX6_count 126 = .ok (.ireturn, 1) := by decide +kernel
theorem dX6_count_127 : decode cX6_count 127 = .ok (.aload_n 0, 1) := by decide +kernel
theorem dX6_count_128 : decode cX6_count 128 = .ok (.getfield 12, 3) := by decide +kernel
theorem dX6_count_131 : decode cX6_count 131 = .ok (.getfield 153, 3) := by decide +kernel
theorem dX6_count_134 : decode cX6_count 134 = .ok (.aload_n 0, 1) := by decide +kernel
theorem dX6_count_135 : decode cX6_count 135 = .ok (.getfield 12, 3) := by decide +kernel
theorem dX6_count_138 : decode cX6_count 138 = .ok (.getfield 110, 3) := by decide +kernel
theorem dX6_count_141 : decode cX6_count 141 = .ok (.iconst 1, 1) := by decide +kernel
theorem dX6_count_142 : decode cX6_count 142 = .ok (.invokestatic 125, 3) := by decide +kernel
theorem dX6_count_145 : decode cX6_count 145 = .ok (.invokestatic 291, 3) := by decide +kernel
theorem dX6_count_148 : decode cX6_count 148 = .ok (.ireturn, 1) := by decide +kernel
theorem dX6_count_149 : decode cX6_count 149 = .ok (.iconst (-1), 1) := by decide +kernel
theorem dX6_count_150 : decode cX6_count 150 = .ok (.ireturn, 1) := by decide +kernel
theorem dX6_isIn_0 : decode cX6_isIn 0 = .ok (.lload_n 0, 1) := by decide +kernel
theorem dX6_isIn_1 : decode cX6_isIn 1 = .ok (.iload_n 2, 1) := by decide +kernel
theorem dX6_isIn_2 : decode cX6_isIn 2 = .ok (.i2l, 1) := by decide +kernel
theorem dX6_isIn_3 : decode cX6_isIn 3 = .ok (.lcmp, 1) := by decide +kernel
theorem dX6_isIn_4 : decode cX6_isIn 4 = .ok (.ifCond .lt 14, 3) := by decide +kernel
theorem dX6_isIn_7 : decode cX6_isIn 7 = .ok (.lload_n 0, 1) := by decide +kernel
theorem dX6_isIn_8 : decode cX6_isIn 8 = .ok (.iload_n 3, 1) := by decide +kernel
theorem dX6_isIn_9 : decode cX6_isIn 9 = .ok (.i2l, 1) := by decide +kernel
theorem dX6_isIn_10 : decode cX6_isIn 10 = .ok (.lcmp, 1) := by decide +kernel
theorem dX6_isIn_11 : decode cX6_isIn 11 = .ok (.ifCond .gt 7, 3) := by decide +kernel
theorem dX6_isIn_14 : decode cX6_isIn 14 = .ok (.iconst 1, 1) := by decide +kernel
theorem dX6_isIn_15 : decode cX6_isIn 15 = .ok (.goto 4, 3) := by decide +kernel
theorem dX6_isIn_18 : decode cX6_isIn 18 = .ok (.iconst 0, 1) := by decide +kernel
theorem dX6_isIn_19 : decode cX6_isIn 19 = .ok (.ireturn, 1) := by decide +kernel
set_option maxRecDepth 20000 in
theorem ggX6_isSide_X6_isIn : GoodIn wsX6_isSide wsX6_isIn := goodIn_r _ [4] (by decide +kernel) (by decide +kernel)
set_option maxRecDepth 20000 in
theorem gX6_isSide_X6_isIn : GoodIn wsX6_isSide (va_wsS RX6 72 yX6_isIn wsX6_isIn) := goodIn_app (goodIn_of _ (by decide +kernel)) ggX6_isSide_X6_isIn
theorem dX6_isSide_0 : decode cX6_isSide 0 = .ok (.iload_n 0, 1) := by decide +kernel
theorem dX6_isSide_1 : decode cX6_isSide 1 = .ok (.i2l, 1) := by decide +kernel
theorem dX6_isSide_2 : decode cX6_isSide 2 = .ok (.iconst 0, 1) := by decide +kernel
theorem dX6_isSide_3 : decode cX6_isSide 3 = .ok (.iconst 1, 1) := by decide +kernel
theorem dX6_isSide_4 : decode cX6_isSide 4 = .ok (.invokestatic 72, 3) := by decide +kernel
theorem dX6_isSide_7 : decode cX6_isSide 7 = .ok (.ireturn, 1) := by decide +kernel
set_option maxRecDepth 20000 in
theorem ggX6_isSheet_X6_isIn : GoodIn wsX6_isSheet wsX6_isIn := goodIn_r _ [4] (by decide +kernel) (by decide +kernel)
set_option maxRecDepth 20000 in
theorem gX6_isSheet_X6_isIn : GoodIn wsX6_isSheet (va_wsS RX6 72 yX6_isIn wsX6_isIn) := goodIn_app (goodIn_of _ (by decide +kernel)) ggX6_isSheet_X6_isIn
theorem dX6_isSheet_0 : decode cX6_isSheet 0 = .ok (.iload_n 0, 1) := by decide +kernel
theorem dX6_isSheet_1 : decode cX6_isSheet 1 = .ok (.i2l, 1) := by decide +kernel
theorem dX6_isSheet_2 : decode cX6_isSheet 2 = .ok (.iconst 0, 1) := by decide +kernel
theorem dX6_isSheet_3 : decode cX6_isSheet 3 = .ok (.iconst 3, 1) := by decide +kernel
theorem dX6_isSheet_4 : decode cX6_isSheet 4 = .ok (.invokestatic 72, 3) := by decide +kernel
theorem dX6_isSheet_7 : decode cX6_isSheet 7 = .ok (.ifCond .eq 17, 3) := by decide +kernel
theorem dX6_isSheet_10 : decode cX6_isSheet 10 = .ok (.iload_n 1, 1) := by decide +kernel
theorem dX6_isSheet_11 : decode cX6_isSheet 11 = .ok (.i2l, 1) := by decide +kernel
theorem dX6_isSheet_12 : decode cX6_isSheet 12 = .ok (.iconst 0, 1) := by decide +kernel
theorem dX6_isSheet_13 : decode cX6_isSheet 13 = .ok (.iconst 2, 1) := by decide +kernel
theorem dX6_isSheet_14 : decode cX6_isSheet 14 = .ok (.invokestatic 72, 3) := by decide +kernel
theorem dX6_isSheet_17 : decode cX6_isSheet 17 = .ok (.ifCond .eq 7, 3) := by decide +kernel
theorem dX6_isSheet_20 : decode cX6_isSheet 20 = .ok (.iconst 1, 1) := by decide +kernel
theorem dX6_isSheet_21 : decode cX6_isSheet 21 = .ok (.goto 4, 3) := by decide +kernel
theorem dX6_isSheet_24 : decode cX6_isSheet 24 = .ok (.iconst 0, 1) := by decide +kernel
theorem dX6_isSheet_25 : decode cX6_isSheet 25 = .ok (.ireturn, 1) := by decide +kernel
set_option maxRecDepth 20000 in
theorem ggX6_isFlame_X0_hasCase : GoodIn wsX6_isFlame wsX0_hasCase := goodIn_r _ [6, 7, 8, 9, 10, 27, 28, 29, 30, 31, 32, 33, 34, 35, 36, 37, 38, 39, 40, 41, 42, 43] (by decide +kernel) (by decide +kernel)
set_option maxRecDepth 20000 in
theorem gX6_isFlame_X0_hasCase : GoodIn wsX6_isFlame (wsV RX6 149 RX0 yX0_hasCase wsX0_hasCase) := goodIn_app (goodIn_of _ (by decide +kernel)) ggX6_isFlame_X0_hasCase
set_option maxRecDepth 20000 in
theorem ggX6_isFlame_X6_isSide : GoodIn wsX6_isFlame wsX6_isSide := goodIn_r _ [13, 14, 8, 9, 10] (by decide +kernel) (by decide +kernel)
set_option maxRecDepth 20000 in
theorem gX6_isFlame_X6_isSide : GoodIn wsX6_isFlame (va_wsS RX6 249 yX6_isSide wsX6_isSide) := goodIn_app (goodIn_of _ (by decide +kernel)) ggX6_isFlame_X6_isSide
theorem dX6_isFlame_0 : decode cX6_isFlame 0 = .ok (.aload_n 0, 1) := by decide +kernel
theorem dX6_isFlame_1 : decode cX6_isFlame 1 = .ok (.getfield 12, 3) := by decide +kernel
theorem dX6_isFlame_4 : decode cX6_isFlame 4 = .ok (.iload_n 1, 1) := by decide +kernel
theorem dX6_isFlame_5 : decode cX6_isFlame 5 = .ok (.i2l, 1) := by decide +kernel
theorem dX6_isFlame_6 : decode cX6_isFlame 6 = .ok (.invokevirtual 149, 3) := by decide +kernel
theorem dX6_isFlame_9 : decode cX6_isFlame 9 = .ok (.ifCond .eq 14, 3) := by decide +kernel
theorem dX6_isFlame_12 : decode cX6_isFlame 12 = .ok (.iload_n 2, 1) := by decide +kernel
theorem dX6_isFlame_13 : decode cX6_isFlame 13 = .ok (.invokestatic 249, 3) := by decide +kernel
theorem dX6_isFlame_16 : decode cX6_isFlame 16 = .ok (.ifCond .eq 7, 3) := by decide +kernel
theorem dX6_isFlame_19 : decode cX6_isFlame 19 = .ok (.iconst 1, 1) := by decide +kernel
theorem dX6_isFlame_20 : decode cX6_isFlame 20 = .ok (.goto 4, 3) := by decide +kernel
theorem dX6_isFlame_23 : decode cX6_isFlame 23 = .ok (.iconst 0, 1) := by decide +kernel
theorem dX6_isFlame_24 : decode cX6_isFlame 24 = .ok (.ireturn, 1) := by decide +kernel
theorem dX6_imageOf_0 : decode cX6_imageOf 0 = .ok (.iload_n 1, 1) := by decide +kernel
theorem dX6_imageOf_1 : decode cX6_imageOf 1 = .ok (.ifCond .ne 10, 3) := by decide +kernel
theorem dX6_imageOf_4 : decode cX6_imageOf 4 = .ok (.aload_n 0, 1) := by decide +kernel
theorem dX6_imageOf_5 : decode cX6_imageOf 5 = .ok (.getfield 16, 3) := by decide +kernel
theorem dX6_imageOf_8 : decode cX6_imageOf 8 = .ok (.goto 7, 3) := by decide +kernel
theorem dX6_imageOf_11 : decode cX6_imageOf 11 = .ok (.aload_n 0, 1) := by decide +kernel
theorem dX6_imageOf_12 : decode cX6_imageOf 12 = .ok (.getfield 19, 3) := by decide +kernel
theorem dX6_imageOf_15 : decode cX6_imageOf 15 = .ok (.areturn, 1) := by decide +kernel
theorem dX6_exchange_0 : decode cX6_exchange 0 = .ok (.aload_n 0, 1) := by decide +kernel
theorem dX6_exchange_1 : decode cX6_exchange 1 = .ok (.iload_n 1, 1) := by decide +kernel
theorem dX6_exchange_2 : decode cX6_exchange 2 = .ok (.iaload, 1) := by decide +kernel
theorem dX6_exchange_3 : decode cX6_exchange 3 = .ok (.istore_n 3, 1) := by decide +kernel
theorem dX6_exchange_4 : decode cX6_exchange 4 = .ok (.aload_n 0, 1) := by decide +kernel
theorem dX6_exchange_5 : decode cX6_exchange 5 = .ok (.iload_n 1, 1) := by decide +kernel
theorem dX6_exchange_6 : decode cX6_exchange 6 = .ok (.iload_n 2, 1) := by decide +kernel
theorem dX6_exchange_7 : decode cX6_exchange 7 = .ok (.iastore, 1) := by decide +kernel
theorem dX6_exchange_8 : decode cX6_exchange 8 = .ok (.iload_n 3, 1) := by decide +kernel
theorem dX6_exchange_9 : decode cX6_exchange 9 = .ok (.ireturn, 1) := by decide +kernel
theorem dX6_copyRow_0 : decode cX6_copyRow 0 = .ok (.aload_n 0, 1) := by decide +kernel
theorem dX6_copyRow_1 : decode cX6_copyRow 1 = .ok (.iconst 0, 1) := by decide +kernel
theorem dX6_copyRow_2 : decode cX6_copyRow 2 = .ok (.aload_n 1, 1) := by decide +kernel
theorem dX6_copyRow_3 : decode cX6_copyRow 3 = .ok (.iconst 0, 1) := by decide +kernel
theorem dX6_copyRow_4 : decode cX6_copyRow 4 = .ok (.aload_n 0, 1) := by decide +kernel
theorem dX6_copyRow_5 : decode cX6_copyRow 5 = .ok (.arraylength, 1) := by decide +kernel
theorem dX6_copyRow_6 : decode cX6_copyRow 6 = .ok (.aload_n 1, 1) := by decide +kernel
theorem dX6_copyRow_7 : decode cX6_copyRow 7 = .ok (.arraylength, 1) := by decide +kernel
theorem dX6_copyRow_8 : decode cX6_copyRow 8 = .ok (.invokestatic 341, 3) := by decide +kernel
theorem dX6_copyRow_11 : decode cX6_copyRow 11 = .ok (.invokestatic 344, 3) := by decide +kernel
theorem dX6_copyRow_14 : decode cX6_copyRow 14 = .ok (.return_, 1) := by decide +kernel
theorem dX6_bitsOf_0 : decode cX6_bitsOf 0 = .ok (.iconst 0, 1) := by decide +kernel
theorem dX6_bitsOf_1 : decode cX6_bitsOf 1 = .ok (.istore_n 3, 1) := by decide +kernel
theorem dX6_bitsOf_2 : decode cX6_bitsOf 2 = .ok (.iconst 0, 1) := by decide +kernel
theorem dX6_bitsOf_3 : decode cX6_bitsOf 3 = .ok (.istore 4, 2) := by decide +kernel
theorem dX6_bitsOf_5 : decode cX6_bitsOf 5 = .ok (.iload 4, 2) := by decide +kernel
theorem dX6_bitsOf_7 : decode cX6_bitsOf 7 = .ok (.iload_n 1, 1) := by decide +kernel
theorem dX6_bitsOf_8 : decode cX6_bitsOf 8 = .ok (.if_icmp .ge 35, 3) := by decide +kernel
theorem dX6_bitsOf_11 : decode cX6_bitsOf 11 = .ok (.iload 4, 2) := by decide +kernel
theorem dX6_bitsOf_13 : decode cX6_bitsOf 13 = .ok (.aload_n 0, 1) := by decide +kernel
theorem dX6_bitsOf_14 : decode cX6_bitsOf 14 = .ok (.arraylength, 1) := by decide +kernel
theorem dX6_bitsOf_15 : decode cX6_bitsOf 15 = .ok (.if_icmp .ge 28, 3) := by decide +kernel
theorem dX6_bitsOf_18 : decode cX6_bitsOf 18 = .ok (.iload_n 3, 1) := by decide +kernel
theorem dX6_bitsOf_19 : decode cX6_bitsOf 19 = .ok (.aload_n 0, 1) := by decide +kernel
theorem dX6_bitsOf_20 : decode cX6_bitsOf 20 = .ok (.iload 4, 2) := by decide +kernel
theorem dX6_bitsOf_22 : decode cX6_bitsOf 22 = .ok (.iaload, 1) := by decide +kernel
theorem dX6_bitsOf_23 : decode cX6_bitsOf 23 = .ok (.iload_n 2, 1) := by decide +kernel
theorem dX6_bitsOf_24 : decode cX6_bitsOf 24 = .ok (.if_icmp .ne 10, 3) := by decide +kernel
theorem dX6_bitsOf_27 : decode cX6_bitsOf 27 = .ok (.iconst 1, 1) := by decide +kernel
theorem dX6_bitsOf_28 : decode cX6_bitsOf 28 = .ok (.iload 4, 2) := by decide +kernel
theorem dX6_bitsOf_30 : decode cX6_bitsOf 30 = .ok (.ishl, 1) := by decide +kernel
theorem dX6_bitsOf_31 : decode cX6_bitsOf 31 = .ok (.goto 4, 3) := by decide +kernel
theorem dX6_bitsOf_34 : decode cX6_bitsOf 34 = .ok (.iconst 0, 1) := by decide +kernel
theorem dX6_bitsOf_35 : decode cX6_bitsOf 35 = .ok (.ior, 1) := by decide +kernel
theorem dX6_bitsOf_36 : decode cX6_bitsOf 36 = .ok (.istore_n 3, 1) := by decide +kernel
theorem dX6_bitsOf_37 : decode cX6_bitsOf 37 = .ok (.iinc 4 1, 3) := by decide +kernel
theorem dX6_bitsOf_40 : decode cX6_bitsOf 40 = .ok (.goto (-35), 3) := by decide +kernel
theorem dX6_bitsOf_43 : decode cX6_bitsOf 43 = .ok (.iload_n 3, 1) := by decide +kernel
theorem dX6_bitsOf_44 : decode cX6_bitsOf 44 = .ok (.ireturn, 1) := by decide +kernel
set_option maxRecDepth 20000 in
theorem ggX6_prepare_X5_prepare : GoodIn wsX6_prepare wsX5_prepare := goodIn_r _ [7, 8, 9, 10, 11, 12, 13, 14, 15, 16, 17, 18, 19, 20, 21, 22, 23, 24, 6, 25, 26, 27, 28, 29, 42, 43, 44, 45, 46, 47, 48, 49, 50, 51, 52, 53, 54, 55, 56, 57, 58, 59, 60, 61, 62, 63, 64, 65] (by decide +kernel) (by decide +kernel)
set_option maxRecDepth 20000 in
theorem gX6_prepare_X5_prepare : GoodIn wsX6_prepare (wsV RX6 350 RX5 yX5_prepare wsX5_prepare) := goodIn_app (goodIn_of _ (by decide +kernel)) ggX6_prepare_X5_prepare
theorem dX6_prepare_0 : decode cX6_prepare 0 = .ok (.aload_n 0, 1) := by decide +kernel
theorem dX6_prepare_1 : decode cX6_prepare 1 = .ok (.getfield 36, 3) := by decide +kernel
theorem dX6_prepare_4 : decode cX6_prepare 4 = .ok (.aload_n 0, 1) := by decide +kernel
theorem dX6_prepare_5 : decode cX6_prepare 5 = .ok (.getfield 12, 3) := by decide +kernel
theorem dX6_prepare_8 : decode cX6_prepare 8 = .ok (.iload_n 1, 1) := by decide +kernel
theorem dX6_prepare_9 : decode cX6_prepare 9 = .ok (.iload_n 2, 1) := by decide +kernel
theorem dX6_prepare_10 : decode cX6_prepare 10 = .ok (.iload_n 3, 1) := by decide +kernel
theorem dX6_prepare_11 : decode cX6_prepare 11 = .ok (.invokevirtual 350, 3) := by decide +kernel
theorem dX6_prepare_14 : decode cX6_prepare 14 = .ok (.return_, 1) := by decide +kernel
set_option maxRecDepth 20000 in
theorem ggX6_verdictNow_X6_prepare : GoodIn wsX6_verdictNow wsX6_prepare := goodIn_r _ [6, 1, 7, 8, 9, 10, 11, 12, 13, 14, 15, 16, 17, 18, 19, 20, 21, 22, 23, 24, 25, 26, 27, 28, 29, 30, 31, 32, 33, 34, 48, 49, 50, 51, 52, 53, 54, 55, 56, 57, 58, 59, 60, 61, 62, 63, 64, 65, 66, 67, 68, 69, 70, 71, 72, 73, 74, 75, 76, 77, 78, 79, 80, 81, 82, 83] (by decide +kernel) (by decide +kernel)
set_option maxRecDepth 20000 in
theorem gX6_verdictNow_X6_prepare : GoodIn wsX6_verdictNow (wsV RX6 228 RX6 yX6_prepare wsX6_prepare) := goodIn_app (goodIn_of _ (by decide +kernel)) ggX6_verdictNow_X6_prepare
set_option maxRecDepth 20000 in
theorem ggX6_verdictNow_X5_verdictHeld : GoodIn wsX6_verdictNow wsX5_verdictHeld := goodIn_r _ [38, 39, 22, 15, 13, 31, 32, 33, 34, 40, 41, 42, 11, 43, 17, 23, 44, 45, 46, 47, 20, 60, 61, 62, 63, 64, 65, 66] (by decide +kernel) (by decide +kernel)
set_option maxRecDepth 20000 in
theorem gX6_verdictNow_X5_verdictHeld : GoodIn wsX6_verdictNow (wsV RX6 236 RX5 yX5_verdictHeld wsX5_verdictHeld) := goodIn_app (goodIn_of _ (by decide +kernel)) ggX6_verdictNow_X5_verdictHeld
theorem dX6_verdictNow_0 : decode cX6_verdictNow 0 = .ok (.aload_n 0, 1) := by decide +kernel
theorem dX6_verdictNow_1 : decode cX6_verdictNow 1 = .ok (.iload_n 1, 1) := by decide +kernel
theorem dX6_verdictNow_2 : decode cX6_verdictNow 2 = .ok (.iload_n 2, 1) := by decide +kernel
theorem dX6_verdictNow_3 : decode cX6_verdictNow 3 = .ok (.iconst 0, 1) := by decide +kernel
theorem dX6_verdictNow_4 : decode cX6_verdictNow 4 = .ok (.invokevirtual 228, 3) := by decide +kernel
theorem dX6_verdictNow_7 : decode cX6_verdictNow 7 = .ok (.aload_n 0, 1) := by decide +kernel
theorem dX6_verdictNow_8 : decode cX6_verdictNow 8 = .ok (.getfield 36, 3) := by decide +kernel
theorem dX6_verdictNow_11 : decode cX6_verdictNow 11 = .ok (.invokevirtual 236, 3) := by decide +kernel
theorem dX6_verdictNow_14 : decode cX6_verdictNow 14 = .ok (.ireturn, 1) := by decide +kernel
set_option maxRecDepth 20000 in
theorem ggX6_hearForGood_X6_verdictNow : GoodIn wsX6_hearForGood wsX6_verdictNow := goodIn_r _ [13, 3, 14, 15, 16, 12, 17, 1, 18, 19, 20, 21, 22, 23, 24, 25, 26, 27, 28, 29, 30, 31, 32, 33, 34, 35, 36, 37, 38, 39, 40, 41, 42, 43, 44, 45, 46, 47, 48, 49, 50, 51, 52, 53, 54, 55, 56, 57, 58, 59, 60, 61, 62, 63, 64, 65, 66, 67, 68, 69, 87, 88, 89, 90, 91, 92, 93, 70, 71, 72, 73, 74, 75, 76, 77, 78, 79, 80, 81, 82, 83, 84, 85, 86] (by decide +kernel) (by decide +kernel)
set_option maxRecDepth 20000 in
theorem gX6_hearForGood_X6_verdictNow : GoodIn wsX6_hearForGood (wsV RX6 204 RX6 yX6_verdictNow wsX6_verdictNow) := goodIn_app (goodIn_of _ (by decide +kernel)) ggX6_hearForGood_X6_verdictNow
theorem dX6_hearForGood_0 : decode cX6_hearForGood 0 = .ok (.aload_n 0, 1) := by decide +kernel
theorem dX6_hearForGood_1 : decode cX6_hearForGood 1 = .ok (.iload_n 1, 1) := by decide +kernel
theorem dX6_hearForGood_2 : decode cX6_hearForGood 2 = .ok (.iload_n 2, 1) := by decide +kernel
theorem dX6_hearForGood_3 : decode cX6_hearForGood 3 = .ok (.invokevirtual 204, 3) := by decide +kernel
theorem dX6_hearForGood_6 : decode cX6_hearForGood 6 = .ok (.istore_n 3, 1) := by decide +kernel
theorem dX6_hearForGood_7 : decode cX6_hearForGood 7 = .ok (.aload_n 0, 1) := by decide +kernel
theorem dX6_hearForGood_8 : decode cX6_hearForGood 8 = .ok (.getfield 12, 3) := by decide +kernel
theorem dX6_hearForGood_11 : decode cX6_hearForGood 11 = .ok (.getfield 129, 3) := by decide +kernel
theorem dX6_hearForGood_14 : decode cX6_hearForGood 14 = .ok (.iconst 2, 1) := by decide +kernel
theorem dX6_hearForGood_15 : decode cX6_hearForGood 15 = .ok (.iload_n 1, 1) := by decide +kernel
theorem dX6_hearForGood_16 : decode cX6_hearForGood 16 = .ok (.imul, 1) := by decide +kernel
theorem dX6_hearForGood_17 : decode cX6_hearForGood 17 = .ok (.aload_n 0, 1) := by decide +kernel
theorem dX6_hearForGood_18 : decode cX6_hearForGood 18 = .ok (.getfield 36, 3) := by decide +kernel
theorem dX6_hearForGood_21 : decode cX6_hearForGood 21 = .ok (.getfield 209, 3) := by decide +kernel
theorem dX6_hearForGood_24 : decode cX6_hearForGood 24 = .ok (.iconst 0, 1) := by decide +kernel
theorem dX6_hearForGood_25 : decode cX6_hearForGood 25 = .ok (.iaload, 1) := by decide +kernel
theorem dX6_hearForGood_26 : decode cX6_hearForGood 26 = .ok (.iastore, 1) := by decide +kernel
theorem dX6_hearForGood_27 : decode cX6_hearForGood 27 = .ok (.aload_n 0, 1) := by decide +kernel
theorem dX6_hearForGood_28 : decode cX6_hearForGood 28 = .ok (.getfield 12, 3) := by decide +kernel
theorem dX6_hearForGood_31 : decode cX6_hearForGood 31 = .ok (.getfield 129, 3) := by decide +kernel
theorem dX6_hearForGood_34 : decode cX6_hearForGood 34 = .ok (.iconst 2, 1) := by decide +kernel
theorem dX6_hearForGood_35 : decode cX6_hearForGood 35 = .ok (.iload_n 1, 1) := by decide +kernel
theorem dX6_hearForGood_36 : decode cX6_hearForGood 36 = .ok (.imul, 1) := by decide +kernel
theorem dX6_hearForGood_37 : decode cX6_hearForGood 37 = .ok (.iconst 1, 1) := by decide +kernel
theorem dX6_hearForGood_38 : decode cX6_hearForGood 38 = .ok (.iadd, 1) := by decide +kernel
theorem dX6_hearForGood_39 : decode cX6_hearForGood 39 = .ok (.aload_n 0, 1) := by decide +kernel
theorem dX6_hearForGood_40 : decode cX6_hearForGood 40 = .ok (.getfield 36, 3) := by decide +kernel
theorem dX6_hearForGood_43 : decode cX6_hearForGood 43 = .ok (.getfield 209, 3) := by decide +kernel
theorem dX6_hearForGood_46 : decode cX6_hearForGood 46 = .ok (.iconst 1, 1) := by decide +kernel
theorem dX6_hearForGood_47 : decode cX6_hearForGood 47 = .ok (.iaload, 1) := by decide +kernel
theorem dX6_hearForGood_48 : decode cX6_hearForGood 48 = .ok (.iastore, 1) := by decide +kernel
theorem dX6_hearForGood_49 : decode cX6_hearForGood 49 = .ok (.aload_n 0, 1) := by decide +kernel
theorem dX6_hearForGood_50 : decode cX6_hearForGood 50 = .ok (.getfield 12, 3) := by decide +kernel
theorem dX6_hearForGood_53 : decode cX6_hearForGood 53 = .ok (.getfield 122, 3) := by decide +kernel
theorem dX6_hearForGood_56 : decode cX6_hearForGood 56 = .ok (.iload_n 1, 1) := by decide +kernel
theorem dX6_hearForGood_57 : decode cX6_hearForGood 57 = .ok (.iload_n 3, 1) := by decide +kernel
theorem dX6_hearForGood_58 : decode cX6_hearForGood 58 = .ok (.iastore, 1) := by decide +kernel
theorem dX6_hearForGood_59 : decode cX6_hearForGood 59 = .ok (.aload_n 0, 1) := by decide +kernel
theorem dX6_hearForGood_60 : decode cX6_hearForGood 60 = .ok (.getfield 12, 3) := by decide +kernel
theorem dX6_hearForGood_63 : decode cX6_hearForGood 63 = .ok (.getfield 156, 3) := by decide +kernel
theorem dX6_hearForGood_66 : decode cX6_hearForGood 66 = .ok (.iload_n 1, 1) := by decide +kernel
theorem dX6_hearForGood_67 : decode cX6_hearForGood 67 = .ok (.aload_n 0, 1) := by decide +kernel
theorem dX6_hearForGood_68 : decode cX6_hearForGood 68 = .ok (.getfield 36, 3) := by decide +kernel
theorem dX6_hearForGood_71 : decode cX6_hearForGood 71 = .ok (.getfield 207, 3) := by decide +kernel
theorem dX6_hearForGood_74 : decode cX6_hearForGood 74 = .ok (.iastore, 1) := by decide +kernel
theorem dX6_hearForGood_75 : decode cX6_hearForGood 75 = .ok (.aload_n 0, 1) := by decide +kernel
theorem dX6_hearForGood_76 : decode cX6_hearForGood 76 = .ok (.getfield 12, 3) := by decide +kernel
theorem dX6_hearForGood_79 : decode cX6_hearForGood 79 = .ok (.getfield 159, 3) := by decide +kernel
theorem dX6_hearForGood_82 : decode cX6_hearForGood 82 = .ok (.iload_n 1, 1) := by decide +kernel
theorem dX6_hearForGood_83 : decode cX6_hearForGood 83 = .ok (.iload_n 2, 1) := by decide +kernel
theorem dX6_hearForGood_84 : decode cX6_hearForGood 84 = .ok (.iastore, 1) := by decide +kernel
theorem dX6_hearForGood_85 : decode cX6_hearForGood 85 = .ok (.iload_n 3, 1) := by decide +kernel
theorem dX6_hearForGood_86 : decode cX6_hearForGood 86 = .ok (.ireturn, 1) := by decide +kernel
set_option maxRecDepth 20000 in
theorem ggX6_pairsAccepted_X4_cell : GoodIn wsX6_pairsAccepted wsX4_cell := goodIn_r _ [8, 9, 10, 11, 12, 7, 13, 14, 15, 16, 17, 58, 59, 60] (by decide +kernel) (by decide +kernel)
set_option maxRecDepth 20000 in
theorem gX6_pairsAccepted_X4_cell : GoodIn wsX6_pairsAccepted (wsV RX6 336 RX4 yX4_cell wsX4_cell) := goodIn_app (goodIn_of _ (by decide +kernel)) ggX6_pairsAccepted_X4_cell
set_option maxRecDepth 20000 in
theorem ggX6_pairsAccepted_X0_hasCase : GoodIn wsX6_pairsAccepted wsX0_hasCase := goodIn_r _ [22, 23, 15, 16, 17, 41, 42, 43, 44, 45, 46, 47, 48, 49, 50, 51, 52, 53, 54, 55, 56, 57] (by decide +kernel) (by decide +kernel)
set_option maxRecDepth 20000 in
theorem gX6_pairsAccepted_X0_hasCase : GoodIn wsX6_pairsAccepted (wsV RX6 149 RX0 yX0_hasCase wsX0_hasCase) := goodIn_app (goodIn_of _ (by decide +kernel)) ggX6_pairsAccepted_X0_hasCase
set_option maxRecDepth 20000 in
theorem ggX6_pairsAccepted_X0_hasJudge : GoodIn wsX6_pairsAccepted wsX0_hasJudge := goodIn_r _ [27, 28, 15, 16, 17, 41, 42, 43, 44, 45, 46, 47, 48, 49, 50, 51, 52, 53, 54, 55, 56, 57] (by decide +kernel) (by decide +kernel)
set_option maxRecDepth 20000 in
theorem gX6_pairsAccepted_X0_hasJudge : GoodIn wsX6_pairsAccepted (wsV RX6 162 RX0 yX0_hasJudge wsX0_hasJudge) := goodIn_app (goodIn_of _ (by decide +kernel)) ggX6_pairsAccepted_X0_hasJudge
theorem dX6_pairsAccepted_0 : decode cX6_pairsAccepted 0 = .ok (.iconst 0, 1) := by decide +kernel
theorem dX6_pairsAccepted_1 : decode cX6_pairsAccepted 1 = .ok (.istore 4, 2) := by decide +kernel
theorem dX6_pairsAccepted_3 : decode cX6_pairsAccepted 3 = .ok (.iconst 0, 1) := by decide +kernel
theorem dX6_pairsAccepted_4 : decode cX6_pairsAccepted 4 = .ok (.istore 5, 2) := by decide +kernel
theorem dX6_pairsAccepted_6 : decode cX6_pairsAccepted 6 = .ok (.iload 5, 2) := by decide +kernel
theorem dX6_pairsAccepted_8 : decode cX6_pairsAccepted 8 = .ok (.iload_n 3, 1) := by decide +kernel
theorem dX6_pairsAccepted_9 : decode cX6_pairsAccepted 9 = .ok (.if_icmp .ge 103, 3) := by decide +kernel
theorem dX6_pairsAccepted_12 : decode cX6_pairsAccepted 12 = .ok (.aload_n 0, 1) := by decide +kernel
theorem dX6_pairsAccepted_13 : decode cX6_pairsAccepted 13 = .ok (.getfield 57, 3) := by decide +kernel
theorem dX6_pairsAccepted_16 : decode cX6_pairsAccepted 16 = .ok (.iload_n 1, 1) := by decide +kernel
theorem dX6_pairsAccepted_17 : decode cX6_pairsAccepted 17 = .ok (.iload_n 2, 1) := by decide +kernel
theorem dX6_pairsAccepted_18 : decode cX6_pairsAccepted 18 = .ok (.iconst 2, 1) := by decide +kernel
theorem dX6_pairsAccepted_19 : decode cX6_pairsAccepted 19 = .ok (.iload 5, 2) := by decide +kernel
theorem dX6_pairsAccepted_21 : decode cX6_pairsAccepted 21 = .ok (.imul, 1) := by decide +kernel
theorem dX6_pairsAccepted_22 : decode cX6_pairsAccepted 22 = .ok (.iadd, 1) := by decide +kernel
theorem dX6_pairsAccepted_23 : decode cX6_pairsAccepted 23 = .ok (.invokevirtual 336, 3) := by decide +kernel
theorem dX6_pairsAccepted_26 : decode cX6_pairsAccepted 26 = .ok (.istore 6, 2) := by decide +kernel
theorem dX6_pairsAccepted_28 : decode cX6_pairsAccepted 28 = .ok (.aload_n 0, 1) := by decide +kernel
theorem dX6_pairsAccepted_29 : decode cX6_pairsAccepted 29 = .ok (.getfield 57, 3) := by decide +kernel
theorem dX6_pairsAccepted_32 : decode cX6_pairsAccepted 32 = .ok (.iload_n 1, 1) := by decide +kernel
theorem dX6_pairsAccepted_33 : decode cX6_pairsAccepted 33 = .ok (.iload_n 2, 1) := by decide +kernel
theorem dX6_pairsAccepted_34 : decode cX6_pairsAccepted 34 = .ok (.iconst 2, 1) := by decide +kernel
theorem dX6_pairsAccepted_35 : decode cX6_pairsAccepted 35 = .ok (.iload 5, 2) := by decide +kernel
theorem dX6_pairsAccepted_37 : decode cX6_pairsAccepted 37 = .ok (.imul, 1) := by decide +kernel
theorem dX6_pairsAccepted_38 : decode cX6_pairsAccepted 38 = .ok (.iadd, 1) := by decide +kernel
theorem dX6_pairsAccepted_39 : decode cX6_pairsAccepted 39 = .ok (.iconst 1, 1) := by decide +kernel
theorem dX6_pairsAccepted_40 : decode cX6_pairsAccepted 40 = .ok (.iadd, 1) := by decide +kernel
theorem dX6_pairsAccepted_41 : decode cX6_pairsAccepted 41 = .ok (.invokevirtual 336, 3) := by decide +kernel
theorem dX6_pairsAccepted_44 : decode cX6_pairsAccepted 44 = .ok (.istore 7, 2) := by decide +kernel
theorem dX6_pairsAccepted_46 : decode cX6_pairsAccepted 46 = .ok (.aload_n 0, 1) := by decide +kernel
theorem dX6_pairsAccepted_47 : decode cX6_pairsAccepted 47 = .ok (.getfield 12, 3) := by decide +kernel
theorem dX6_pairsAccepted_50 : decode cX6_pairsAccepted 50 = .ok (.iload 6, 2) := by decide +kernel
theorem dX6_pairsAccepted_52 : decode cX6_pairsAccepted 52 = .ok (.i2l, 1) := by decide +kernel
theorem dX6_pairsAccepted_53 : decode cX6_pairsAccepted 53 = .ok (.invokevirtual 149, 3) := by decide +kernel
theorem dX6_pairsAccepted_56 : decode cX6_pairsAccepted 56 = .ok (.ifCond .eq 38, 3) := by decide +kernel
theorem dX6_pairsAccepted_59 : decode cX6_pairsAccepted 59 = .ok (.aload_n 0, 1) := by decide +kernel
theorem dX6_pairsAccepted_60 : decode cX6_pairsAccepted 60 = .ok (.getfield 12, 3) := by decide +kernel
theorem dX6_pairsAccepted_63 : decode cX6_pairsAccepted 63 = .ok (.iload 7, 2) := by decide +kernel
theorem dX6_pairsAccepted_65 : decode cX6_pairsAccepted 65 = .ok (.invokevirtual 162, 3) := by decide +kernel
theorem dX6_pairsAccepted_68 : decode cX6_pairsAccepted 68 = .ok (.ifCond .eq 26, 3) := by decide +kernel
theorem dX6_pairsAccepted_71 : decode cX6_pairsAccepted 71 = .ok (.aload_n 0, 1) := by decide +kernel
theorem dX6_pairsAccepted_72 : decode cX6_pairsAccepted 72 = .ok (.getfield 12, 3) := by decide +kernel
theorem dX6_pairsAccepted_75 : decode cX6_pairsAccepted 75 = .ok (.getfield 122, 3) := by decide +kernel
theorem dX6_pairsAccepted_78 : decode cX6_pairsAccepted 78 = .ok (.iload 6, 2) := by decide +kernel
theorem dX6_pairsAccepted_80 : decode cX6_pairsAccepted 80 = .ok (.iaload, 1) := by decide +kernel
theorem dX6_pairsAccepted_81 : decode cX6_pairsAccepted 81 = .ok (.ifCond .ne 13, 3) := by decide +kernel
theorem dX6_pairsAccepted_84 : decode cX6_pairsAccepted 84 = .ok (.iload 4, 2) := by decide +kernel
theorem dX6_pairsAccepted_86 : decode cX6_pairsAccepted 86 = .ok (.iload 6, 2) := by decide +kernel
theorem dX6_pairsAccepted_88 : decode cX6_pairsAccepted 88 = .ok (.ishr, 1) := by decide +kernel
theorem dX6_pairsAccepted_89 : decode cX6_pairsAccepted 89 = .ok (.iconst 1, 1) := by decide +kernel
theorem dX6_pairsAccepted_90 : decode cX6_pairsAccepted 90 = .ok (.iand, 1) := by decide +kernel
theorem dX6_pairsAccepted_91 : decode cX6_pairsAccepted 91 = .ok (.ifCond .eq 6, 3) := by decide +kernel
theorem dX6_pairsAccepted_94 : decode cX6_pairsAccepted 94 = .ok (.iload 5, 2) := by decide +kernel
theorem dX6_pairsAccepted_96 : decode cX6_pairsAccepted 96 = .ok (.ireturn, 1) := by decide +kernel
theorem dX6_pairsAccepted_97 : decode cX6_pairsAccepted 97 = .ok (.iload 4, 2) := by decide +kernel
theorem dX6_pairsAccepted_99 : decode cX6_pairsAccepted 99 = .ok (.iconst 1, 1) := by decide +kernel
theorem dX6_pairsAccepted_100 : decode cX6_pairsAccepted 100 = .ok (.iload 6, 2) := by decide +kernel
theorem dX6_pairsAccepted_102 : decode cX6_pairsAccepted 102 = .ok (.ishl, 1) := by decide +kernel
theorem dX6_pairsAccepted_103 : decode cX6_pairsAccepted 103 = .ok (.ior, 1) := by decide +kernel
theorem dX6_pairsAccepted_104 : decode cX6_pairsAccepted 104 = .ok (.istore 4, 2) := by decide +kernel
theorem dX6_pairsAccepted_106 : decode cX6_pairsAccepted 106 = .ok (.iinc 5 1, 3) := by decide +kernel
theorem dX6_pairsAccepted_109 : decode cX6_pairsAccepted 109 = .ok (.goto (-103), 3) := by decide +kernel
theorem dX6_pairsAccepted_112 : decode cX6_pairsAccepted 112 = .ok (.iload_n 3, 1) := by decide +kernel
theorem dX6_pairsAccepted_113 : decode cX6_pairsAccepted 113 = .ok (.ireturn, 1) := by decide +kernel
set_option maxRecDepth 20000 in
theorem ggX6_judgesFor_X6_verdictNow : GoodIn wsX6_judgesFor wsX6_verdictNow := goodIn_r _ [7, 8, 9, 10, 11, 6, 12, 1, 13, 14, 15, 16, 17, 18, 19, 20, 21, 22, 23, 24, 25, 26, 27, 28, 29, 30, 31, 32, 33, 34, 35, 36, 37, 38, 39, 40, 41, 42, 43, 44, 45, 46, 47, 48, 49, 50, 51, 52, 53, 54, 55, 56, 57, 58, 59, 60, 61, 62, 63, 64, 82, 83, 84, 85, 86, 87, 88, 65, 66, 67, 68, 69, 70, 71, 72, 73, 74, 75, 76, 77, 78, 79, 80, 81] (by decide +kernel) (by decide +kernel)
set_option maxRecDepth 20000 in
theorem gX6_judgesFor_X6_verdictNow : GoodIn wsX6_judgesFor (wsV RX6 204 RX6 yX6_verdictNow wsX6_verdictNow) := goodIn_app (goodIn_of _ (by decide +kernel)) ggX6_judgesFor_X6_verdictNow
theorem dX6_judgesFor_0 : decode cX6_judgesFor 0 = .ok (.iconst 0, 1) := by decide +kernel
theorem dX6_judgesFor_1 : decode cX6_judgesFor 1 = .ok (.istore_n 3, 1) := by decide +kernel
theorem dX6_judgesFor_2 : decode cX6_judgesFor 2 = .ok (.iconst 0, 1) := by decide +kernel
theorem dX6_judgesFor_3 : decode cX6_judgesFor 3 = .ok (.istore 4, 2) := by decide +kernel
theorem dX6_judgesFor_5 : decode cX6_judgesFor 5 = .ok (.iload 4, 2) := by decide +kernel
theorem dX6_judgesFor_7 : decode cX6_judgesFor 7 = .ok (.aload_n 0, 1) := by decide +kernel
theorem dX6_judgesFor_8 : decode cX6_judgesFor 8 = .ok (.getfield 12, 3) := by decide +kernel
theorem dX6_judgesFor_11 : decode cX6_judgesFor 11 = .ok (.getfield 113, 3) := by decide +kernel
theorem dX6_judgesFor_14 : decode cX6_judgesFor 14 = .ok (.if_icmp .ge 33, 3) := by decide +kernel
theorem dX6_judgesFor_17 : decode cX6_judgesFor 17 = .ok (.iload_n 3, 1) := by decide +kernel
theorem dX6_judgesFor_18 : decode cX6_judgesFor 18 = .ok (.aload_n 0, 1) := by decide +kernel
theorem dX6_judgesFor_19 : decode cX6_judgesFor 19 = .ok (.iload_n 1, 1) := by decide +kernel
theorem dX6_judgesFor_20 : decode cX6_judgesFor 20 = .ok (.iload 4, 2) := by decide +kernel
theorem dX6_judgesFor_22 : decode cX6_judgesFor 22 = .ok (.invokevirtual 204, 3) := by decide +kernel
theorem dX6_judgesFor_25 : decode cX6_judgesFor 25 = .ok (.iload_n 2, 1) := by decide +kernel
theorem dX6_judgesFor_26 : decode cX6_judgesFor 26 = .ok (.iconst 1, 1) := by decide +kernel
theorem dX6_judgesFor_27 : decode cX6_judgesFor 27 = .ok (.iadd, 1) := by decide +kernel
theorem dX6_judgesFor_28 : decode cX6_judgesFor 28 = .ok (.if_icmp .ne 10, 3) := by decide +kernel
theorem dX6_judgesFor_31 : decode cX6_judgesFor 31 = .ok (.iconst 1, 1) := by decide +kernel
theorem dX6_judgesFor_32 : decode cX6_judgesFor 32 = .ok (.iload 4, 2) := by decide +kernel
theorem dX6_judgesFor_34 : decode cX6_judgesFor 34 = .ok (.ishl, 1) := by decide +kernel
theorem dX6_judgesFor_35 : decode cX6_judgesFor 35 = .ok (.goto 4, 3) := by decide +kernel
theorem dX6_judgesFor_38 : decode cX6_judgesFor 38 = .ok (.iconst 0, 1) := by decide +kernel
theorem dX6_judgesFor_39 : decode cX6_judgesFor 39 = .ok (.ior, 1) := by decide +kernel
theorem dX6_judgesFor_40 : decode cX6_judgesFor 40 = .ok (.istore_n 3, 1) := by decide +kernel
theorem dX6_judgesFor_41 : decode cX6_judgesFor 41 = .ok (.iinc 4 1, 3) := by decide +kernel
theorem dX6_judgesFor_44 : decode cX6_judgesFor 44 = .ok (.goto (-39), 3) := by decide +kernel
theorem dX6_judgesFor_47 : decode cX6_judgesFor 47 = .ok (.iload_n 3, 1) := by decide +kernel
theorem dX6_judgesFor_48 : decode cX6_judgesFor 48 = .ok (.ireturn, 1) := by decide +kernel
set_option maxRecDepth 20000 in
theorem ggX6_firstThatWins_X6_isFlame : GoodIn wsX6_firstThatWins wsX6_isFlame := goodIn_r _ [8, 1, 9, 10, 11, 12, 13, 14, 15, 7, 16, 17, 18, 19, 20, 74, 75, 76, 77, 78, 79, 80, 81, 82, 83, 84, 85, 86, 87, 88, 89, 90, 91, 92, 93, 94, 95, 96, 97, 98, 99, 100, 101, 102] (by decide +kernel) (by decide +kernel)
set_option maxRecDepth 20000 in
theorem gX6_firstThatWins_X6_isFlame : GoodIn wsX6_firstThatWins (wsV RX6 136 RX6 yX6_isFlame wsX6_isFlame) := goodIn_app (goodIn_of _ (by decide +kernel)) ggX6_firstThatWins_X6_isFlame
set_option maxRecDepth 20000 in
theorem ggX6_firstThatWins_X0_hasJudge : GoodIn wsX6_firstThatWins wsX0_hasJudge := goodIn_r _ [24, 25, 15, 7, 16, 86, 87, 88, 89, 90, 91, 92, 93, 94, 95, 96, 97, 98, 99, 100, 101, 102] (by decide +kernel) (by decide +kernel)
set_option maxRecDepth 20000 in
theorem gX6_firstThatWins_X0_hasJudge : GoodIn wsX6_firstThatWins (wsV RX6 162 RX0 yX0_hasJudge wsX0_hasJudge) := goodIn_app (goodIn_of _ (by decide +kernel)) ggX6_firstThatWins_X0_hasJudge
set_option maxRecDepth 20000 in
theorem ggX6_firstThatWins_X6_prepare : GoodIn wsX6_firstThatWins wsX6_prepare := goodIn_r _ [29, 3, 1, 30, 31, 32, 33, 34, 35, 36, 37, 38, 39, 40, 41, 42, 43, 44, 45, 46, 47, 48, 49, 50, 51, 52, 53, 54, 55, 56, 74, 75, 76, 77, 78, 79, 80, 81, 82, 83, 84, 85, 103, 104, 105, 106, 107, 108, 109, 86, 87, 88, 89, 90, 91, 92, 93, 94, 95, 96, 97, 98, 99, 100, 101, 102] (by decide +kernel) (by decide +kernel)
set_option maxRecDepth 20000 in
theorem gX6_firstThatWins_X6_prepare : GoodIn wsX6_firstThatWins (wsV RX6 228 RX6 yX6_prepare wsX6_prepare) := goodIn_app (goodIn_of _ (by decide +kernel)) ggX6_firstThatWins_X6_prepare
set_option maxRecDepth 20000 in
theorem ggX6_firstThatWins_X5_change : GoodIn wsX6_firstThatWins wsX5_change := goodIn_r _ [60, 35, 37, 39, 103, 104, 105, 106, 107, 108, 109] (by decide +kernel) (by decide +kernel)
set_option maxRecDepth 20000 in
theorem gX6_firstThatWins_X5_change : GoodIn wsX6_firstThatWins (wsV RX6 353 RX5 yX5_change wsX5_change) := goodIn_app (goodIn_of _ (by decide +kernel)) ggX6_firstThatWins_X5_change
set_option maxRecDepth 20000 in
theorem ggX6_firstThatWins_X5_verdictHeld : GoodIn wsX6_firstThatWins wsX5_verdictHeld := goodIn_r _ [64, 65, 44, 37, 35, 53, 54, 55, 56, 66, 67, 68, 33, 69, 39, 45, 70, 71, 72, 73, 42, 103, 104, 105, 106, 107, 108, 109] (by decide +kernel) (by decide +kernel)
set_option maxRecDepth 20000 in
theorem gX6_firstThatWins_X5_verdictHeld : GoodIn wsX6_firstThatWins (wsV RX6 236 RX5 yX5_verdictHeld wsX5_verdictHeld) := goodIn_app (goodIn_of _ (by decide +kernel)) ggX6_firstThatWins_X5_verdictHeld
theorem dX6_firstThatWins_0 : decode cX6_firstThatWins 0 = .ok (.aload_n 0, 1) := by decide +kernel
theorem dX6_firstThatWins_1 : decode cX6_firstThatWins 1 = .ok (.iload_n 1, 1) := by decide +kernel
theorem dX6_firstThatWins_2 : decode cX6_firstThatWins 2 = .ok (.iload_n 2, 1) := by decide +kernel
theorem dX6_firstThatWins_3 : decode cX6_firstThatWins 3 = .ok (.invokevirtual 136, 3) := by decide +kernel
theorem dX6_firstThatWins_6 : decode cX6_firstThatWins 6 = .ok (.ifCond .eq 14, 3) := by decide +kernel
theorem dX6_firstThatWins_9 : decode cX6_firstThatWins 9 = .ok (.aload_n 0, 1) := by decide +kernel
theorem dX6_firstThatWins_10 : decode cX6_firstThatWins 10 = .ok (.getfield 12, 3) := by decide +kernel
theorem dX6_firstThatWins_13 : decode cX6_firstThatWins 13 = .ok (.iload_n 3, 1) := by decide +kernel
theorem dX6_firstThatWins_14 : decode cX6_firstThatWins 14 = .ok (.invokevirtual 162, 3) := by decide +kernel
theorem dX6_firstThatWins_17 : decode cX6_firstThatWins 17 = .ok (.ifCond .ne 5, 3) := by decide +kernel
theorem dX6_firstThatWins_20 : decode cX6_firstThatWins 20 = .ok (.iconst (-1), 1) := by decide +kernel
theorem dX6_firstThatWins_21 : decode cX6_firstThatWins 21 = .ok (.ireturn, 1) := by decide +kernel
theorem dX6_firstThatWins_22 : decode cX6_firstThatWins 22 = .ok (.iconst 0, 1) := by decide +kernel
theorem dX6_firstThatWins_23 : decode cX6_firstThatWins 23 = .ok (.istore 5, 2) := by decide +kernel
theorem dX6_firstThatWins_25 : decode cX6_firstThatWins 25 = .ok (.iload 5, 2) := by decide +kernel
theorem dX6_firstThatWins_27 : decode cX6_firstThatWins 27 = .ok (.getstatic 183, 3) := by decide +kernel
theorem dX6_firstThatWins_30 : decode cX6_firstThatWins 30 = .ok (.iload 4, 2) := by decide +kernel
theorem dX6_firstThatWins_32 : decode cX6_firstThatWins 32 = .ok (.iaload, 1) := by decide +kernel
theorem dX6_firstThatWins_33 : decode cX6_firstThatWins 33 = .ok (.if_icmp .gt 44, 3) := by decide +kernel
theorem dX6_firstThatWins_36 : decode cX6_firstThatWins 36 = .ok (.aload_n 0, 1) := by decide +kernel
theorem dX6_firstThatWins_37 : decode cX6_firstThatWins 37 = .ok (.iload_n 1, 1) := by decide +kernel
theorem dX6_firstThatWins_38 : decode cX6_firstThatWins 38 = .ok (.iload_n 3, 1) := by decide +kernel
theorem dX6_firstThatWins_39 : decode cX6_firstThatWins 39 = .ok (.iconst 0, 1) := by decide +kernel
theorem dX6_firstThatWins_40 : decode cX6_firstThatWins 40 = .ok (.invokevirtual 228, 3) := by decide +kernel
theorem dX6_firstThatWins_43 : decode cX6_firstThatWins 43 = .ok (.aload_n 0, 1) := by decide +kernel
theorem dX6_firstThatWins_44 : decode cX6_firstThatWins 44 = .ok (.getfield 36, 3) := by decide +kernel
theorem dX6_firstThatWins_47 : decode cX6_firstThatWins 47 = .ok (.iload_n 2, 1) := by decide +kernel
theorem dX6_firstThatWins_48 : decode cX6_firstThatWins 48 = .ok (.iload 4, 2) := by decide +kernel
theorem dX6_firstThatWins_50 : decode cX6_firstThatWins 50 = .ok (.iload 5, 2) := by decide +kernel
theorem dX6_firstThatWins_52 : decode cX6_firstThatWins 52 = .ok (.invokevirtual 353, 3) := by decide +kernel
theorem dX6_firstThatWins_55 : decode cX6_firstThatWins 55 = .ok (.aload_n 0, 1) := by decide +kernel
theorem dX6_firstThatWins_56 : decode cX6_firstThatWins 56 = .ok (.getfield 36, 3) := by decide +kernel
theorem dX6_firstThatWins_59 : decode cX6_firstThatWins 59 = .ok (.invokevirtual 236, 3) := by decide +kernel
theorem dX6_firstThatWins_62 : decode cX6_firstThatWins 62 = .ok (.iload_n 2, 1) := by decide +kernel
theorem dX6_firstThatWins_63 : decode cX6_firstThatWins 63 = .ok (.iconst 1, 1) := by decide +kernel
theorem dX6_firstThatWins_64 : decode cX6_firstThatWins 64 = .ok (.iadd, 1) := by decide +kernel
theorem dX6_firstThatWins_65 : decode cX6_firstThatWins 65 = .ok (.if_icmp .ne 6, 3) := by decide +kernel
theorem dX6_firstThatWins_68 : decode cX6_firstThatWins 68 = .ok (.iload 5, 2) := by decide +kernel
theorem dX6_firstThatWins_70 : decode cX6_firstThatWins 70 = .ok (.ireturn, 1) := by decide +kernel
theorem dX6_firstThatWins_71 : decode cX6_firstThatWins 71 = .ok (.iinc 5 1, 3) := by decide +kernel
theorem dX6_firstThatWins_74 : decode cX6_firstThatWins 74 = .ok (.goto (-49), 3) := by decide +kernel
theorem dX6_firstThatWins_77 : decode cX6_firstThatWins 77 = .ok (.bipush (-4), 2) := by decide +kernel
theorem dX6_firstThatWins_79 : decode cX6_firstThatWins 79 = .ok (.ireturn, 1) := by decide +kernel
set_option maxRecDepth 20000 in
theorem ggX6_fillVerdictsByGuards_X6_prepare : GoodIn wsX6_fillVerdictsByGuards wsX6_prepare := goodIn_r _ [7, 1, 8, 9, 10, 11, 12, 13, 14, 15, 16, 17, 18, 19, 20, 21, 22, 23, 24, 25, 26, 27, 28, 29, 30, 31, 32, 33, 34, 35, 53, 54, 55, 56, 57, 58, 59, 60, 61, 62, 63, 64, 65, 66, 67, 68, 69, 70, 71, 72, 73, 74, 75, 76, 77, 78, 79, 80, 81, 82, 83, 84, 85, 86, 87, 88] (by decide +kernel) (by decide +kernel)
set_option maxRecDepth 20000 in
theorem gX6_fillVerdictsByGuards_X6_prepare : GoodIn wsX6_fillVerdictsByGuards (wsV RX6 228 RX6 yX6_prepare wsX6_prepare) := goodIn_app (goodIn_of _ (by decide +kernel)) ggX6_fillVerdictsByGuards_X6_prepare
set_option maxRecDepth 20000 in
theorem ggX6_fillVerdictsByGuards_X5_change : GoodIn wsX6_fillVerdictsByGuards wsX5_change := goodIn_r _ [39, 14, 16, 18, 65, 66, 67, 68, 69, 70, 71] (by decide +kernel) (by decide +kernel)
set_option maxRecDepth 20000 in
theorem gX6_fillVerdictsByGuards_X5_change : GoodIn wsX6_fillVerdictsByGuards (wsV RX6 353 RX5 yX5_change wsX5_change) := goodIn_app (goodIn_of _ (by decide +kernel)) ggX6_fillVerdictsByGuards_X5_change
set_option maxRecDepth 20000 in
theorem ggX6_fillVerdictsByGuards_X5_verdictHeld : GoodIn wsX6_fillVerdictsByGuards wsX5_verdictHeld := goodIn_r _ [43, 44, 23, 16, 14, 32, 33, 34, 35, 45, 46, 47, 12, 48, 18, 24, 49, 50, 51, 52, 21, 65, 66, 67, 68, 69, 70, 71] (by decide +kernel) (by decide +kernel)
set_option maxRecDepth 20000 in
theorem gX6_fillVerdictsByGuards_X5_verdictHeld : GoodIn wsX6_fillVerdictsByGuards (wsV RX6 236 RX5 yX5_verdictHeld wsX5_verdictHeld) := goodIn_app (goodIn_of _ (by decide +kernel)) ggX6_fillVerdictsByGuards_X5_verdictHeld
theorem dX6_fillVerdictsByGuards_0 : decode cX6_fillVerdictsByGuards 0 = .ok (.iconst 0, 1) := by decide +kernel
theorem dX6_fillVerdictsByGuards_1 : decode cX6_fillVerdictsByGuards 1 = .ok (.istore_n 3, 1) := by decide +kernel
theorem dX6_fillVerdictsByGuards_2 : decode cX6_fillVerdictsByGuards 2 = .ok (.iload_n 3, 1) := by decide +kernel
theorem dX6_fillVerdictsByGuards_3 : decode cX6_fillVerdictsByGuards 3 = .ok (.bipush 100, 2) := by decide +kernel
theorem dX6_fillVerdictsByGuards_5 : decode cX6_fillVerdictsByGuards 5 = .ok (.if_icmp .ge 55, 3) := by decide +kernel
theorem dX6_fillVerdictsByGuards_8 : decode cX6_fillVerdictsByGuards 8 = .ok (.aload_n 0, 1) := by decide +kernel
theorem dX6_fillVerdictsByGuards_9 : decode cX6_fillVerdictsByGuards 9 = .ok (.iload_n 1, 1) := by decide +kernel
theorem dX6_fillVerdictsByGuards_10 : decode cX6_fillVerdictsByGuards 10 = .ok (.iload_n 2, 1) := by decide +kernel
theorem dX6_fillVerdictsByGuards_11 : decode cX6_fillVerdictsByGuards 11 = .ok (.iconst 0, 1) := by decide +kernel
theorem dX6_fillVerdictsByGuards_12 : decode cX6_fillVerdictsByGuards 12 = .ok (.invokevirtual 228, 3) := by decide +kernel
theorem dX6_fillVerdictsByGuards_15 : decode cX6_fillVerdictsByGuards 15 = .ok (.aload_n 0, 1) := by decide +kernel
theorem dX6_fillVerdictsByGuards_16 : decode cX6_fillVerdictsByGuards 16 = .ok (.getfield 36, 3) := by decide +kernel
theorem dX6_fillVerdictsByGuards_19 : decode cX6_fillVerdictsByGuards 19 = .ok (.iconst 0, 1) := by decide +kernel
theorem dX6_fillVerdictsByGuards_20 : decode cX6_fillVerdictsByGuards 20 = .ok (.iconst 2, 1) := by decide +kernel
theorem dX6_fillVerdictsByGuards_21 : decode cX6_fillVerdictsByGuards 21 = .ok (.iload_n 3, 1) := by decide +kernel
theorem dX6_fillVerdictsByGuards_22 : decode cX6_fillVerdictsByGuards 22 = .ok (.bipush 10, 2) := by decide +kernel
theorem dX6_fillVerdictsByGuards_24 : decode cX6_fillVerdictsByGuards 24 = .ok (.idiv, 1) := by decide +kernel
theorem dX6_fillVerdictsByGuards_25 : decode cX6_fillVerdictsByGuards 25 = .ok (.invokevirtual 353, 3) := by decide +kernel
theorem dX6_fillVerdictsByGuards_28 : decode cX6_fillVerdictsByGuards 28 = .ok (.aload_n 0, 1) := by decide +kernel
theorem dX6_fillVerdictsByGuards_29 : decode cX6_fillVerdictsByGuards 29 = .ok (.getfield 36, 3) := by decide +kernel
theorem dX6_fillVerdictsByGuards_32 : decode cX6_fillVerdictsByGuards 32 = .ok (.iconst 1, 1) := by decide +kernel
theorem dX6_fillVerdictsByGuards_33 : decode cX6_fillVerdictsByGuards 33 = .ok (.iconst 2, 1) := by decide +kernel
theorem dX6_fillVerdictsByGuards_34 : decode cX6_fillVerdictsByGuards 34 = .ok (.iload_n 3, 1) := by decide +kernel
theorem dX6_fillVerdictsByGuards_35 : decode cX6_fillVerdictsByGuards 35 = .ok (.bipush 10, 2) := by decide +kernel
theorem dX6_fillVerdictsByGuards_37 : decode cX6_fillVerdictsByGuards 37 = .ok (.irem, 1) := by decide +kernel
theorem dX6_fillVerdictsByGuards_38 : decode cX6_fillVerdictsByGuards 38 = .ok (.invokevirtual 353, 3) := by decide +kernel
theorem dX6_fillVerdictsByGuards_41 : decode cX6_fillVerdictsByGuards 41 = .ok (.aload_n 0, 1) := by decide +kernel
theorem dX6_fillVerdictsByGuards_42 : decode cX6_fillVerdictsByGuards 42 = .ok (.getfield 61, 3) := by decide +kernel
theorem dX6_fillVerdictsByGuards_45 : decode cX6_fillVerdictsByGuards 45 = .ok (.iload_n 3, 1) := by decide +kernel
theorem dX6_fillVerdictsByGuards_46 : decode cX6_fillVerdictsByGuards 46 = .ok (.aload_n 0, 1) := by decide +kernel
theorem dX6_fillVerdictsByGuards_47 : decode cX6_fillVerdictsByGuards 47 = .ok (.getfield 36, 3) := by decide +kernel
theorem dX6_fillVerdictsByGuards_50 : decode cX6_fillVerdictsByGuards 50 = .ok (.invokevirtual 236, 3) := by decide +kernel
theorem dX6_fillVerdictsByGuards_53 : decode cX6_fillVerdictsByGuards 53 = .ok (.iastore, 1) := by decide +kernel
theorem dX6_fillVerdictsByGuards_54 : decode cX6_fillVerdictsByGuards 54 = .ok (.iinc 3 1, 3) := by decide +kernel
theorem dX6_fillVerdictsByGuards_57 : decode cX6_fillVerdictsByGuards 57 = .ok (.goto (-55), 3) := by decide +kernel
theorem dX6_fillVerdictsByGuards_60 : decode cX6_fillVerdictsByGuards 60 = .ok (.return_, 1) := by decide +kernel
theorem dX6_winsWhateverTheOther_0 : decode cX6_winsWhateverTheOther 0 = .ok (.iconst 0, 1) := by decide +kernel
theorem dX6_winsWhateverTheOther_1 : decode cX6_winsWhateverTheOther 1 = .ok (.istore_n 3, 1) := by decide +kernel
theorem dX6_winsWhateverTheOther_2 : decode cX6_winsWhateverTheOther 2 = .ok (.iload_n 3, 1) := by decide +kernel
theorem dX6_winsWhateverTheOther_3 : decode cX6_winsWhateverTheOther 3 = .ok (.bipush 10, 2) := by decide +kernel
theorem dX6_winsWhateverTheOther_5 : decode cX6_winsWhateverTheOther 5 = .ok (.if_icmp .ge 45, 3) := by decide +kernel
theorem dX6_winsWhateverTheOther_8 : decode cX6_winsWhateverTheOther 8 = .ok (.iload_n 1, 1) := by decide +kernel
theorem dX6_winsWhateverTheOther_9 : decode cX6_winsWhateverTheOther 9 = .ok (.ifCond .ne 12, 3) := by decide +kernel
theorem dX6_winsWhateverTheOther_12 : decode cX6_winsWhateverTheOther 12 = .ok (.bipush 10, 2) := by decide +kernel
theorem dX6_winsWhateverTheOther_14 : decode cX6_winsWhateverTheOther 14 = .ok (.iload_n 2, 1) := by decide +kernel
theorem dX6_winsWhateverTheOther_15 : decode cX6_winsWhateverTheOther 15 = .ok (.imul, 1) := by decide +kernel
theorem dX6_winsWhateverTheOther_16 : decode cX6_winsWhateverTheOther 16 = .ok (.iload_n 3, 1) := by decide +kernel
theorem dX6_winsWhateverTheOther_17 : decode cX6_winsWhateverTheOther 17 = .ok (.iadd, 1) := by decide +kernel
theorem dX6_winsWhateverTheOther_18 : decode cX6_winsWhateverTheOther 18 = .ok (.goto 9, 3) := by decide +kernel
theorem dX6_winsWhateverTheOther_21 : decode cX6_winsWhateverTheOther 21 = .ok (.bipush 10, 2) := by decide +kernel
theorem dX6_winsWhateverTheOther_23 : decode cX6_winsWhateverTheOther 23 = .ok (.iload_n 3, 1) := by decide +kernel
theorem dX6_winsWhateverTheOther_24 : decode cX6_winsWhateverTheOther 24 = .ok (.imul, 1) := by decide +kernel
theorem dX6_winsWhateverTheOther_25 : decode cX6_winsWhateverTheOther 25 = .ok (.iload_n 2, 1) := by decide +kernel
theorem dX6_winsWhateverTheOther_26 : decode cX6_winsWhateverTheOther 26 = .ok (.iadd, 1) := by decide +kernel
theorem dX6_winsWhateverTheOther_27 : decode cX6_winsWhateverTheOther 27 = .ok (.istore 4, 2) := by decide +kernel
theorem dX6_winsWhateverTheOther_29 : decode cX6_winsWhateverTheOther 29 = .ok (.aload_n 0, 1) := by decide +kernel
theorem dX6_winsWhateverTheOther_30 : decode cX6_winsWhateverTheOther 30 = .ok (.getfield 61, 3) := by decide +kernel
theorem dX6_winsWhateverTheOther_33 : decode cX6_winsWhateverTheOther 33 = .ok (.iload 4, 2) := by decide +kernel
theorem dX6_winsWhateverTheOther_35 : decode cX6_winsWhateverTheOther 35 = .ok (.iaload, 1) := by decide +kernel
theorem dX6_winsWhateverTheOther_36 : decode cX6_winsWhateverTheOther 36 = .ok (.iload_n 1, 1) := by decide +kernel
theorem dX6_winsWhateverTheOther_37 : decode cX6_winsWhateverTheOther 37 = .ok (.iconst 1, 1) := by decide +kernel
theorem dX6_winsWhateverTheOther_38 : decode cX6_winsWhateverTheOther 38 = .ok (.iadd, 1) := by decide +kernel
theorem dX6_winsWhateverTheOther_39 : decode cX6_winsWhateverTheOther 39 = .ok (.if_icmp .eq 5, 3) := by decide +kernel
theorem dX6_winsWhateverTheOther_42 : decode cX6_winsWhateverTheOther 42 = .ok (.iconst 0, 1) := by decide +kernel
theorem dX6_winsWhateverTheOther_43 : decode cX6_winsWhateverTheOther 43 = .ok (.ireturn, 1) := by decide +kernel
theorem dX6_winsWhateverTheOther_44 : decode cX6_winsWhateverTheOther 44 = .ok (.iinc 3 1, 3) := by decide +kernel
theorem dX6_winsWhateverTheOther_47 : decode cX6_winsWhateverTheOther 47 = .ok (.goto (-45), 3) := by decide +kernel
theorem dX6_winsWhateverTheOther_50 : decode cX6_winsWhateverTheOther 50 = .ok (.iconst 1, 1) := by decide +kernel
theorem dX6_winsWhateverTheOther_51 : decode cX6_winsWhateverTheOther 51 = .ok (.ireturn, 1) := by decide +kernel
set_option maxRecDepth 20000 in
theorem ggX6_isAtRest_X6_worth : GoodIn wsX6_isAtRest wsX6_worth := goodIn_r _ [5] (by decide +kernel) (by decide +kernel)
set_option maxRecDepth 20000 in
theorem gX6_isAtRest_X6_worth : GoodIn wsX6_isAtRest (va_wsS RX6 356 yX6_worth wsX6_worth) := goodIn_app (goodIn_of _ (by decide +kernel)) ggX6_isAtRest_X6_worth
theorem dX6_isAtRest_0 : decode cX6_isAtRest 0 = .ok (.aload_n 0, 1) := by decide +kernel
theorem dX6_isAtRest_1 : decode cX6_isAtRest 1 = .ok (.getfield 61, 3) := by decide +kernel
theorem dX6_isAtRest_4 : decode cX6_isAtRest 4 = .ok (.bipush 10, 2) := by decide +kernel
theorem dX6_isAtRest_6 : decode cX6_isAtRest 6 = .ok (.iload_n 1, 1) := by decide +kernel
theorem dX6_isAtRest_7 : decode cX6_isAtRest 7 = .ok (.imul, 1) := by decide +kernel
theorem dX6_isAtRest_8 : decode cX6_isAtRest 8 = .ok (.iload_n 2, 1) := by decide +kernel
theorem dX6_isAtRest_9 : decode cX6_isAtRest 9 = .ok (.iadd, 1) := by decide +kernel
theorem dX6_isAtRest_10 : decode cX6_isAtRest 10 = .ok (.iaload, 1) := by decide +kernel
theorem dX6_isAtRest_11 : decode cX6_isAtRest 11 = .ok (.istore_n 3, 1) := by decide +kernel
theorem dX6_isAtRest_12 : decode cX6_isAtRest 12 = .ok (.iconst 0, 1) := by decide +kernel
theorem dX6_isAtRest_13 : decode cX6_isAtRest 13 = .ok (.istore 4, 2) := by decide +kernel
theorem dX6_isAtRest_15 : decode cX6_isAtRest 15 = .ok (.iload 4, 2) := by decide +kernel
theorem dX6_isAtRest_17 : decode cX6_isAtRest 17 = .ok (.bipush 10, 2) := by decide +kernel
theorem dX6_isAtRest_19 : decode cX6_isAtRest 19 = .ok (.if_icmp .ge 59, 3) := by decide +kernel
theorem dX6_isAtRest_22 : decode cX6_isAtRest 22 = .ok (.aload_n 0, 1) := by decide +kernel
theorem dX6_isAtRest_23 : decode cX6_isAtRest 23 = .ok (.getfield 61, 3) := by decide +kernel
theorem dX6_isAtRest_26 : decode cX6_isAtRest 26 = .ok (.bipush 10, 2) := by decide +kernel
theorem dX6_isAtRest_28 : decode cX6_isAtRest 28 = .ok (.iload 4, 2) := by decide +kernel
theorem dX6_isAtRest_30 : decode cX6_isAtRest 30 = .ok (.imul, 1) := by decide +kernel
theorem dX6_isAtRest_31 : decode cX6_isAtRest 31 = .ok (.iload_n 2, 1) := by decide +kernel
theorem dX6_isAtRest_32 : decode cX6_isAtRest 32 = .ok (.iadd, 1) := by decide +kernel
theorem dX6_isAtRest_33 : decode cX6_isAtRest 33 = .ok (.iaload, 1) := by decide +kernel
theorem dX6_isAtRest_34 : decode cX6_isAtRest 34 = .ok (.iconst 0, 1) := by decide +kernel
theorem dX6_isAtRest_35 : decode cX6_isAtRest 35 = .ok (.invokestatic 356, 3) := by decide +kernel
theorem dX6_isAtRest_38 : decode cX6_isAtRest 38 = .ok (.iload_n 3, 1) := by decide +kernel
theorem dX6_isAtRest_39 : decode cX6_isAtRest 39 = .ok (.iconst 0, 1) := by decide +kernel
theorem dX6_isAtRest_40 : decode cX6_isAtRest 40 = .ok (.invokestatic 356, 3) := by decide +kernel
theorem dX6_isAtRest_43 : decode cX6_isAtRest 43 = .ok (.if_icmp .gt 27, 3) := by decide +kernel
theorem dX6_isAtRest_46 : decode cX6_isAtRest 46 = .ok (.aload_n 0, 1) := by decide +kernel
theorem dX6_isAtRest_47 : decode cX6_isAtRest 47 = .ok (.getfield 61, 3) := by decide +kernel
theorem dX6_isAtRest_50 : decode cX6_isAtRest 50 = .ok (.bipush 10, 2) := by decide +kernel
theorem dX6_isAtRest_52 : decode cX6_isAtRest 52 = .ok (.iload_n 1, 1) := by decide +kernel
theorem dX6_isAtRest_53 : decode cX6_isAtRest 53 = .ok (.imul, 1) := by decide +kernel
theorem dX6_isAtRest_54 : decode cX6_isAtRest 54 = .ok (.iload 4, 2) := by decide +kernel
theorem dX6_isAtRest_56 : decode cX6_isAtRest 56 = .ok (.iadd, 1) := by decide +kernel
theorem dX6_isAtRest_57 : decode cX6_isAtRest 57 = .ok (.iaload, 1) := by decide +kernel
theorem dX6_isAtRest_58 : decode cX6_isAtRest 58 = .ok (.iconst 1, 1) := by decide +kernel
theorem dX6_isAtRest_59 : decode cX6_isAtRest 59 = .ok (.invokestatic 356, 3) := by decide +kernel
theorem dX6_isAtRest_62 : decode cX6_isAtRest 62 = .ok (.iload_n 3, 1) := by decide +kernel
theorem dX6_isAtRest_63 : decode cX6_isAtRest 63 = .ok (.iconst 1, 1) := by decide +kernel
theorem dX6_isAtRest_64 : decode cX6_isAtRest 64 = .ok (.invokestatic 356, 3) := by decide +kernel
theorem dX6_isAtRest_67 : decode cX6_isAtRest 67 = .ok (.if_icmp .le 5, 3) := by decide +kernel
theorem dX6_isAtRest_70 : decode cX6_isAtRest 70 = .ok (.iconst 0, 1) := by decide +kernel
theorem dX6_isAtRest_71 : decode cX6_isAtRest 71 = .ok (.ireturn, 1) := by decide +kernel
theorem dX6_isAtRest_72 : decode cX6_isAtRest 72 = .ok (.iinc 4 1, 3) := by decide +kernel
theorem dX6_isAtRest_75 : decode cX6_isAtRest 75 = .ok (.goto (-60), 3) := by decide +kernel
theorem dX6_isAtRest_78 : decode cX6_isAtRest 78 = .ok (.iconst 1, 1) := by decide +kernel
theorem dX6_isAtRest_79 : decode cX6_isAtRest 79 = .ok (.ireturn, 1) := by decide +kernel
theorem dX6_worth_0 : decode cX6_worth 0 = .ok (.iload_n 0, 1) := by decide +kernel
theorem dX6_worth_1 : decode cX6_worth 1 = .ok (.iconst 3, 1) := by decide +kernel
theorem dX6_worth_2 : decode cX6_worth 2 = .ok (.if_icmp .ne 5, 3) := by decide +kernel
theorem dX6_worth_5 : decode cX6_worth 5 = .ok (.iconst 1, 1) := by decide +kernel
theorem dX6_worth_6 : decode cX6_worth 6 = .ok (.ireturn, 1) := by decide +kernel
theorem dX6_worth_7 : decode cX6_worth 7 = .ok (.iload_n 0, 1) := by decide +kernel
theorem dX6_worth_8 : decode cX6_worth 8 = .ok (.iload_n 1, 1) := by decide +kernel
theorem dX6_worth_9 : decode cX6_worth 9 = .ok (.iconst 1, 1) := by decide +kernel
theorem dX6_worth_10 : decode cX6_worth 10 = .ok (.iadd, 1) := by decide +kernel
theorem dX6_worth_11 : decode cX6_worth 11 = .ok (.if_icmp .ne 7, 3) := by decide +kernel
theorem dX6_worth_14 : decode cX6_worth 14 = .ok (.iconst 2, 1) := by decide +kernel
theorem dX6_worth_15 : decode cX6_worth 15 = .ok (.goto 4, 3) := by decide +kernel
theorem dX6_worth_18 : decode cX6_worth 18 = .ok (.iconst 0, 1) := by decide +kernel
theorem dX6_worth_19 : decode cX6_worth 19 = .ok (.ireturn, 1) := by decide +kernel
set_option maxRecDepth 20000 in
theorem ggX6_casesThatMayBeWon_X6_judgesFor : GoodIn wsX6_casesThatMayBeWon wsX6_judgesFor := goodIn_r _ [8, 1, 9, 10, 11, 12, 7, 13, 14, 15, 16, 17, 18, 19, 20, 21, 22, 23, 24, 25, 26, 27, 28, 29, 30, 31, 32, 33, 34, 35, 36, 37, 38, 39, 40, 41, 42, 43, 44, 45, 46, 47, 48, 49, 50, 51, 52, 53, 54, 55, 56, 57, 58, 59, 60, 61, 62, 63, 64, 65, 66, 67, 68, 69, 70, 71, 72, 73, 74, 75, 76, 77, 78, 79, 80, 81, 82, 83, 84, 85, 86, 87, 88, 89, 90, 91, 92, 93, 94] (by decide +kernel) (by decide +kernel)
set_option maxRecDepth 20000 in
theorem gX6_casesThatMayBeWon_X6_judgesFor : GoodIn wsX6_casesThatMayBeWon (wsV RX6 221 RX6 yX6_judgesFor wsX6_judgesFor) := goodIn_app (goodIn_of _ (by decide +kernel)) ggX6_casesThatMayBeWon_X6_judgesFor
theorem dX6_casesThatMayBeWon_0 : decode cX6_casesThatMayBeWon 0 = .ok (.iconst 0, 1) := by decide +kernel
theorem dX6_casesThatMayBeWon_1 : decode cX6_casesThatMayBeWon 1 = .ok (.istore_n 2, 1) := by decide +kernel
theorem dX6_casesThatMayBeWon_2 : decode cX6_casesThatMayBeWon 2 = .ok (.iconst 0, 1) := by decide +kernel
theorem dX6_casesThatMayBeWon_3 : decode cX6_casesThatMayBeWon 3 = .ok (.istore_n 3, 1) := by decide +kernel
theorem dX6_casesThatMayBeWon_4 : decode cX6_casesThatMayBeWon 4 = .ok (.iload_n 3, 1) := by decide +kernel
theorem dX6_casesThatMayBeWon_5 : decode cX6_casesThatMayBeWon 5 = .ok (.aload_n 0, 1) := by decide +kernel
theorem dX6_casesThatMayBeWon_6 : decode cX6_casesThatMayBeWon 6 = .ok (.getfield 12, 3) := by decide +kernel
theorem dX6_casesThatMayBeWon_9 : decode cX6_casesThatMayBeWon 9 = .ok (.getfield 110, 3) := by decide +kernel
theorem dX6_casesThatMayBeWon_12 : decode cX6_casesThatMayBeWon 12 = .ok (.if_icmp .ge 38, 3) := by decide +kernel
theorem dX6_casesThatMayBeWon_15 : decode cX6_casesThatMayBeWon 15 = .ok (.iload_n 2, 1) := by decide +kernel
theorem dX6_casesThatMayBeWon_16 : decode cX6_casesThatMayBeWon 16 = .ok (.aload_n 0, 1) := by decide +kernel
theorem dX6_casesThatMayBeWon_17 : decode cX6_casesThatMayBeWon 17 = .ok (.getfield 12, 3) := by decide +kernel
theorem dX6_casesThatMayBeWon_20 : decode cX6_casesThatMayBeWon 20 = .ok (.getfield 122, 3) := by decide +kernel
theorem dX6_casesThatMayBeWon_23 : decode cX6_casesThatMayBeWon 23 = .ok (.iload_n 3, 1) := by decide +kernel
theorem dX6_casesThatMayBeWon_24 : decode cX6_casesThatMayBeWon 24 = .ok (.iaload, 1) := by decide +kernel
theorem dX6_casesThatMayBeWon_25 : decode cX6_casesThatMayBeWon 25 = .ok (.ifCond .ne 16, 3) := by decide +kernel
theorem dX6_casesThatMayBeWon_28 : decode cX6_casesThatMayBeWon 28 = .ok (.aload_n 0, 1) := by decide +kernel
theorem dX6_casesThatMayBeWon_29 : decode cX6_casesThatMayBeWon 29 = .ok (.iload_n 3, 1) := by decide +kernel
theorem dX6_casesThatMayBeWon_30 : decode cX6_casesThatMayBeWon 30 = .ok (.iload_n 1, 1) := by decide +kernel
theorem dX6_casesThatMayBeWon_31 : decode cX6_casesThatMayBeWon 31 = .ok (.invokevirtual 221, 3) := by decide +kernel
theorem dX6_casesThatMayBeWon_34 : decode cX6_casesThatMayBeWon 34 = .ok (.ifCond .eq 7, 3) := by decide +kernel
theorem dX6_casesThatMayBeWon_37 : decode cX6_casesThatMayBeWon 37 = .ok (.iconst 1, 1) := by decide +kernel
theorem dX6_casesThatMayBeWon_38 : decode cX6_casesThatMayBeWon 38 = .ok (.goto 4, 3) := by decide +kernel
theorem dX6_casesThatMayBeWon_41 : decode cX6_casesThatMayBeWon 41 = .ok (.iconst 0, 1) := by decide +kernel
theorem dX6_casesThatMayBeWon_42 : decode cX6_casesThatMayBeWon 42 = .ok (.iadd, 1) := by decide +kernel
theorem dX6_casesThatMayBeWon_43 : decode cX6_casesThatMayBeWon 43 = .ok (.istore_n 2, 1) := by decide +kernel
theorem dX6_casesThatMayBeWon_44 : decode cX6_casesThatMayBeWon 44 = .ok (.iinc 3 1, 3) := by decide +kernel
theorem dX6_casesThatMayBeWon_47 : decode cX6_casesThatMayBeWon 47 = .ok (.goto (-43), 3) := by decide +kernel
theorem dX6_casesThatMayBeWon_50 : decode cX6_casesThatMayBeWon 50 = .ok (.iload_n 2, 1) := by decide +kernel
theorem dX6_casesThatMayBeWon_51 : decode cX6_casesThatMayBeWon 51 = .ok (.ireturn, 1) := by decide +kernel
set_option maxRecDepth 20000 in
theorem ggX6_bestJudge_X6_judgesFor : GoodIn wsX6_bestJudge wsX6_judgesFor := goodIn_r _ [7, 1, 8, 9, 10, 11, 6, 12, 13, 14, 15, 16, 17, 18, 19, 20, 21, 22, 23, 24, 25, 26, 27, 28, 29, 30, 31, 32, 33, 34, 35, 36, 37, 38, 39, 40, 41, 42, 43, 44, 45, 46, 47, 48, 49, 50, 51, 52, 53, 54, 55, 56, 57, 63, 64, 65, 66, 67, 68, 69, 70, 71, 72, 73, 74, 75, 76, 77, 78, 79, 80, 81, 82, 83, 84, 85, 86, 87, 88, 89, 90, 91, 92, 93, 94, 95, 96, 97, 98] (by decide +kernel) (by decide +kernel)
set_option maxRecDepth 20000 in
theorem gX6_bestJudge_X6_judgesFor : GoodIn wsX6_bestJudge (wsV RX6 221 RX6 yX6_judgesFor wsX6_judgesFor) := goodIn_app (goodIn_of _ (by decide +kernel)) ggX6_bestJudge_X6_judgesFor
set_option maxRecDepth 20000 in
theorem ggX6_bestJudge_J6_numberOfTrailingZeros_0f7a4 : GoodIn wsX6_bestJudge wsJ6_numberOfTrailingZeros_0f7a4 := goodIn_r _ [61, 62] (by decide +kernel) (by decide +kernel)
set_option maxRecDepth 20000 in
theorem gX6_bestJudge_J6_numberOfTrailingZeros_0f7a4 : GoodIn wsX6_bestJudge (va_wsS RX6 359 yJ6_numberOfTrailingZeros_0f7a4 wsJ6_numberOfTrailingZeros_0f7a4) := goodIn_app (goodIn_of _ (by decide +kernel)) ggX6_bestJudge_J6_numberOfTrailingZeros_0f7a4
theorem dX6_bestJudge_0 : decode cX6_bestJudge 0 = .ok (.aload_n 0, 1) := by decide +kernel
theorem dX6_bestJudge_1 : decode cX6_bestJudge 1 = .ok (.getfield 12, 3) := by decide +kernel
theorem dX6_bestJudge_4 : decode cX6_bestJudge 4 = .ok (.getfield 122, 3) := by decide +kernel
theorem dX6_bestJudge_7 : decode cX6_bestJudge 7 = .ok (.iload_n 1, 1) := by decide +kernel
theorem dX6_bestJudge_8 : decode cX6_bestJudge 8 = .ok (.iaload, 1) := by decide +kernel
theorem dX6_bestJudge_9 : decode cX6_bestJudge 9 = .ok (.ifCond .eq 6, 3) := by decide +kernel
theorem dX6_bestJudge_12 : decode cX6_bestJudge 12 = .ok (.bipush (-4), 2) := by decide +kernel
theorem dX6_bestJudge_14 : decode cX6_bestJudge 14 = .ok (.ireturn, 1) := by decide +kernel
theorem dX6_bestJudge_15 : decode cX6_bestJudge 15 = .ok (.aload_n 0, 1) := by decide +kernel
theorem dX6_bestJudge_16 : decode cX6_bestJudge 16 = .ok (.iload_n 1, 1) := by decide +kernel
theorem dX6_bestJudge_17 : decode cX6_bestJudge 17 = .ok (.iload_n 2, 1) := by decide +kernel
theorem dX6_bestJudge_18 : decode cX6_bestJudge 18 = .ok (.invokevirtual 221, 3) := by decide +kernel
theorem dX6_bestJudge_21 : decode cX6_bestJudge 21 = .ok (.istore_n 3, 1) := by decide +kernel
theorem dX6_bestJudge_22 : decode cX6_bestJudge 22 = .ok (.iload_n 3, 1) := by decide +kernel
theorem dX6_bestJudge_23 : decode cX6_bestJudge 23 = .ok (.ifCond .ne 7, 3) := by decide +kernel
theorem dX6_bestJudge_26 : decode cX6_bestJudge 26 = .ok (.iconst 0, 1) := by decide +kernel
theorem dX6_bestJudge_27 : decode cX6_bestJudge 27 = .ok (.goto 7, 3) := by decide +kernel
theorem dX6_bestJudge_30 : decode cX6_bestJudge 30 = .ok (.iload_n 3, 1) := by decide +kernel
theorem dX6_bestJudge_31 : decode cX6_bestJudge 31 = .ok (.invokestatic 359, 3) := by decide +kernel
theorem dX6_bestJudge_34 : decode cX6_bestJudge 34 = .ok (.ireturn, 1) := by decide +kernel
set_option maxRecDepth 20000 in
theorem ggX6_wonByDocket_X3_goByDocket : GoodIn wsX6_wonByDocket wsX3_goByDocket := goodIn_r _ [10, 11, 12, 13, 14, 15, 16, 17, 18, 19, 20, 21, 22, 23, 24, 25, 26, 27, 28, 29, 30, 31, 32, 33, 34, 35, 36, 37, 38, 39, 40, 41, 42, 43, 44, 45, 46, 47, 48, 49, 50, 51, 52, 53, 54, 55, 56, 57, 58, 59, 60, 61, 62, 63, 64, 65, 66, 67, 68, 94, 95, 96, 97, 98, 99, 100, 101, 102, 103, 104, 105, 106, 107, 108, 109, 110, 91, 92, 93, 111, 112, 113, 114, 115, 116, 117] (by decide +kernel) (by decide +kernel)
set_option maxRecDepth 20000 in
theorem gX6_wonByDocket_X3_goByDocket : GoodIn wsX6_wonByDocket (wsV RX6 210 RX3 yX3_goByDocket wsX3_goByDocket) := goodIn_app (goodIn_of _ (by decide +kernel)) ggX6_wonByDocket_X3_goByDocket
set_option maxRecDepth 20000 in
theorem ggX6_wonByDocket_X6_bitsOf : GoodIn wsX6_wonByDocket wsX6_bitsOf := goodIn_r _ [71] (by decide +kernel) (by decide +kernel)
set_option maxRecDepth 20000 in
theorem gX6_wonByDocket_X6_bitsOf : GoodIn wsX6_wonByDocket (va_wsS RX6 125 yX6_bitsOf wsX6_bitsOf) := goodIn_app (goodIn_of _ (by decide +kernel)) ggX6_wonByDocket_X6_bitsOf
set_option maxRecDepth 20000 in
theorem ggX6_wonByDocket_J6_bitCount_0f7a4 : GoodIn wsX6_wonByDocket wsJ6_bitCount_0f7a4 := goodIn_r _ [75, 76, 77, 78] (by decide +kernel) (by decide +kernel)
set_option maxRecDepth 20000 in
theorem gX6_wonByDocket_J6_bitCount_0f7a4 : GoodIn wsX6_wonByDocket (va_wsS RX6 291 yJ6_bitCount_0f7a4 wsJ6_bitCount_0f7a4) := goodIn_app (goodIn_of _ (by decide +kernel)) ggX6_wonByDocket_J6_bitCount_0f7a4
theorem dX6_wonByDocket_0 : decode cX6_wonByDocket 0 = .ok (.aload_n 0, 1) := by decide +kernel
theorem dX6_wonByDocket_1 : decode cX6_wonByDocket 1 = .ok (.getfield 43, 3) := by decide +kernel
theorem dX6_wonByDocket_4 : decode cX6_wonByDocket 4 = .ok (.aload_n 0, 1) := by decide +kernel
theorem dX6_wonByDocket_5 : decode cX6_wonByDocket 5 = .ok (.getfield 12, 3) := by decide +kernel
theorem dX6_wonByDocket_8 : decode cX6_wonByDocket 8 = .ok (.aload_n 0, 1) := by decide +kernel
theorem dX6_wonByDocket_9 : decode cX6_wonByDocket 9 = .ok (.getfield 36, 3) := by decide +kernel
theorem dX6_wonByDocket_12 : decode cX6_wonByDocket 12 = .ok (.iload_n 2, 1) := by decide +kernel
theorem dX6_wonByDocket_13 : decode cX6_wonByDocket 13 = .ok (.invokevirtual 210, 3) := by decide +kernel
theorem dX6_wonByDocket_16 : decode cX6_wonByDocket 16 = .ok (.aload_n 0, 1) := by decide +kernel
theorem dX6_wonByDocket_17 : decode cX6_wonByDocket 17 = .ok (.getfield 43, 3) := by decide +kernel
theorem dX6_wonByDocket_20 : decode cX6_wonByDocket 20 = .ok (.getfield 220, 3) := by decide +kernel
theorem dX6_wonByDocket_23 : decode cX6_wonByDocket 23 = .ok (.aload_n 0, 1) := by decide +kernel
theorem dX6_wonByDocket_24 : decode cX6_wonByDocket 24 = .ok (.getfield 12, 3) := by decide +kernel
theorem dX6_wonByDocket_27 : decode cX6_wonByDocket 27 = .ok (.getfield 110, 3) := by decide +kernel
theorem dX6_wonByDocket_30 : decode cX6_wonByDocket 30 = .ok (.iload_n 1, 1) := by decide +kernel
theorem dX6_wonByDocket_31 : decode cX6_wonByDocket 31 = .ok (.iconst 1, 1) := by decide +kernel
theorem dX6_wonByDocket_32 : decode cX6_wonByDocket 32 = .ok (.iadd, 1) := by decide +kernel
theorem dX6_wonByDocket_33 : decode cX6_wonByDocket 33 = .ok (.invokestatic 125, 3) := by decide +kernel
theorem dX6_wonByDocket_36 : decode cX6_wonByDocket 36 = .ok (.invokestatic 291, 3) := by decide +kernel
theorem dX6_wonByDocket_39 : decode cX6_wonByDocket 39 = .ok (.ireturn, 1) := by decide +kernel
theorem dX6_weightOf_0 : decode cX6_weightOf 0 = .ok (.lconst 1, 1) := by decide +kernel
theorem dX6_weightOf_1 : decode cX6_weightOf 1 = .ok (.lstore_n 3, 1) := by decide +kernel
theorem dX6_weightOf_2 : decode cX6_weightOf 2 = .ok (.iconst 0, 1) := by decide +kernel
theorem dX6_weightOf_3 : decode cX6_weightOf 3 = .ok (.istore 5, 2) := by decide +kernel
theorem dX6_weightOf_5 : decode cX6_weightOf 5 = .ok (.iload 5, 2) := by decide +kernel
theorem dX6_weightOf_7 : decode cX6_weightOf 7 = .ok (.aload_n 0, 1) := by decide +kernel
theorem dX6_weightOf_8 : decode cX6_weightOf 8 = .ok (.getfield 12, 3) := by decide +kernel
theorem dX6_weightOf_11 : decode cX6_weightOf 11 = .ok (.getfield 116, 3) := by decide +kernel
theorem dX6_weightOf_14 : decode cX6_weightOf 14 = .ok (.if_icmp .ge 31, 3) := by decide +kernel
theorem dX6_weightOf_17 : decode cX6_weightOf 17 = .ok (.lload_n 3, 1) := by decide +kernel
theorem dX6_weightOf_18 : decode cX6_weightOf 18 = .ok (.iload_n 2, 1) := by decide +kernel
theorem dX6_weightOf_19 : decode cX6_weightOf 19 = .ok (.iload 5, 2) := by decide +kernel
theorem dX6_weightOf_21 : decode cX6_weightOf 21 = .ok (.ishr, 1) := by decide +kernel
theorem dX6_weightOf_22 : decode cX6_weightOf 22 = .ok (.iconst 1, 1) := by decide +kernel
theorem dX6_weightOf_23 : decode cX6_weightOf 23 = .ok (.iand, 1) := by decide +kernel
theorem dX6_weightOf_24 : decode cX6_weightOf 24 = .ok (.ifCond .eq 8, 3) := by decide +kernel
theorem dX6_weightOf_27 : decode cX6_weightOf 27 = .ok (.iload_n 1, 1) := by decide +kernel
theorem dX6_weightOf_28 : decode cX6_weightOf 28 = .ok (.i2l, 1) := by decide +kernel
theorem dX6_weightOf_29 : decode cX6_weightOf 29 = .ok (.goto 8, 3) := by decide +kernel
theorem dX6_weightOf_32 : decode cX6_weightOf 32 = .ok (.bipush 10, 2) := by decide +kernel
theorem dX6_weightOf_34 : decode cX6_weightOf 34 = .ok (.iload_n 1, 1) := by decide +kernel
theorem dX6_weightOf_35 : decode cX6_weightOf 35 = .ok (.isub, 1) := by decide +kernel
theorem dX6_weightOf_36 : decode cX6_weightOf 36 = .ok (.i2l, 1) := by decide +kernel
theorem dX6_weightOf_37 : decode cX6_weightOf 37 = .ok (.lmul, 1) := by decide +kernel
theorem dX6_weightOf_38 : decode cX6_weightOf 38 = .ok (.lstore_n 3, 1) := by decide +kernel
theorem dX6_weightOf_39 : decode cX6_weightOf 39 = .ok (.iinc 5 1, 3) := by decide +kernel
theorem dX6_weightOf_42 : decode cX6_weightOf 42 = .ok (.goto (-37), 3) := by decide +kernel
theorem dX6_weightOf_45 : decode cX6_weightOf 45 = .ok (.lload_n 3, 1) := by decide +kernel
theorem dX6_weightOf_46 : decode cX6_weightOf 46 = .ok (.lreturn, 1) := by decide +kernel
theorem dX6_tenths_0 : decode cX6_tenths 0 = .ok (.lconst 1, 1) := by decide +kernel
theorem dX6_tenths_1 : decode cX6_tenths 1 = .ok (.lstore_n 1, 1) := by decide +kernel
theorem dX6_tenths_2 : decode cX6_tenths 2 = .ok (.iconst 0, 1) := by decide +kernel
theorem dX6_tenths_3 : decode cX6_tenths 3 = .ok (.istore_n 3, 1) := by decide +kernel
theorem dX6_tenths_4 : decode cX6_tenths 4 = .ok (.iload_n 3, 1) := by decide +kernel
theorem dX6_tenths_5 : decode cX6_tenths 5 = .ok (.aload_n 0, 1) := by decide +kernel
theorem dX6_tenths_6 : decode cX6_tenths 6 = .ok (.getfield 12, 3) := by decide +kernel
theorem dX6_tenths_9 : decode cX6_tenths 9 = .ok (.getfield 116, 3) := by decide +kernel
theorem dX6_tenths_12 : decode cX6_tenths 12 = .ok (.if_icmp .ge 15, 3) := by decide +kernel
theorem dX6_tenths_15 : decode cX6_tenths 15 = .ok (.lload_n 1, 1) := by decide +kernel
theorem dX6_tenths_16 : decode cX6_tenths 16 = .ok (.ldc2_w 252, 3) := by decide +kernel
theorem dX6_tenths_19 : decode cX6_tenths 19 = .ok (.lmul, 1) := by decide +kernel
theorem dX6_tenths_20 : decode cX6_tenths 20 = .ok (.lstore_n 1, 1) := by decide +kernel
theorem dX6_tenths_21 : decode cX6_tenths 21 = .ok (.iinc 3 1, 3) := by decide +kernel
theorem dX6_tenths_24 : decode cX6_tenths 24 = .ok (.goto (-20), 3) := by decide +kernel
theorem dX6_tenths_27 : decode cX6_tenths 27 = .ok (.lload_n 1, 1) := by decide +kernel
theorem dX6_tenths_28 : decode cX6_tenths 28 = .ok (.lreturn, 1) := by decide +kernel
theorem dX6_inLowestTerms_0 : decode cX6_inLowestTerms 0 = .ok (.lload_n 2, 1) := by decide +kernel
theorem dX6_inLowestTerms_1 : decode cX6_inLowestTerms 1 = .ok (.lstore 5, 2) := by decide +kernel
theorem dX6_inLowestTerms_3 : decode cX6_inLowestTerms 3 = .ok (.lload_n 0, 1) := by decide +kernel
theorem dX6_inLowestTerms_4 : decode cX6_inLowestTerms 4 = .ok (.lstore 7, 2) := by decide +kernel
theorem dX6_inLowestTerms_6 : decode cX6_inLowestTerms 6 = .ok (.iconst 0, 1) := by decide +kernel
theorem dX6_inLowestTerms_7 : decode cX6_inLowestTerms 7 = .ok (.istore 9, 2) := by decide +kernel
theorem dX6_inLowestTerms_9 : decode cX6_inLowestTerms 9 = .ok (.iload 9, 2) := by decide +kernel
theorem dX6_inLowestTerms_11 : decode cX6_inLowestTerms 11 = .ok (.bipush 100, 2) := by decide +kernel
theorem dX6_inLowestTerms_13 : decode cX6_inLowestTerms 13 = .ok (.if_icmp .ge 31, 3) := by decide +kernel
theorem dX6_inLowestTerms_16 : decode cX6_inLowestTerms 16 = .ok (.lload 7, 2) := by decide +kernel
theorem dX6_inLowestTerms_18 : decode cX6_inLowestTerms 18 = .ok (.lconst 0, 1) := by decide +kernel
theorem dX6_inLowestTerms_19 : decode cX6_inLowestTerms 19 = .ok (.lcmp, 1) := by decide +kernel
theorem dX6_inLowestTerms_20 : decode cX6_inLowestTerms 20 = .ok (.ifCond .eq 24, 3) := by decide +kernel
theorem dX6_inLowestTerms_23 : decode cX6_inLowestTerms 23 = .ok (.lload 5, 2) := by decide +kernel
theorem dX6_inLowestTerms_25 : decode cX6_inLowestTerms 25 = .ok (.lload 7, 2) := by decide +kernel
theorem dX6_inLowestTerms_27 : decode cX6_inLowestTerms 27 = .ok (.lrem, 1) := by decide +kernel
theorem dX6_inLowestTerms_28 : decode cX6_inLowestTerms 28 = .ok (.lstore 10, 2) := by decide +kernel
theorem dX6_inLowestTerms_30 : decode cX6_inLowestTerms 30 = .ok (.lload 7, 2) := by decide +kernel
theorem dX6_inLowestTerms_32 : decode cX6_inLowestTerms 32 = .ok (.lstore 5, 2) := by decide +kernel
theorem dX6_inLowestTerms_34 : decode cX6_inLowestTerms 34 = .ok (.lload 10, 2) := by decide +kernel
theorem dX6_inLowestTerms_36 : decode cX6_inLowestTerms 36 = .ok (.lstore 7, 2) := by decide +kernel
theorem dX6_inLowestTerms_38 : decode cX6_inLowestTerms 38 = .ok (.iinc 9 1, 3) := by decide +kernel
theorem dX6_inLowestTerms_41 : decode cX6_inLowestTerms 41 = .ok (.goto (-32), 3) := by decide +kernel
theorem dX6_inLowestTerms_44 : decode cX6_inLowestTerms 44 = .ok (.lload 5, 2) := by decide +kernel
theorem dX6_inLowestTerms_46 : decode cX6_inLowestTerms 46 = .ok (.lconst 0, 1) := by decide +kernel
theorem dX6_inLowestTerms_47 : decode cX6_inLowestTerms 47 = .ok (.lcmp, 1) := by decide +kernel
theorem dX6_inLowestTerms_48 : decode cX6_inLowestTerms 48 = .ok (.ifCond .gt 7, 3) := by decide +kernel
theorem dX6_inLowestTerms_51 : decode cX6_inLowestTerms 51 = .ok (.ldc2_w 267, 3) := by decide +kernel
theorem dX6_inLowestTerms_54 : decode cX6_inLowestTerms 54 = .ok (.lreturn, 1) := by decide +kernel
theorem dX6_inLowestTerms_55 : decode cX6_inLowestTerms 55 = .ok (.iload 4, 2) := by decide +kernel
theorem dX6_inLowestTerms_57 : decode cX6_inLowestTerms 57 = .ok (.ifCond .ne 7, 3) := by decide +kernel
theorem dX6_inLowestTerms_60 : decode cX6_inLowestTerms 60 = .ok (.lload_n 0, 1) := by decide +kernel
theorem dX6_inLowestTerms_61 : decode cX6_inLowestTerms 61 = .ok (.goto 4, 3) := by decide +kernel
theorem dX6_inLowestTerms_64 : decode cX6_inLowestTerms 64 = .ok (.lload_n 2, 1) := by decide +kernel
theorem dX6_inLowestTerms_65 : decode cX6_inLowestTerms 65 = .ok (.lload 5, 2) := by decide +kernel
theorem dX6_inLowestTerms_67 : decode cX6_inLowestTerms 67 = .ok (.ldiv, 1) := by decide +kernel
theorem dX6_inLowestTerms_68 : decode cX6_inLowestTerms 68 = .ok (.lreturn, 1) := by decide +kernel
set_option maxRecDepth 20000 in
theorem ggX6_habitsAsSeen_X1_fits : GoodIn wsX6_habitsAsSeen wsX1_fits := goodIn_r _ [9, 10, 11, 12, 13, 14, 15, 16, 17, 18, 19, 20, 21, 22, 23, 24, 25, 26, 27, 28, 29, 30, 31, 32, 33, 34, 35, 36, 37, 38, 39, 40, 41, 42, 43, 44, 45, 46, 47, 48, 49, 50, 51, 52, 53, 54, 55, 85, 86, 87, 88, 89, 90, 91, 92, 93, 94, 95, 68, 69, 70, 71, 72, 73, 74, 75, 76, 77, 78, 79, 80, 81, 82, 83, 84] (by decide +kernel) (by decide +kernel)
set_option maxRecDepth 20000 in
theorem gX6_habitsAsSeen_X1_fits : GoodIn wsX6_habitsAsSeen (wsV RX6 287 RX1 yX1_fits wsX1_fits) := goodIn_app (goodIn_of _ (by decide +kernel)) ggX6_habitsAsSeen_X1_fits
theorem dX6_habitsAsSeen_0 : decode cX6_habitsAsSeen 0 = .ok (.iconst 0, 1) := by decide +kernel
theorem dX6_habitsAsSeen_1 : decode cX6_habitsAsSeen 1 = .ok (.istore_n 2, 1) := by decide +kernel
theorem dX6_habitsAsSeen_2 : decode cX6_habitsAsSeen 2 = .ok (.iconst 0, 1) := by decide +kernel
theorem dX6_habitsAsSeen_3 : decode cX6_habitsAsSeen 3 = .ok (.istore_n 3, 1) := by decide +kernel
theorem dX6_habitsAsSeen_4 : decode cX6_habitsAsSeen 4 = .ok (.iload_n 3, 1) := by decide +kernel
theorem dX6_habitsAsSeen_5 : decode cX6_habitsAsSeen 5 = .ok (.iconst 4, 1) := by decide +kernel
theorem dX6_habitsAsSeen_6 : decode cX6_habitsAsSeen 6 = .ok (.if_icmp .ge 48, 3) := by decide +kernel
theorem dX6_habitsAsSeen_9 : decode cX6_habitsAsSeen 9 = .ok (.iload_n 2, 1) := by decide +kernel
theorem dX6_habitsAsSeen_10 : decode cX6_habitsAsSeen 10 = .ok (.aload_n 0, 1) := by decide +kernel
theorem dX6_habitsAsSeen_11 : decode cX6_habitsAsSeen 11 = .ok (.getfield 50, 3) := by decide +kernel
theorem dX6_habitsAsSeen_14 : decode cX6_habitsAsSeen 14 = .ok (.aload_n 0, 1) := by decide +kernel
theorem dX6_habitsAsSeen_15 : decode cX6_habitsAsSeen 15 = .ok (.getfield 12, 3) := by decide +kernel
theorem dX6_habitsAsSeen_18 : decode cX6_habitsAsSeen 18 = .ok (.aload_n 0, 1) := by decide +kernel
theorem dX6_habitsAsSeen_19 : decode cX6_habitsAsSeen 19 = .ok (.getfield 36, 3) := by decide +kernel
theorem dX6_habitsAsSeen_22 : decode cX6_habitsAsSeen 22 = .ok (.iload_n 1, 1) := by decide +kernel
theorem dX6_habitsAsSeen_23 : decode cX6_habitsAsSeen 23 = .ok (.iload_n 3, 1) := by decide +kernel
theorem dX6_habitsAsSeen_24 : decode cX6_habitsAsSeen 24 = .ok (.aload_n 0, 1) := by decide +kernel
theorem dX6_habitsAsSeen_25 : decode cX6_habitsAsSeen 25 = .ok (.getfield 12, 3) := by decide +kernel
theorem dX6_habitsAsSeen_28 : decode cX6_habitsAsSeen 28 = .ok (.getfield 168, 3) := by decide +kernel
theorem dX6_habitsAsSeen_31 : decode cX6_habitsAsSeen 31 = .ok (.iload_n 1, 1) := by decide +kernel
theorem dX6_habitsAsSeen_32 : decode cX6_habitsAsSeen 32 = .ok (.iaload, 1) := by decide +kernel
theorem dX6_habitsAsSeen_33 : decode cX6_habitsAsSeen 33 = .ok (.invokevirtual 287, 3) := by decide +kernel
theorem dX6_habitsAsSeen_36 : decode cX6_habitsAsSeen 36 = .ok (.ifCond .eq 9, 3) := by decide +kernel
theorem dX6_habitsAsSeen_39 : decode cX6_habitsAsSeen 39 = .ok (.iconst 1, 1) := by decide +kernel
theorem dX6_habitsAsSeen_40 : decode cX6_habitsAsSeen 40 = .ok (.iload_n 3, 1) := by decide +kernel
theorem dX6_habitsAsSeen_41 : decode cX6_habitsAsSeen 41 = .ok (.ishl, 1) := by decide +kernel
theorem dX6_habitsAsSeen_42 : decode cX6_habitsAsSeen 42 = .ok (.goto 4, 3) := by decide +kernel
theorem dX6_habitsAsSeen_45 : decode cX6_habitsAsSeen 45 = .ok (.iconst 0, 1) := by decide +kernel
theorem dX6_habitsAsSeen_46 : decode cX6_habitsAsSeen 46 = .ok (.ior, 1) := by decide +kernel
theorem dX6_habitsAsSeen_47 : decode cX6_habitsAsSeen 47 = .ok (.istore_n 2, 1) := by decide +kernel
theorem dX6_habitsAsSeen_48 : decode cX6_habitsAsSeen 48 = .ok (.iinc 3 1, 3) := by decide +kernel
theorem dX6_habitsAsSeen_51 : decode cX6_habitsAsSeen 51 = .ok (.goto (-47), 3) := by decide +kernel
theorem dX6_habitsAsSeen_54 : decode cX6_habitsAsSeen 54 = .ok (.iload_n 2, 1) := by decide +kernel
theorem dX6_habitsAsSeen_55 : decode cX6_habitsAsSeen 55 = .ok (.ireturn, 1) := by decide +kernel
set_option maxRecDepth 20000 in
theorem ggX6_leftAtTheWorst_X6_prepare : GoodIn wsX6_leftAtTheWorst wsX6_prepare := goodIn_r _ [11, 1, 12, 13, 14, 15, 16, 17, 18, 19, 20, 21, 22, 23, 24, 25, 26, 27, 28, 29, 30, 31, 32, 33, 34, 35, 36, 4, 5, 6, 50, 51, 52, 53, 54, 55, 56, 57, 58, 59, 60, 61, 62, 63, 64, 65, 66, 67, 68, 69, 70, 71, 72, 73, 74, 75, 76, 77, 78, 79, 80, 81, 82, 83, 84, 85] (by decide +kernel) (by decide +kernel)
set_option maxRecDepth 20000 in
theorem gX6_leftAtTheWorst_X6_prepare : GoodIn wsX6_leftAtTheWorst (wsV RX6 228 RX6 yX6_prepare wsX6_prepare) := goodIn_app (goodIn_of _ (by decide +kernel)) ggX6_leftAtTheWorst_X6_prepare
set_option maxRecDepth 20000 in
theorem ggX6_leftAtTheWorst_X5_verdictHeld : GoodIn wsX6_leftAtTheWorst wsX5_verdictHeld := goodIn_r _ [40, 41, 27, 20, 18, 36, 4, 5, 6, 42, 43, 44, 16, 45, 22, 28, 46, 47, 48, 49, 25, 62, 63, 64, 65, 66, 67, 68] (by decide +kernel) (by decide +kernel)
set_option maxRecDepth 20000 in
theorem gX6_leftAtTheWorst_X5_verdictHeld : GoodIn wsX6_leftAtTheWorst (wsV RX6 236 RX5 yX5_verdictHeld wsX5_verdictHeld) := goodIn_app (goodIn_of _ (by decide +kernel)) ggX6_leftAtTheWorst_X5_verdictHeld
theorem dX6_leftAtTheWorst_0 : decode cX6_leftAtTheWorst 0 = .ok (.iconst 0, 1) := by decide +kernel
theorem dX6_leftAtTheWorst_1 : decode cX6_leftAtTheWorst 1 = .ok (.istore 4, 2) := by decide +kernel
theorem dX6_leftAtTheWorst_3 : decode cX6_leftAtTheWorst 3 = .ok (.iconst 1, 1) := by decide +kernel
theorem dX6_leftAtTheWorst_4 : decode cX6_leftAtTheWorst 4 = .ok (.istore 5, 2) := by decide +kernel
theorem dX6_leftAtTheWorst_6 : decode cX6_leftAtTheWorst 6 = .ok (.iload 5, 2) := by decide +kernel
theorem dX6_leftAtTheWorst_8 : decode cX6_leftAtTheWorst 8 = .ok (.iconst 3, 1) := by decide +kernel
theorem dX6_leftAtTheWorst_9 : decode cX6_leftAtTheWorst 9 = .ok (.if_icmp .gt 83, 3) := by decide +kernel
theorem dX6_leftAtTheWorst_12 : decode cX6_leftAtTheWorst 12 = .ok (.iconst 0, 1) := by decide +kernel
theorem dX6_leftAtTheWorst_13 : decode cX6_leftAtTheWorst 13 = .ok (.istore 6, 2) := by decide +kernel
theorem dX6_leftAtTheWorst_15 : decode cX6_leftAtTheWorst 15 = .ok (.iconst 0, 1) := by decide +kernel
theorem dX6_leftAtTheWorst_16 : decode cX6_leftAtTheWorst 16 = .ok (.istore 7, 2) := by decide +kernel
theorem dX6_leftAtTheWorst_18 : decode cX6_leftAtTheWorst 18 = .ok (.iload 7, 2) := by decide +kernel
theorem dX6_leftAtTheWorst_20 : decode cX6_leftAtTheWorst 20 = .ok (.iconst 4, 1) := by decide +kernel
theorem dX6_leftAtTheWorst_21 : decode cX6_leftAtTheWorst 21 = .ok (.if_icmp .ge 56, 3) := by decide +kernel
theorem dX6_leftAtTheWorst_24 : decode cX6_leftAtTheWorst 24 = .ok (.aload_n 0, 1) := by decide +kernel
theorem dX6_leftAtTheWorst_25 : decode cX6_leftAtTheWorst 25 = .ok (.iload_n 1, 1) := by decide +kernel
theorem dX6_leftAtTheWorst_26 : decode cX6_leftAtTheWorst 26 = .ok (.iload_n 2, 1) := by decide +kernel
theorem dX6_leftAtTheWorst_27 : decode cX6_leftAtTheWorst 27 = .ok (.iconst 0, 1) := by decide +kernel
theorem dX6_leftAtTheWorst_28 : decode cX6_leftAtTheWorst 28 = .ok (.invokevirtual 228, 3) := by decide +kernel
theorem dX6_leftAtTheWorst_31 : decode cX6_leftAtTheWorst 31 = .ok (.aload_n 0, 1) := by decide +kernel
theorem dX6_leftAtTheWorst_32 : decode cX6_leftAtTheWorst 32 = .ok (.getfield 36, 3) := by decide +kernel
theorem dX6_leftAtTheWorst_35 : decode cX6_leftAtTheWorst 35 = .ok (.iload 7, 2) := by decide +kernel
theorem dX6_leftAtTheWorst_37 : decode cX6_leftAtTheWorst 37 = .ok (.putfield 362, 3) := by decide +kernel
theorem dX6_leftAtTheWorst_40 : decode cX6_leftAtTheWorst 40 = .ok (.iload 6, 2) := by decide +kernel
theorem dX6_leftAtTheWorst_42 : decode cX6_leftAtTheWorst 42 = .ok (.iload_n 3, 1) := by decide +kernel
theorem dX6_leftAtTheWorst_43 : decode cX6_leftAtTheWorst 43 = .ok (.iload 7, 2) := by decide +kernel
theorem dX6_leftAtTheWorst_45 : decode cX6_leftAtTheWorst 45 = .ok (.ishr, 1) := by decide +kernel
theorem dX6_leftAtTheWorst_46 : decode cX6_leftAtTheWorst 46 = .ok (.iconst 1, 1) := by decide +kernel
theorem dX6_leftAtTheWorst_47 : decode cX6_leftAtTheWorst 47 = .ok (.iand, 1) := by decide +kernel
theorem dX6_leftAtTheWorst_48 : decode cX6_leftAtTheWorst 48 = .ok (.ifCond .eq 19, 3) := by decide +kernel
theorem dX6_leftAtTheWorst_51 : decode cX6_leftAtTheWorst 51 = .ok (.aload_n 0, 1) := by decide +kernel
theorem dX6_leftAtTheWorst_52 : decode cX6_leftAtTheWorst 52 = .ok (.getfield 36, 3) := by decide +kernel
theorem dX6_leftAtTheWorst_55 : decode cX6_leftAtTheWorst 55 = .ok (.invokevirtual 236, 3) := by decide +kernel
theorem dX6_leftAtTheWorst_58 : decode cX6_leftAtTheWorst 58 = .ok (.iload 5, 2) := by decide +kernel
theorem dX6_leftAtTheWorst_60 : decode cX6_leftAtTheWorst 60 = .ok (.if_icmp .ne 7, 3) := by decide +kernel
theorem dX6_leftAtTheWorst_63 : decode cX6_leftAtTheWorst 63 = .ok (.iconst 1, 1) := by decide +kernel
theorem dX6_leftAtTheWorst_64 : decode cX6_leftAtTheWorst 64 = .ok (.goto 4, 3) := by decide +kernel
theorem dX6_leftAtTheWorst_67 : decode cX6_leftAtTheWorst 67 = .ok (.iconst 0, 1) := by decide +kernel
theorem dX6_leftAtTheWorst_68 : decode cX6_leftAtTheWorst 68 = .ok (.iadd, 1) := by decide +kernel
theorem dX6_leftAtTheWorst_69 : decode cX6_leftAtTheWorst 69 = .ok (.istore 6, 2) := by decide +kernel
theorem dX6_leftAtTheWorst_71 : decode cX6_leftAtTheWorst 71 = .ok (.iinc 7 1, 3) := by decide +kernel
theorem dX6_leftAtTheWorst_74 : decode cX6_leftAtTheWorst 74 = .ok (.goto (-56), 3) := by decide +kernel
theorem dX6_leftAtTheWorst_77 : decode cX6_leftAtTheWorst 77 = .ok (.iload 4, 2) := by decide +kernel
theorem dX6_leftAtTheWorst_79 : decode cX6_leftAtTheWorst 79 = .ok (.iload 6, 2) := by decide +kernel
theorem dX6_leftAtTheWorst_81 : decode cX6_leftAtTheWorst 81 = .ok (.invokestatic 199, 3) := by decide +kernel
theorem dX6_leftAtTheWorst_84 : decode cX6_leftAtTheWorst 84 = .ok (.istore 4, 2) := by decide +kernel
theorem dX6_leftAtTheWorst_86 : decode cX6_leftAtTheWorst 86 = .ok (.iinc 5 1, 3) := by decide +kernel
theorem dX6_leftAtTheWorst_89 : decode cX6_leftAtTheWorst 89 = .ok (.goto (-83), 3) := by decide +kernel
theorem dX6_leftAtTheWorst_92 : decode cX6_leftAtTheWorst 92 = .ok (.iload 4, 2) := by decide +kernel
theorem dX6_leftAtTheWorst_94 : decode cX6_leftAtTheWorst 94 = .ok (.ireturn, 1) := by decide +kernel
set_option maxRecDepth 20000 in
theorem ggX6_driftVerdict_X6_prepare : GoodIn wsX6_driftVerdict wsX6_prepare := goodIn_r _ [11, 5, 1, 12, 13, 14, 15, 16, 17, 18, 19, 20, 21, 22, 23, 24, 25, 26, 27, 28, 29, 30, 31, 32, 33, 34, 35, 36, 37, 38, 56, 57, 58, 59, 60, 61, 62, 63, 64, 65, 66, 67, 85, 86, 87, 88, 89, 90, 91, 68, 69, 70, 71, 72, 73, 74, 75, 76, 77, 78, 79, 80, 81, 82, 83, 84] (by decide +kernel) (by decide +kernel)
set_option maxRecDepth 20000 in
theorem gX6_driftVerdict_X6_prepare : GoodIn wsX6_driftVerdict (wsV RX6 228 RX6 yX6_prepare wsX6_prepare) := goodIn_app (goodIn_of _ (by decide +kernel)) ggX6_driftVerdict_X6_prepare
set_option maxRecDepth 20000 in
theorem ggX6_driftVerdict_X5_change : GoodIn wsX6_driftVerdict wsX5_change := goodIn_r _ [42, 17, 19, 21, 85, 86, 87, 88, 89, 90, 91] (by decide +kernel) (by decide +kernel)
set_option maxRecDepth 20000 in
theorem gX6_driftVerdict_X5_change : GoodIn wsX6_driftVerdict (wsV RX6 353 RX5 yX5_change wsX5_change) := goodIn_app (goodIn_of _ (by decide +kernel)) ggX6_driftVerdict_X5_change
set_option maxRecDepth 20000 in
theorem ggX6_driftVerdict_X5_verdictHeld : GoodIn wsX6_driftVerdict wsX5_verdictHeld := goodIn_r _ [46, 47, 26, 19, 17, 35, 36, 37, 38, 48, 49, 50, 15, 51, 21, 27, 52, 53, 54, 55, 24, 85, 86, 87, 88, 89, 90, 91] (by decide +kernel) (by decide +kernel)
set_option maxRecDepth 20000 in
theorem gX6_driftVerdict_X5_verdictHeld : GoodIn wsX6_driftVerdict (wsV RX6 236 RX5 yX5_verdictHeld wsX5_verdictHeld) := goodIn_app (goodIn_of _ (by decide +kernel)) ggX6_driftVerdict_X5_verdictHeld
theorem dX6_driftVerdict_0 : decode cX6_driftVerdict 0 = .ok (.aload_n 0, 1) := by decide +kernel
theorem dX6_driftVerdict_1 : decode cX6_driftVerdict 1 = .ok (.getfield 12, 3) := by decide +kernel
theorem dX6_driftVerdict_4 : decode cX6_driftVerdict 4 = .ok (.getfield 110, 3) := by decide +kernel
theorem dX6_driftVerdict_7 : decode cX6_driftVerdict 7 = .ok (.ifCond .eq 13, 3) := by decide +kernel
theorem dX6_driftVerdict_10 : decode cX6_driftVerdict 10 = .ok (.aload_n 0, 1) := by decide +kernel
theorem dX6_driftVerdict_11 : decode cX6_driftVerdict 11 = .ok (.getfield 12, 3) := by decide +kernel
theorem dX6_driftVerdict_14 : decode cX6_driftVerdict 14 = .ok (.getfield 113, 3) := by decide +kernel
theorem dX6_driftVerdict_17 : decode cX6_driftVerdict 17 = .ok (.ifCond .ne 5, 3) := by decide +kernel
theorem dX6_driftVerdict_20 : decode cX6_driftVerdict 20 = .ok (.iconst 0, 1) := by decide +kernel
theorem dX6_driftVerdict_21 : decode cX6_driftVerdict 21 = .ok (.ireturn, 1) := by decide +kernel
theorem dX6_driftVerdict_22 : decode cX6_driftVerdict 22 = .ok (.iload_n 1, 1) := by decide +kernel
theorem dX6_driftVerdict_23 : decode cX6_driftVerdict 23 = .ok (.aload_n 0, 1) := by decide +kernel
theorem dX6_driftVerdict_24 : decode cX6_driftVerdict 24 = .ok (.getfield 12, 3) := by decide +kernel
theorem dX6_driftVerdict_27 : decode cX6_driftVerdict 27 = .ok (.getfield 110, 3) := by decide +kernel
theorem dX6_driftVerdict_30 : decode cX6_driftVerdict 30 = .ok (.irem, 1) := by decide +kernel
theorem dX6_driftVerdict_31 : decode cX6_driftVerdict 31 = .ok (.istore_n 2, 1) := by decide +kernel
theorem dX6_driftVerdict_32 : decode cX6_driftVerdict 32 = .ok (.aload_n 0, 1) := by decide +kernel
theorem dX6_driftVerdict_33 : decode cX6_driftVerdict 33 = .ok (.getfield 65, 3) := by decide +kernel
theorem dX6_driftVerdict_36 : decode cX6_driftVerdict 36 = .ok (.iconst 2, 1) := by decide +kernel
theorem dX6_driftVerdict_37 : decode cX6_driftVerdict 37 = .ok (.iload_n 2, 1) := by decide +kernel
theorem dX6_driftVerdict_38 : decode cX6_driftVerdict 38 = .ok (.imul, 1) := by decide +kernel
theorem dX6_driftVerdict_39 : decode cX6_driftVerdict 39 = .ok (.iload_n 1, 1) := by decide +kernel
theorem dX6_driftVerdict_40 : decode cX6_driftVerdict 40 = .ok (.bipush 8, 2) := by decide +kernel
theorem dX6_driftVerdict_42 : decode cX6_driftVerdict 42 = .ok (.idiv, 1) := by decide +kernel
theorem dX6_driftVerdict_43 : decode cX6_driftVerdict 43 = .ok (.iconst 2, 1) := by decide +kernel
theorem dX6_driftVerdict_44 : decode cX6_driftVerdict 44 = .ok (.irem, 1) := by decide +kernel
theorem dX6_driftVerdict_45 : decode cX6_driftVerdict 45 = .ok (.iadd, 1) := by decide +kernel
theorem dX6_driftVerdict_46 : decode cX6_driftVerdict 46 = .ok (.iload_n 1, 1) := by decide +kernel
theorem dX6_driftVerdict_47 : decode cX6_driftVerdict 47 = .ok (.bipush 16, 2) := by decide +kernel
theorem dX6_driftVerdict_49 : decode cX6_driftVerdict 49 = .ok (.idiv, 1) := by decide +kernel
theorem dX6_driftVerdict_50 : decode cX6_driftVerdict 50 = .ok (.bipush 20, 2) := by decide +kernel
theorem dX6_driftVerdict_52 : decode cX6_driftVerdict 52 = .ok (.irem, 1) := by decide +kernel
theorem dX6_driftVerdict_53 : decode cX6_driftVerdict 53 = .ok (.iastore, 1) := by decide +kernel
theorem dX6_driftVerdict_54 : decode cX6_driftVerdict 54 = .ok (.aload_n 0, 1) := by decide +kernel
theorem dX6_driftVerdict_55 : decode cX6_driftVerdict 55 = .ok (.iload_n 2, 1) := by decide +kernel
theorem dX6_driftVerdict_56 : decode cX6_driftVerdict 56 = .ok (.iload_n 1, 1) := by decide +kernel
theorem dX6_driftVerdict_57 : decode cX6_driftVerdict 57 = .ok (.sipush 512, 3) := by decide +kernel
theorem dX6_driftVerdict_60 : decode cX6_driftVerdict 60 = .ok (.idiv, 1) := by decide +kernel
theorem dX6_driftVerdict_61 : decode cX6_driftVerdict 61 = .ok (.aload_n 0, 1) := by decide +kernel
theorem dX6_driftVerdict_62 : decode cX6_driftVerdict 62 = .ok (.getfield 12, 3) := by decide +kernel
theorem dX6_driftVerdict_65 : decode cX6_driftVerdict 65 = .ok (.getfield 113, 3) := by decide +kernel
theorem dX6_driftVerdict_68 : decode cX6_driftVerdict 68 = .ok (.irem, 1) := by decide +kernel
theorem dX6_driftVerdict_69 : decode cX6_driftVerdict 69 = .ok (.iconst 0, 1) := by decide +kernel
theorem dX6_driftVerdict_70 : decode cX6_driftVerdict 70 = .ok (.invokevirtual 228, 3) := by decide +kernel
theorem dX6_driftVerdict_73 : decode cX6_driftVerdict 73 = .ok (.aload_n 0, 1) := by decide +kernel
theorem dX6_driftVerdict_74 : decode cX6_driftVerdict 74 = .ok (.getfield 36, 3) := by decide +kernel
theorem dX6_driftVerdict_77 : decode cX6_driftVerdict 77 = .ok (.iconst 0, 1) := by decide +kernel
theorem dX6_driftVerdict_78 : decode cX6_driftVerdict 78 = .ok (.iconst 1, 1) := by decide +kernel
theorem dX6_driftVerdict_79 : decode cX6_driftVerdict 79 = .ok (.aload_n 0, 1) := by decide +kernel
theorem dX6_driftVerdict_80 : decode cX6_driftVerdict 80 = .ok (.getfield 65, 3) := by decide +kernel
theorem dX6_driftVerdict_83 : decode cX6_driftVerdict 83 = .ok (.iconst 2, 1) := by decide +kernel
theorem dX6_driftVerdict_84 : decode cX6_driftVerdict 84 = .ok (.iload_n 2, 1) := by decide +kernel
theorem dX6_driftVerdict_85 : decode cX6_driftVerdict 85 = .ok (.imul, 1) := by decide +kernel
theorem dX6_driftVerdict_86 : decode cX6_driftVerdict 86 = .ok (.iaload, 1) := by decide +kernel
theorem dX6_driftVerdict_87 : decode cX6_driftVerdict 87 = .ok (.invokevirtual 353, 3) := by decide +kernel
theorem dX6_driftVerdict_90 : decode cX6_driftVerdict 90 = .ok (.aload_n 0, 1) := by decide +kernel
theorem dX6_driftVerdict_91 : decode cX6_driftVerdict 91 = .ok (.getfield 36, 3) := by decide +kernel
theorem dX6_driftVerdict_94 : decode cX6_driftVerdict 94 = .ok (.iconst 1, 1) := by decide +kernel
theorem dX6_driftVerdict_95 : decode cX6_driftVerdict 95 = .ok (.iconst 1, 1) := by decide +kernel
theorem dX6_driftVerdict_96 : decode cX6_driftVerdict 96 = .ok (.aload_n 0, 1) := by decide +kernel
theorem dX6_driftVerdict_97 : decode cX6_driftVerdict 97 = .ok (.getfield 65, 3) := by decide +kernel
theorem dX6_driftVerdict_100 : decode cX6_driftVerdict 100 = .ok (.iconst 2, 1) := by decide +kernel
theorem dX6_driftVerdict_101 : decode cX6_driftVerdict 101 = .ok (.iload_n 2, 1) := by decide +kernel
theorem dX6_driftVerdict_102 : decode cX6_driftVerdict 102 = .ok (.imul, 1) := by decide +kernel
theorem dX6_driftVerdict_103 : decode cX6_driftVerdict 103 = .ok (.iconst 1, 1) := by decide +kernel
theorem dX6_driftVerdict_104 : decode cX6_driftVerdict 104 = .ok (.iadd, 1) := by decide +kernel
theorem dX6_driftVerdict_105 : decode cX6_driftVerdict 105 = .ok (.iaload, 1) := by decide +kernel
theorem dX6_driftVerdict_106 : decode cX6_driftVerdict 106 = .ok (.invokevirtual 353, 3) := by decide +kernel
theorem dX6_driftVerdict_109 : decode cX6_driftVerdict 109 = .ok (.aload_n 0, 1) := by decide +kernel
theorem dX6_driftVerdict_110 : decode cX6_driftVerdict 110 = .ok (.getfield 36, 3) := by decide +kernel
theorem dX6_driftVerdict_113 : decode cX6_driftVerdict 113 = .ok (.invokevirtual 236, 3) := by decide +kernel
theorem dX6_driftVerdict_116 : decode cX6_driftVerdict 116 = .ok (.istore_n 3, 1) := by decide +kernel
theorem dX6_driftVerdict_117 : decode cX6_driftVerdict 117 = .ok (.aload_n 0, 1) := by decide +kernel
theorem dX6_driftVerdict_118 : decode cX6_driftVerdict 118 = .ok (.getfield 65, 3) := by decide +kernel
theorem dX6_driftVerdict_121 : decode cX6_driftVerdict 121 = .ok (.iconst 2, 1) := by decide +kernel
theorem dX6_driftVerdict_122 : decode cX6_driftVerdict 122 = .ok (.iload_n 2, 1) := by decide +kernel
theorem dX6_driftVerdict_123 : decode cX6_driftVerdict 123 = .ok (.imul, 1) := by decide +kernel
theorem dX6_driftVerdict_124 : decode cX6_driftVerdict 124 = .ok (.aload_n 0, 1) := by decide +kernel
theorem dX6_driftVerdict_125 : decode cX6_driftVerdict 125 = .ok (.getfield 36, 3) := by decide +kernel
theorem dX6_driftVerdict_128 : decode cX6_driftVerdict 128 = .ok (.getfield 209, 3) := by decide +kernel
theorem dX6_driftVerdict_131 : decode cX6_driftVerdict 131 = .ok (.iconst 0, 1) := by decide +kernel
theorem dX6_driftVerdict_132 : decode cX6_driftVerdict 132 = .ok (.iaload, 1) := by decide +kernel
theorem dX6_driftVerdict_133 : decode cX6_driftVerdict 133 = .ok (.iastore, 1) := by decide +kernel
theorem dX6_driftVerdict_134 : decode cX6_driftVerdict 134 = .ok (.aload_n 0, 1) := by decide +kernel
theorem dX6_driftVerdict_135 : decode cX6_driftVerdict 135 = .ok (.getfield 65, 3) := by decide +kernel
theorem dX6_driftVerdict_138 : decode cX6_driftVerdict 138 = .ok (.iconst 2, 1) := by decide +kernel
theorem dX6_driftVerdict_139 : decode cX6_driftVerdict 139 = .ok (.iload_n 2, 1) := by decide +kernel
theorem dX6_driftVerdict_140 : decode cX6_driftVerdict 140 = .ok (.imul, 1) := by decide +kernel
theorem dX6_driftVerdict_141 : decode cX6_driftVerdict 141 = .ok (.iconst 1, 1) := by decide +kernel
theorem dX6_driftVerdict_142 : decode cX6_driftVerdict 142 = .ok (.iadd, 1) := by decide +kernel
theorem dX6_driftVerdict_143 : decode cX6_driftVerdict 143 = .ok (.aload_n 0, 1) := by decide +kernel
theorem dX6_driftVerdict_144 : decode cX6_driftVerdict 144 = .ok (.getfield 36, 3) := by decide +kernel
theorem dX6_driftVerdict_147 : decode cX6_driftVerdict 147 = .ok (.getfield 209, 3) := by decide +kernel
theorem dX6_driftVerdict_150 : decode cX6_driftVerdict 150 = .ok (.iconst 1, 1) := by decide +kernel
theorem dX6_driftVerdict_151 : decode cX6_driftVerdict 151 = .ok (.iaload, 1) := by decide +kernel
theorem dX6_driftVerdict_152 : decode cX6_driftVerdict 152 = .ok (.iastore, 1) := by decide +kernel
theorem dX6_driftVerdict_153 : decode cX6_driftVerdict 153 = .ok (.iload_n 3, 1) := by decide +kernel
theorem dX6_driftVerdict_154 : decode cX6_driftVerdict 154 = .ok (.ireturn, 1) := by decide +kernel
