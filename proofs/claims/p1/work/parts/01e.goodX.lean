set_option maxRecDepth 20000 in
theorem ggX0_hasCase_X6_isIn : GoodIn wsX0_hasCase wsX6_isIn := goodIn_r _ [4] (by decide +kernel) (by decide +kernel)
set_option maxRecDepth 20000 in
theorem gX0_hasCase_X6_isIn_n64 : GoodIn wsX0_hasCase (wsX6_isIn) := ggX0_hasCase_X6_isIn
set_option maxRecDepth 20000 in
theorem ggX0_hasJudge_X6_isIn : GoodIn wsX0_hasJudge wsX6_isIn := goodIn_r _ [4] (by decide +kernel) (by decide +kernel)
set_option maxRecDepth 20000 in
theorem gX0_hasJudge_X6_isIn_n64 : GoodIn wsX0_hasJudge (wsX6_isIn) := ggX0_hasJudge_X6_isIn
set_option maxRecDepth 20000 in
theorem ggX0_becomes_X6_copyRow : GoodIn wsX0_becomes wsX6_copyRow := goodIn_r _ [20, 21, 22, 23, 24, 25, 26, 27, 28] (by decide +kernel) (by decide +kernel)
set_option maxRecDepth 20000 in
theorem gX0_becomes_X6_copyRow_n68 : GoodIn wsX0_becomes (wsX6_copyRow) := ggX0_becomes_X6_copyRow
set_option maxRecDepth 20000 in
theorem ggX1_fits_X5_prepare : GoodIn wsX1_fits wsX5_prepare := goodIn_r _ [11, 12, 13, 14, 15, 16, 17, 18, 19, 20, 21, 22, 23, 24, 25, 26, 27, 28, 10, 29, 30, 31, 32, 33, 51, 52, 53, 54, 55, 56, 57, 58, 59, 60, 61, 62, 63, 64, 65, 66, 67, 68, 69, 70, 71, 72, 73, 74] (by decide +kernel) (by decide +kernel)
set_option maxRecDepth 20000 in
theorem gX1_fits_X5_prepare : GoodIn wsX1_fits (wsV RX1 25 RX5 yX5_prepare wsX5_prepare) := goodIn_app (goodIn_of _ (by decide +kernel)) ggX1_fits_X5_prepare
set_option maxRecDepth 20000 in
theorem ggX1_fits_X5_verdictHeld : GoodIn wsX1_fits wsX5_verdictHeld := goodIn_r _ [37, 38, 21, 14, 12, 30, 31, 32, 33, 39, 40, 41, 10, 42, 16, 22, 43, 44, 45, 46, 19, 51, 52, 53, 54, 55, 56, 57] (by decide +kernel) (by decide +kernel)
set_option maxRecDepth 20000 in
theorem gX1_fits_X5_verdictHeld : GoodIn wsX1_fits (wsV RX1 37 RX5 yX5_verdictHeld wsX5_verdictHeld) := goodIn_app (goodIn_of _ (by decide +kernel)) ggX1_fits_X5_verdictHeld
set_option maxRecDepth 20000 in
theorem ggX2_init_X0_init : GoodIn wsX2_init wsX0_init := goodIn_r _ [18, 19, 2, 3, 20, 21, 22, 23, 4, 24, 25, 26, 27, 28, 29, 30, 31, 32, 33, 34, 35, 36, 46, 47, 48, 49, 50, 51, 52, 53, 54, 55, 56, 57, 58, 59, 60, 61, 62] (by decide +kernel) (by decide +kernel)
set_option maxRecDepth 20000 in
theorem gX2_init_X0_init_n17 : GoodIn wsX2_init (wsX0_init) := ggX2_init_X0_init
set_option maxRecDepth 20000 in
theorem ggX2_begins_X0_clear : GoodIn wsX2_begins wsX0_clear := goodIn_r _ [9, 10, 11, 12, 13, 44, 45, 46, 47, 48, 49, 50, 51, 52, 53, 54, 55, 56, 57, 58, 59, 60] (by decide +kernel) (by decide +kernel)
set_option maxRecDepth 20000 in
theorem gX2_begins_X0_clear : GoodIn wsX2_begins (wsV RX2 45 RX0 yX0_clear wsX0_clear) := goodIn_app (goodIn_of _ (by decide +kernel)) ggX2_begins_X0_clear
set_option maxRecDepth 20000 in
theorem ggX2_begins_X2_readsNext : GoodIn wsX2_begins wsX2_readsNext := goodIn_r _ [18, 4, 19, 20, 21, 22, 23, 24, 25, 17, 26, 27, 28, 29, 30, 3, 31, 32, 33, 34, 35, 36, 37, 38, 39, 40, 41, 42, 43] (by decide +kernel) (by decide +kernel)
set_option maxRecDepth 20000 in
theorem gX2_begins_X2_readsNext : GoodIn wsX2_begins (wsV RX2 48 RX2 yX2_readsNext wsX2_readsNext) := goodIn_app (goodIn_of _ (by decide +kernel)) ggX2_begins_X2_readsNext
set_option maxRecDepth 20000 in
theorem ggX2_docketStands_X0_hasCase : GoodIn wsX2_docketStands wsX0_hasCase := goodIn_r _ [9, 10, 11, 12, 13, 34, 35, 36, 37, 38, 39, 40, 41, 42, 43, 44, 45, 46, 47, 48, 49, 50] (by decide +kernel) (by decide +kernel)
set_option maxRecDepth 20000 in
theorem gX2_docketStands_X0_hasCase : GoodIn wsX2_docketStands (wsV RX2 58 RX0 yX0_hasCase wsX0_hasCase) := goodIn_app (goodIn_of _ (by decide +kernel)) ggX2_docketStands_X0_hasCase
set_option maxRecDepth 20000 in
theorem ggX2_docketStands_X0_hasJudge : GoodIn wsX2_docketStands wsX0_hasJudge := goodIn_r _ [17, 18, 11, 12, 13, 34, 35, 36, 37, 38, 39, 40, 41, 42, 43, 44, 45, 46, 47, 48, 49, 50] (by decide +kernel) (by decide +kernel)
set_option maxRecDepth 20000 in
theorem gX2_docketStands_X0_hasJudge : GoodIn wsX2_docketStands (wsV RX2 65 RX0 yX0_hasJudge wsX0_hasJudge) := goodIn_app (goodIn_of _ (by decide +kernel)) ggX2_docketStands_X0_hasJudge
set_option maxRecDepth 20000 in
theorem ggX2_docketStands_X2_fails : GoodIn wsX2_docketStands wsX2_fails := goodIn_r _ [23, 24, 25, 26, 27, 28, 29, 30, 31, 32, 33] (by decide +kernel) (by decide +kernel)
set_option maxRecDepth 20000 in
theorem gX2_docketStands_X2_fails : GoodIn wsX2_docketStands (wsV RX2 69 RX2 yX2_fails wsX2_fails) := goodIn_app (goodIn_of _ (by decide +kernel)) ggX2_docketStands_X2_fails
set_option maxRecDepth 20000 in
theorem ggX2_takesLine_X2_isNamed : GoodIn wsX2_takesLine wsX2_isNamed := goodIn_r _ [5, 6, 7, 8, 9, 10, 11, 12, 13, 14, 15, 16, 17, 18, 19, 20, 21, 22, 23, 24, 25, 26, 27, 28, 29, 30, 31, 32, 33, 34, 35, 36, 37, 38, 39, 40, 41, 42, 43, 44, 45, 46, 47, 48, 49, 50, 51, 52, 53, 54, 55, 56, 57, 58, 164, 165, 166, 167, 168, 169, 170, 171, 172] (by decide +kernel) (by decide +kernel)
set_option maxRecDepth 20000 in
theorem gX2_takesLine_X2_isNamed : GoodIn wsX2_takesLine (wsV RX2 74 RX2 yX2_isNamed wsX2_isNamed) := goodIn_app (goodIn_of _ (by decide +kernel)) ggX2_takesLine_X2_isNamed
set_option maxRecDepth 20000 in
theorem ggX2_takesLine_X2_takesCase : GoodIn wsX2_takesLine wsX2_takesCase := goodIn_r _ [62, 63, 64, 65, 66, 67, 4, 68, 69, 70, 71, 72, 73, 7, 74, 9, 8, 6, 75, 76, 77, 78, 79, 80, 81, 82, 83, 84, 85, 86, 87, 88, 89, 90, 91, 92, 93, 1, 2, 3, 5, 10, 11, 12, 13, 14, 15, 16, 17, 18, 19, 20, 21, 22, 23, 24, 25, 26, 27, 28, 29, 30, 31, 32, 33, 34, 35, 36, 37, 38, 39, 40, 41, 42, 43, 44, 45, 46, 47, 48, 49, 50, 51, 52, 53, 54, 55, 56, 57, 58, 94, 95, 96, 97, 98, 99, 100, 101, 102, 103, 104, 105, 106, 107, 108, 109, 110, 111, 112, 113, 114, 115, 116, 117, 118, 164, 165, 166, 167, 168, 169, 170, 171, 172, 173, 174, 175, 176, 177, 178, 179, 180, 181, 182, 183, 184, 185, 186, 187, 188, 189] (by decide +kernel) (by decide +kernel)
set_option maxRecDepth 20000 in
theorem gX2_takesLine_X2_takesCase : GoodIn wsX2_takesLine (wsV RX2 78 RX2 yX2_takesCase wsX2_takesCase) := goodIn_app (goodIn_of _ (by decide +kernel)) ggX2_takesLine_X2_takesCase
set_option maxRecDepth 20000 in
theorem ggX2_takesLine_X2_takesDraught : GoodIn wsX2_takesLine wsX2_takesDraught := goodIn_r _ [122, 63, 123, 75, 65, 66, 67, 4, 68, 69, 94, 95, 96, 97, 6, 70, 71, 72, 73, 7, 74, 9, 8, 76, 77, 78, 79, 80, 81, 82, 98, 99, 100, 101, 102, 103, 104, 124, 125, 126, 108, 127, 128, 129, 130, 115, 116, 117, 118, 164, 165, 166, 167, 168, 169, 170, 171, 172, 173, 174, 175, 176, 177, 178, 179, 180, 181, 182, 183, 184, 185, 186, 187, 188, 189] (by decide +kernel) (by decide +kernel)
set_option maxRecDepth 20000 in
theorem gX2_takesLine_X2_takesDraught : GoodIn wsX2_takesLine (wsV RX2 83 RX2 yX2_takesDraught wsX2_takesDraught) := goodIn_app (goodIn_of _ (by decide +kernel)) ggX2_takesLine_X2_takesDraught
set_option maxRecDepth 20000 in
theorem ggX2_takesLine_X2_takesDocket : GoodIn wsX2_takesLine wsX2_takesDocket := goodIn_r _ [134, 135, 6, 63, 136, 65, 66, 67, 4, 68, 69, 70, 71, 72, 73, 7, 74, 9, 8, 75, 76, 77, 78, 79, 80, 81, 82, 137, 138, 139, 140, 98, 99, 100, 101, 102, 103, 104, 94, 95, 96, 97, 141, 142, 143, 108, 144, 145, 146, 147, 115, 116, 117, 118, 164, 165, 166, 167, 168, 169, 170, 171, 172, 173, 174, 175, 176, 177, 178, 179, 180, 181, 182, 183, 184, 185, 186, 187, 188, 189] (by decide +kernel) (by decide +kernel)
set_option maxRecDepth 20000 in
theorem gX2_takesLine_X2_takesDocket : GoodIn wsX2_takesLine (wsV RX2 88 RX2 yX2_takesDocket wsX2_takesDocket) := goodIn_app (goodIn_of _ (by decide +kernel)) ggX2_takesLine_X2_takesDocket
set_option maxRecDepth 20000 in
theorem ggX2_takesLine_X2_habitNamed : GoodIn wsX2_takesLine wsX2_habitNamed := goodIn_r _ [151, 1, 2, 3, 4, 5, 6, 7, 8, 9, 10, 11, 12, 13, 14, 15, 16, 17, 18, 19, 20, 21, 22, 23, 24, 25, 26, 27, 28, 29, 30, 31, 32, 33, 34, 35, 36, 37, 38, 39, 40, 41, 42, 43, 44, 45, 46, 47, 48, 49, 50, 51, 52, 53, 54, 55, 56, 57, 58, 164, 165, 166, 167, 168, 169, 170, 171, 172] (by decide +kernel) (by decide +kernel)
set_option maxRecDepth 20000 in
theorem gX2_takesLine_X2_habitNamed : GoodIn wsX2_takesLine (wsV RX2 91 RX2 yX2_habitNamed wsX2_habitNamed) := goodIn_app (goodIn_of _ (by decide +kernel)) ggX2_takesLine_X2_habitNamed
set_option maxRecDepth 20000 in
theorem ggX2_takesLine_X2_fails : GoodIn wsX2_takesLine wsX2_fails := goodIn_r _ [68, 69, 164, 165, 166, 167, 168, 169, 170, 171, 172] (by decide +kernel) (by decide +kernel)
set_option maxRecDepth 20000 in
theorem gX2_takesLine_X2_fails : GoodIn wsX2_takesLine (wsV RX2 69 RX2 yX2_fails wsX2_fails) := goodIn_app (goodIn_of _ (by decide +kernel)) ggX2_takesLine_X2_fails
set_option maxRecDepth 20000 in
theorem ggX2_takesLine_X2_takesJudge : GoodIn wsX2_takesLine wsX2_takesJudge := goodIn_r _ [155, 63, 156, 75, 65, 66, 67, 4, 68, 69, 94, 95, 96, 97, 6, 70, 71, 72, 73, 7, 74, 9, 8, 76, 77, 78, 79, 80, 81, 82, 98, 99, 100, 101, 102, 103, 104, 157, 158, 159, 108, 160, 161, 162, 163, 115, 116, 117, 118, 164, 165, 166, 167, 168, 169, 170, 171, 172, 173, 174, 175, 176, 177, 178, 179, 180, 181, 182, 183, 184, 185, 186, 187, 188, 189] (by decide +kernel) (by decide +kernel)
set_option maxRecDepth 20000 in
theorem gX2_takesLine_X2_takesJudge : GoodIn wsX2_takesLine (wsV RX2 95 RX2 yX2_takesJudge wsX2_takesJudge) := goodIn_app (goodIn_of _ (by decide +kernel)) ggX2_takesLine_X2_takesJudge
set_option maxRecDepth 20000 in
theorem ggX2_takesCase_X2_fails : GoodIn wsX2_takesCase wsX2_fails := goodIn_r _ [7, 8, 115, 116, 117, 118, 119, 120, 121, 122, 123] (by decide +kernel) (by decide +kernel)
set_option maxRecDepth 20000 in
theorem gX2_takesCase_X2_fails : GoodIn wsX2_takesCase (wsV RX2 69 RX2 yX2_fails wsX2_fails) := goodIn_app (goodIn_of _ (by decide +kernel)) ggX2_takesCase_X2_fails
set_option maxRecDepth 20000 in
theorem ggX2_takesCase_X2_readsNext : GoodIn wsX2_takesCase wsX2_readsNext := goodIn_r _ [12, 13, 14, 15, 16, 17, 18, 19, 20, 6, 21, 3, 4, 5, 7, 8, 22, 23, 24, 25, 115, 116, 117, 118, 119, 120, 121, 122, 123] (by decide +kernel) (by decide +kernel)
set_option maxRecDepth 20000 in
theorem gX2_takesCase_X2_readsNext : GoodIn wsX2_takesCase (wsV RX2 48 RX2 yX2_readsNext wsX2_readsNext) := goodIn_app (goodIn_of _ (by decide +kernel)) ggX2_takesCase_X2_readsNext
set_option maxRecDepth 20000 in
theorem ggX2_takesCase_X2_takesFlame : GoodIn wsX2_takesCase wsX2_takesFlame := goodIn_r _ [29, 1, 30, 31, 18, 32, 17, 33, 34, 35, 6, 36, 37, 38, 39, 40, 13, 16, 15, 41, 42, 43, 44, 45, 46, 47, 48, 49, 50, 51, 52, 53, 54, 55, 56, 57, 58, 59, 60, 61, 62, 63, 64, 65, 66, 67, 68, 69, 70, 71, 72, 73, 74, 75, 76, 77, 78, 79, 80, 81, 82, 83, 84, 85, 86, 87, 88, 89, 3, 4, 5, 7, 8, 90, 91, 92, 93, 9, 10, 11, 12, 14, 19, 20, 21, 22, 23, 24, 25, 94, 95, 96, 97, 98, 99, 100, 115, 116, 117, 118, 119, 120, 121, 122, 123, 124, 125, 126, 127, 128, 129, 130, 131, 132, 133, 134, 135, 136, 137, 138, 139, 140] (by decide +kernel) (by decide +kernel)
set_option maxRecDepth 20000 in
theorem gX2_takesCase_X2_takesFlame : GoodIn wsX2_takesCase (wsV RX2 101 RX2 yX2_takesFlame wsX2_takesFlame) := goodIn_app (goodIn_of _ (by decide +kernel)) ggX2_takesCase_X2_takesFlame
set_option maxRecDepth 20000 in
theorem ggX2_takesCase_X0_addCase : GoodIn wsX2_takesCase wsX0_addCase := goodIn_r _ [105, 106, 107, 108, 109, 110, 124, 125, 126, 127, 128, 129, 130, 131, 132, 133, 134, 135, 136, 137, 138, 139, 140] (by decide +kernel) (by decide +kernel)
set_option maxRecDepth 20000 in
theorem gX2_takesCase_X0_addCase : GoodIn wsX2_takesCase (wsV RX2 104 RX0 yX0_addCase wsX0_addCase) := goodIn_app (goodIn_of _ (by decide +kernel)) ggX2_takesCase_X0_addCase
set_option maxRecDepth 20000 in
theorem ggX2_takesCase_X2_takesSign : GoodIn wsX2_takesCase wsX2_takesSign := goodIn_r _ [114, 17, 9, 10, 11, 6, 12, 13, 14, 15, 16, 18, 19, 20, 21, 3, 4, 5, 7, 8, 22, 23, 24, 25, 115, 116, 117, 118, 119, 120, 121, 122, 123] (by decide +kernel) (by decide +kernel)
set_option maxRecDepth 20000 in
theorem gX2_takesCase_X2_takesSign : GoodIn wsX2_takesCase (wsV RX2 107 RX2 yX2_takesSign wsX2_takesSign) := goodIn_app (goodIn_of _ (by decide +kernel)) ggX2_takesCase_X2_takesSign
set_option maxRecDepth 20000 in
theorem ggX2_takesFlame_X2_kindNamed : GoodIn wsX2_takesFlame wsX2_kindNamed := goodIn_r _ [11, 12, 13, 14, 10, 15, 6, 16, 17, 18, 19, 20, 21, 22, 23, 24, 25, 26, 27, 28, 29, 30, 31, 32, 33, 34, 35, 36, 37, 38, 39, 40, 41, 42, 43, 44, 45, 46, 47, 48, 49, 50, 51, 52, 53, 54, 55, 56, 57, 58, 59, 60, 61, 62, 63, 64, 65, 66, 67, 96, 97, 98, 99, 100, 101, 102, 103, 104] (by decide +kernel) (by decide +kernel)
set_option maxRecDepth 20000 in
theorem gX2_takesFlame_X2_kindNamed : GoodIn wsX2_takesFlame (wsV RX2 110 RX2 yX2_kindNamed wsX2_kindNamed) := goodIn_app (goodIn_of _ (by decide +kernel)) ggX2_takesFlame_X2_kindNamed
set_option maxRecDepth 20000 in
theorem ggX2_takesFlame_X2_fails : GoodIn wsX2_takesFlame wsX2_fails := goodIn_r _ [71, 72, 96, 97, 98, 99, 100, 101, 102, 103, 104] (by decide +kernel) (by decide +kernel)
set_option maxRecDepth 20000 in
theorem gX2_takesFlame_X2_fails : GoodIn wsX2_takesFlame (wsV RX2 69 RX2 yX2_fails wsX2_fails) := goodIn_app (goodIn_of _ (by decide +kernel)) ggX2_takesFlame_X2_fails
set_option maxRecDepth 20000 in
theorem ggX2_takesFlame_X2_readsNumber : GoodIn wsX2_takesFlame wsX2_readsNumber := goodIn_r _ [76, 6, 77, 78, 79, 10, 80, 16, 81, 18, 17, 4, 82, 83, 84, 68, 69, 70, 71, 72, 85, 86, 87, 88, 89, 90, 91, 92, 93, 94, 95, 96, 97, 98, 99, 100, 101, 102, 103, 104] (by decide +kernel) (by decide +kernel)
set_option maxRecDepth 20000 in
theorem gX2_takesFlame_X2_readsNumber : GoodIn wsX2_takesFlame (wsV RX2 113 RX2 yX2_readsNumber wsX2_readsNumber) := goodIn_app (goodIn_of _ (by decide +kernel)) ggX2_takesFlame_X2_readsNumber
set_option maxRecDepth 20000 in
theorem ggX2_takesFlame_X2_readsNext : GoodIn wsX2_takesFlame wsX2_readsNext := goodIn_r _ [80, 16, 81, 18, 17, 6, 4, 82, 83, 10, 84, 68, 69, 70, 71, 72, 85, 86, 87, 88, 96, 97, 98, 99, 100, 101, 102, 103, 104] (by decide +kernel) (by decide +kernel)
set_option maxRecDepth 20000 in
theorem gX2_takesFlame_X2_readsNext : GoodIn wsX2_takesFlame (wsV RX2 48 RX2 yX2_readsNext wsX2_readsNext) := goodIn_app (goodIn_of _ (by decide +kernel)) ggX2_takesFlame_X2_readsNext
set_option maxRecDepth 20000 in
theorem ggX2_takesFlame_X2_isNumberIn : GoodIn wsX2_takesFlame wsX2_isNumberIn := goodIn_r _ [92, 4, 93, 94, 95, 68, 69, 70, 10, 71, 72, 96, 97, 98, 99, 100, 101, 102, 103, 104] (by decide +kernel) (by decide +kernel)
set_option maxRecDepth 20000 in
theorem gX2_takesFlame_X2_isNumberIn : GoodIn wsX2_takesFlame (wsV RX2 126 RX2 yX2_isNumberIn wsX2_isNumberIn) := goodIn_app (goodIn_of _ (by decide +kernel)) ggX2_takesFlame_X2_isNumberIn
set_option maxRecDepth 20000 in
theorem ggX2_takesJudge_X2_fails : GoodIn wsX2_takesJudge wsX2_fails := goodIn_r _ [8, 9, 49, 50, 51, 52, 53, 54, 55, 56, 57] (by decide +kernel) (by decide +kernel)
set_option maxRecDepth 20000 in
theorem gX2_takesJudge_X2_fails : GoodIn wsX2_takesJudge (wsV RX2 69 RX2 yX2_fails wsX2_fails) := goodIn_app (goodIn_of _ (by decide +kernel)) ggX2_takesJudge_X2_fails
set_option maxRecDepth 20000 in
theorem ggX2_takesJudge_X2_readsNumber : GoodIn wsX2_takesJudge wsX2_readsNumber := goodIn_r _ [13, 14, 15, 16, 17, 7, 18, 19, 20, 21, 22, 3, 23, 24, 25, 4, 5, 6, 8, 9, 26, 27, 28, 29, 30, 31, 32, 33, 34, 35, 36, 49, 50, 51, 52, 53, 54, 55, 56, 57] (by decide +kernel) (by decide +kernel)
set_option maxRecDepth 20000 in
theorem gX2_takesJudge_X2_readsNumber : GoodIn wsX2_takesJudge (wsV RX2 113 RX2 yX2_readsNumber wsX2_readsNumber) := goodIn_app (goodIn_of _ (by decide +kernel)) ggX2_takesJudge_X2_readsNumber
set_option maxRecDepth 20000 in
theorem ggX2_takesJudge_X0_addJudge : GoodIn wsX2_takesJudge wsX0_addJudge := goodIn_r _ [41, 42, 43, 44, 58, 59, 60, 61, 62, 63, 64, 65, 66, 67, 68, 69, 70, 71, 72, 73, 74] (by decide +kernel) (by decide +kernel)
set_option maxRecDepth 20000 in
theorem gX2_takesJudge_X0_addJudge : GoodIn wsX2_takesJudge (wsV RX2 132 RX0 yX0_addJudge wsX0_addJudge) := goodIn_app (goodIn_of _ (by decide +kernel)) ggX2_takesJudge_X0_addJudge
set_option maxRecDepth 20000 in
theorem ggX2_takesJudge_X2_readsNext : GoodIn wsX2_takesJudge wsX2_readsNext := goodIn_r _ [18, 19, 20, 21, 22, 14, 3, 23, 24, 7, 25, 4, 5, 6, 8, 9, 26, 27, 28, 29, 49, 50, 51, 52, 53, 54, 55, 56, 57] (by decide +kernel) (by decide +kernel)
set_option maxRecDepth 20000 in
theorem gX2_takesJudge_X2_readsNext : GoodIn wsX2_takesJudge (wsV RX2 48 RX2 yX2_readsNext wsX2_readsNext) := goodIn_app (goodIn_of _ (by decide +kernel)) ggX2_takesJudge_X2_readsNext
set_option maxRecDepth 20000 in
theorem ggX2_takesJudge_X2_takesSign : GoodIn wsX2_takesJudge wsX2_takesSign := goodIn_r _ [48, 14, 15, 16, 17, 7, 18, 19, 20, 21, 22, 3, 23, 24, 25, 4, 5, 6, 8, 9, 26, 27, 28, 29, 49, 50, 51, 52, 53, 54, 55, 56, 57] (by decide +kernel) (by decide +kernel)
set_option maxRecDepth 20000 in
theorem gX2_takesJudge_X2_takesSign : GoodIn wsX2_takesJudge (wsV RX2 107 RX2 yX2_takesSign wsX2_takesSign) := goodIn_app (goodIn_of _ (by decide +kernel)) ggX2_takesJudge_X2_takesSign
set_option maxRecDepth 20000 in
theorem ggX2_takesDraught_X2_fails : GoodIn wsX2_takesDraught wsX2_fails := goodIn_r _ [8, 9, 49, 50, 51, 52, 53, 54, 55, 56, 57] (by decide +kernel) (by decide +kernel)
set_option maxRecDepth 20000 in
theorem gX2_takesDraught_X2_fails : GoodIn wsX2_takesDraught (wsV RX2 69 RX2 yX2_fails wsX2_fails) := goodIn_app (goodIn_of _ (by decide +kernel)) ggX2_takesDraught_X2_fails
set_option maxRecDepth 20000 in
theorem ggX2_takesDraught_X2_readsNumber : GoodIn wsX2_takesDraught wsX2_readsNumber := goodIn_r _ [13, 14, 15, 16, 17, 7, 18, 19, 20, 21, 22, 3, 23, 24, 25, 4, 5, 6, 8, 9, 26, 27, 28, 29, 30, 31, 32, 33, 34, 35, 36, 49, 50, 51, 52, 53, 54, 55, 56, 57] (by decide +kernel) (by decide +kernel)
set_option maxRecDepth 20000 in
theorem gX2_takesDraught_X2_readsNumber : GoodIn wsX2_takesDraught (wsV RX2 113 RX2 yX2_readsNumber wsX2_readsNumber) := goodIn_app (goodIn_of _ (by decide +kernel)) ggX2_takesDraught_X2_readsNumber
set_option maxRecDepth 20000 in
theorem ggX2_takesDraught_X0_addDraught : GoodIn wsX2_takesDraught wsX0_addDraught := goodIn_r _ [41, 42, 43, 44, 58, 59, 60, 61, 62, 63, 64, 65, 66, 67, 68, 69, 70, 71, 72, 73, 74] (by decide +kernel) (by decide +kernel)
set_option maxRecDepth 20000 in
theorem gX2_takesDraught_X0_addDraught : GoodIn wsX2_takesDraught (wsV RX2 138 RX0 yX0_addDraught wsX0_addDraught) := goodIn_app (goodIn_of _ (by decide +kernel)) ggX2_takesDraught_X0_addDraught
set_option maxRecDepth 20000 in
theorem ggX2_takesDraught_X2_readsNext : GoodIn wsX2_takesDraught wsX2_readsNext := goodIn_r _ [18, 19, 20, 21, 22, 14, 3, 23, 24, 7, 25, 4, 5, 6, 8, 9, 26, 27, 28, 29, 49, 50, 51, 52, 53, 54, 55, 56, 57] (by decide +kernel) (by decide +kernel)
set_option maxRecDepth 20000 in
theorem gX2_takesDraught_X2_readsNext : GoodIn wsX2_takesDraught (wsV RX2 48 RX2 yX2_readsNext wsX2_readsNext) := goodIn_app (goodIn_of _ (by decide +kernel)) ggX2_takesDraught_X2_readsNext
set_option maxRecDepth 20000 in
theorem ggX2_takesDraught_X2_takesSign : GoodIn wsX2_takesDraught wsX2_takesSign := goodIn_r _ [48, 14, 15, 16, 17, 7, 18, 19, 20, 21, 22, 3, 23, 24, 25, 4, 5, 6, 8, 9, 26, 27, 28, 29, 49, 50, 51, 52, 53, 54, 55, 56, 57] (by decide +kernel) (by decide +kernel)
set_option maxRecDepth 20000 in
theorem gX2_takesDraught_X2_takesSign : GoodIn wsX2_takesDraught (wsV RX2 107 RX2 yX2_takesSign wsX2_takesSign) := goodIn_app (goodIn_of _ (by decide +kernel)) ggX2_takesDraught_X2_takesSign
set_option maxRecDepth 20000 in
theorem ggX2_takesDocket_X2_fails : GoodIn wsX2_takesDocket wsX2_fails := goodIn_r _ [9, 10, 54, 55, 56, 57, 58, 59, 60, 61, 62] (by decide +kernel) (by decide +kernel)
set_option maxRecDepth 20000 in
theorem gX2_takesDocket_X2_fails : GoodIn wsX2_takesDocket (wsV RX2 69 RX2 yX2_fails wsX2_fails) := goodIn_app (goodIn_of _ (by decide +kernel)) ggX2_takesDocket_X2_fails
set_option maxRecDepth 20000 in
theorem ggX2_takesDocket_X2_readsNext : GoodIn wsX2_takesDocket wsX2_readsNext := goodIn_r _ [14, 15, 16, 17, 18, 2, 19, 20, 21, 8, 22, 5, 6, 7, 9, 10, 23, 24, 25, 26, 54, 55, 56, 57, 58, 59, 60, 61, 62] (by decide +kernel) (by decide +kernel)
set_option maxRecDepth 20000 in
theorem gX2_takesDocket_X2_readsNext : GoodIn wsX2_takesDocket (wsV RX2 48 RX2 yX2_readsNext wsX2_readsNext) := goodIn_app (goodIn_of _ (by decide +kernel)) ggX2_takesDocket_X2_readsNext
set_option maxRecDepth 20000 in
theorem ggX2_takesDocket_X2_takesHearing : GoodIn wsX2_takesDocket wsX2_takesHearing := goodIn_r _ [30, 19, 3, 31, 32, 33, 8, 34, 35, 36, 37, 5, 6, 7, 9, 10, 38, 39, 40, 41, 2, 11, 12, 13, 14, 15, 16, 17, 18, 20, 21, 22, 23, 24, 25, 26, 42, 43, 44, 45, 46, 47, 48, 49, 54, 55, 56, 57, 58, 59, 60, 61, 62, 63, 64, 65, 66, 67, 68, 69, 70, 71, 72, 73, 74, 75, 76, 77, 78, 79] (by decide +kernel) (by decide +kernel)
set_option maxRecDepth 20000 in
theorem gX2_takesDocket_X2_takesHearing : GoodIn wsX2_takesDocket (wsV RX2 141 RX2 yX2_takesHearing wsX2_takesHearing) := goodIn_app (goodIn_of _ (by decide +kernel)) ggX2_takesDocket_X2_takesHearing
set_option maxRecDepth 20000 in
theorem ggX2_takesDocket_X2_takesSign : GoodIn wsX2_takesDocket wsX2_takesSign := goodIn_r _ [53, 2, 11, 12, 13, 8, 14, 15, 16, 17, 18, 19, 20, 21, 22, 5, 6, 7, 9, 10, 23, 24, 25, 26, 54, 55, 56, 57, 58, 59, 60, 61, 62] (by decide +kernel) (by decide +kernel)
set_option maxRecDepth 20000 in
theorem gX2_takesDocket_X2_takesSign : GoodIn wsX2_takesDocket (wsV RX2 107 RX2 yX2_takesSign wsX2_takesSign) := goodIn_app (goodIn_of _ (by decide +kernel)) ggX2_takesDocket_X2_takesSign
set_option maxRecDepth 20000 in
theorem ggX2_takesHearing_X2_isNumberIn : GoodIn wsX2_takesHearing wsX2_isNumberIn := goodIn_r _ [7, 1, 8, 9, 10, 11, 12, 13, 6, 14, 15, 44, 45, 46, 47, 48, 49, 50, 51, 52] (by decide +kernel) (by decide +kernel)
set_option maxRecDepth 20000 in
theorem gX2_takesHearing_X2_isNumberIn : GoodIn wsX2_takesHearing (wsV RX2 126 RX2 yX2_isNumberIn wsX2_isNumberIn) := goodIn_app (goodIn_of _ (by decide +kernel)) ggX2_takesHearing_X2_isNumberIn
set_option maxRecDepth 20000 in
theorem ggX2_takesHearing_X2_readsNumber : GoodIn wsX2_takesHearing wsX2_readsNumber := goodIn_r _ [19, 20, 21, 22, 23, 6, 24, 25, 26, 27, 28, 1, 29, 30, 31, 11, 12, 13, 14, 15, 32, 33, 34, 35, 3, 4, 5, 7, 8, 9, 10, 44, 45, 46, 47, 48, 49, 50, 51, 52] (by decide +kernel) (by decide +kernel)
set_option maxRecDepth 20000 in
theorem gX2_takesHearing_X2_readsNumber : GoodIn wsX2_takesHearing (wsV RX2 113 RX2 yX2_readsNumber wsX2_readsNumber) := goodIn_app (goodIn_of _ (by decide +kernel)) ggX2_takesHearing_X2_readsNumber
set_option maxRecDepth 20000 in
theorem ggX2_takesHearing_X0_addHearing : GoodIn wsX2_takesHearing wsX0_addHearing := goodIn_r _ [40, 41, 42, 43, 53, 54, 55, 56, 57, 58, 59, 60, 61, 62, 63, 64, 65, 66, 67, 68, 69] (by decide +kernel) (by decide +kernel)
set_option maxRecDepth 20000 in
theorem gX2_takesHearing_X0_addHearing : GoodIn wsX2_takesHearing (wsV RX2 144 RX0 yX0_addHearing wsX0_addHearing) := goodIn_app (goodIn_of _ (by decide +kernel)) ggX2_takesHearing_X0_addHearing
set_option maxRecDepth 20000 in
theorem ggX2_takesHearing_X2_readsNext : GoodIn wsX2_takesHearing wsX2_readsNext := goodIn_r _ [24, 25, 26, 27, 28, 20, 1, 29, 30, 6, 31, 11, 12, 13, 14, 15, 32, 33, 34, 35, 44, 45, 46, 47, 48, 49, 50, 51, 52] (by decide +kernel) (by decide +kernel)
set_option maxRecDepth 20000 in
theorem gX2_takesHearing_X2_readsNext : GoodIn wsX2_takesHearing (wsV RX2 48 RX2 yX2_readsNext wsX2_readsNext) := goodIn_app (goodIn_of _ (by decide +kernel)) ggX2_takesHearing_X2_readsNext
set_option maxRecDepth 20000 in
theorem ggX2_takesSign_X2_readsNext : GoodIn wsX2_takesSign wsX2_readsNext := goodIn_r _ [6, 7, 8, 9, 10, 1, 11, 12, 13, 5, 14, 15, 16, 17, 18, 19, 20, 21, 22, 23, 24, 25, 26, 27, 28, 29, 30, 31, 32] (by decide +kernel) (by decide +kernel)
set_option maxRecDepth 20000 in
theorem gX2_takesSign_X2_readsNext : GoodIn wsX2_takesSign (wsV RX2 48 RX2 yX2_readsNext wsX2_readsNext) := goodIn_app (goodIn_of _ (by decide +kernel)) ggX2_takesSign_X2_readsNext
set_option maxRecDepth 20000 in
theorem ggX2_takesSign_X2_fails : GoodIn wsX2_takesSign wsX2_fails := goodIn_r _ [18, 19, 24, 25, 26, 27, 28, 29, 30, 31, 32] (by decide +kernel) (by decide +kernel)
set_option maxRecDepth 20000 in
theorem gX2_takesSign_X2_fails : GoodIn wsX2_takesSign (wsV RX2 69 RX2 yX2_fails wsX2_fails) := goodIn_app (goodIn_of _ (by decide +kernel)) ggX2_takesSign_X2_fails
set_option maxRecDepth 20000 in
theorem ggX2_readsNumber_X2_readsNext : GoodIn wsX2_readsNumber wsX2_readsNext := goodIn_r _ [6, 7, 8, 9, 10, 1, 11, 12, 13, 5, 14, 15, 16, 17, 18, 19, 20, 21, 22, 23, 31, 32, 33, 34, 35, 36, 37, 38, 39] (by decide +kernel) (by decide +kernel)
set_option maxRecDepth 20000 in
theorem gX2_readsNumber_X2_readsNext : GoodIn wsX2_readsNumber (wsV RX2 48 RX2 yX2_readsNext wsX2_readsNext) := goodIn_app (goodIn_of _ (by decide +kernel)) ggX2_readsNumber_X2_readsNext
set_option maxRecDepth 20000 in
theorem ggX2_readsNumber_X2_isNumberIn : GoodIn wsX2_readsNumber wsX2_isNumberIn := goodIn_r _ [27, 11, 28, 29, 30, 15, 16, 17, 5, 18, 19, 31, 32, 33, 34, 35, 36, 37, 38, 39] (by decide +kernel) (by decide +kernel)
set_option maxRecDepth 20000 in
theorem gX2_readsNumber_X2_isNumberIn : GoodIn wsX2_readsNumber (wsV RX2 126 RX2 yX2_isNumberIn wsX2_isNumberIn) := goodIn_app (goodIn_of _ (by decide +kernel)) ggX2_readsNumber_X2_isNumberIn
set_option maxRecDepth 20000 in
theorem ggX2_readsNumber_X2_fails : GoodIn wsX2_readsNumber wsX2_fails := goodIn_r _ [18, 19, 31, 32, 33, 34, 35, 36, 37, 38, 39] (by decide +kernel) (by decide +kernel)
set_option maxRecDepth 20000 in
theorem gX2_readsNumber_X2_fails : GoodIn wsX2_readsNumber (wsV RX2 69 RX2 yX2_fails wsX2_fails) := goodIn_app (goodIn_of _ (by decide +kernel)) ggX2_readsNumber_X2_fails
set_option maxRecDepth 20000 in
theorem ggX2_isNumberIn_X6_isIn : GoodIn wsX2_isNumberIn wsX6_isIn := goodIn_r _ [4] (by decide +kernel) (by decide +kernel)
set_option maxRecDepth 20000 in
theorem gX2_isNumberIn_X6_isIn_n147 : GoodIn wsX2_isNumberIn (wsX6_isIn) := ggX2_isNumberIn_X6_isIn
set_option maxRecDepth 20000 in
theorem ggX2_isNumberIn_X2_fails : GoodIn wsX2_isNumberIn wsX2_fails := goodIn_r _ [9, 10, 11, 12, 13, 14, 15, 16, 17, 18, 19] (by decide +kernel) (by decide +kernel)
set_option maxRecDepth 20000 in
theorem gX2_isNumberIn_X2_fails : GoodIn wsX2_isNumberIn (wsV RX2 69 RX2 yX2_fails wsX2_fails) := goodIn_app (goodIn_of _ (by decide +kernel)) ggX2_isNumberIn_X2_fails
set_option maxRecDepth 20000 in
theorem ggX2_readsNext_X2_tokenOf : GoodIn wsX2_readsNext wsX2_tokenOf := goodIn_r _ [10] (by decide +kernel) (by decide +kernel)
set_option maxRecDepth 20000 in
theorem gX2_readsNext_X2_tokenOf : GoodIn wsX2_readsNext (va_wsS RX2 151 yX2_tokenOf wsX2_tokenOf) := goodIn_app (goodIn_of _ (by decide +kernel)) ggX2_readsNext_X2_tokenOf
set_option maxRecDepth 20000 in
theorem ggX2_readsNext_X2_fails : GoodIn wsX2_readsNext wsX2_fails := goodIn_r _ [14, 15, 20, 21, 22, 23, 24, 25, 26, 27, 28] (by decide +kernel) (by decide +kernel)
set_option maxRecDepth 20000 in
theorem gX2_readsNext_X2_fails : GoodIn wsX2_readsNext (wsV RX2 69 RX2 yX2_fails wsX2_fails) := goodIn_app (goodIn_of _ (by decide +kernel)) ggX2_readsNext_X2_fails
set_option maxRecDepth 20000 in
theorem ggX2_readsNext_X2_figuresRead : GoodIn wsX2_readsNext wsX2_figuresRead := goodIn_r _ [19, 4, 1, 3, 20, 21, 22, 23, 24, 25, 26, 27, 28] (by decide +kernel) (by decide +kernel)
set_option maxRecDepth 20000 in
theorem gX2_readsNext_X2_figuresRead : GoodIn wsX2_readsNext (wsV RX2 155 RX2 yX2_figuresRead wsX2_figuresRead) := goodIn_app (goodIn_of _ (by decide +kernel)) ggX2_readsNext_X2_figuresRead
set_option maxRecDepth 20000 in
theorem ggX2_kindNamed_X2_isNamed : GoodIn wsX2_kindNamed wsX2_isNamed := goodIn_r _ [5, 6, 7, 8, 9, 10, 11, 12, 13, 14, 15, 16, 17, 18, 19, 20, 21, 22, 23, 24, 25, 26, 27, 28, 29, 30, 31, 32, 33, 34, 35, 36, 37, 38, 39, 40, 41, 42, 43, 44, 45, 46, 47, 48, 49, 50, 51, 52, 53, 54, 55, 56, 57, 58, 59, 60, 61, 62, 63, 64, 65, 66, 67] (by decide +kernel) (by decide +kernel)
set_option maxRecDepth 20000 in
theorem gX2_kindNamed_X2_isNamed : GoodIn wsX2_kindNamed (wsV RX2 74 RX2 yX2_isNamed wsX2_isNamed) := goodIn_app (goodIn_of _ (by decide +kernel)) ggX2_kindNamed_X2_isNamed
set_option maxRecDepth 20000 in
theorem ggX2_habitNamed_X2_isNamed : GoodIn wsX2_habitNamed wsX2_isNamed := goodIn_r _ [5, 6, 7, 8, 9, 10, 11, 12, 13, 14, 15, 16, 17, 18, 19, 20, 21, 22, 23, 24, 25, 26, 27, 28, 29, 30, 31, 32, 33, 34, 35, 36, 37, 38, 39, 40, 41, 42, 43, 44, 45, 46, 47, 48, 49, 50, 51, 52, 53, 54, 55, 56, 57, 58, 59, 60, 61, 62, 63, 64, 65, 66, 67] (by decide +kernel) (by decide +kernel)
set_option maxRecDepth 20000 in
theorem gX2_habitNamed_X2_isNamed : GoodIn wsX2_habitNamed (wsV RX2 74 RX2 yX2_isNamed wsX2_isNamed) := goodIn_app (goodIn_of _ (by decide +kernel)) ggX2_habitNamed_X2_isNamed
set_option maxRecDepth 20000 in
theorem ggX2_isNamed_J0_length_8abf5 : GoodIn wsX2_isNamed wsJ0_length_8abf5 := goodIn_r _ [9, 10, 11, 12, 13, 8, 14, 15, 16] (by decide +kernel) (by decide +kernel)
set_option maxRecDepth 20000 in
theorem gX2_isNamed_J0_length_8abf5 : GoodIn wsX2_isNamed (wsV RX2 174 RJ0 yJ0_length_8abf5 wsJ0_length_8abf5) := goodIn_app (goodIn_of _ (by decide +kernel)) ggX2_isNamed_J0_length_8abf5
set_option maxRecDepth 20000 in
theorem ggX2_isNamed_J0_charAt_5068e : GoodIn wsX2_isNamed wsJ0_charAt_5068e := goodIn_r _ [20, 10, 21, 22, 23, 8, 24, 15, 16, 25, 26, 27, 28, 29, 30, 31, 32, 33, 34, 35, 36, 37, 38, 39, 40, 41, 42, 43, 44, 45, 46, 47, 48, 49, 50, 51, 52, 53] (by decide +kernel) (by decide +kernel)
set_option maxRecDepth 20000 in
theorem gX2_isNamed_J0_charAt_5068e : GoodIn wsX2_isNamed (wsV RX2 178 RJ0 yJ0_charAt_5068e wsJ0_charAt_5068e) := goodIn_app (goodIn_of _ (by decide +kernel)) ggX2_isNamed_J0_charAt_5068e
set_option maxRecDepth 20000 in
theorem ggX3_goByDocket_X6_copyRow : GoodIn wsX3_goByDocket wsX6_copyRow := goodIn_r _ [11, 12, 13, 14, 15, 16, 17, 18, 19] (by decide +kernel) (by decide +kernel)
set_option maxRecDepth 20000 in
theorem gX3_goByDocket_X6_copyRow_n25 : GoodIn wsX3_goByDocket (wsX6_copyRow) := ggX3_goByDocket_X6_copyRow
set_option maxRecDepth 20000 in
theorem ggX3_goByDocket_X5_prepare : GoodIn wsX3_goByDocket wsX5_prepare := goodIn_r _ [24, 25, 26, 27, 28, 29, 30, 31, 32, 33, 34, 35, 36, 37, 38, 39, 40, 41, 23, 42, 43, 44, 14, 45, 79, 80, 81, 82, 83, 84, 85, 59, 60, 61, 62, 63, 64, 65, 66, 67, 68, 69, 70, 71, 72, 73, 74, 75] (by decide +kernel) (by decide +kernel)
set_option maxRecDepth 20000 in
theorem gX3_goByDocket_X5_prepare : GoodIn wsX3_goByDocket (wsV RX3 38 RX5 yX5_prepare wsX5_prepare) := goodIn_app (goodIn_of _ (by decide +kernel)) ggX3_goByDocket_X5_prepare
set_option maxRecDepth 20000 in
theorem ggX3_goByDocket_X5_verdictHeld : GoodIn wsX3_goByDocket wsX5_verdictHeld := goodIn_r _ [49, 50, 34, 27, 25, 43, 44, 14, 45, 51, 52, 53, 23, 54, 29, 35, 55, 56, 57, 58, 32, 79, 80, 81, 82, 83, 84, 85] (by decide +kernel) (by decide +kernel)
set_option maxRecDepth 20000 in
theorem gX3_goByDocket_X5_verdictHeld : GoodIn wsX3_goByDocket (wsV RX3 44 RX5 yX5_verdictHeld wsX5_verdictHeld) := goodIn_app (goodIn_of _ (by decide +kernel)) ggX3_goByDocket_X5_verdictHeld
set_option maxRecDepth 20000 in
theorem ggX4_hasCell_X6_isIn : GoodIn wsX4_hasCell wsX6_isIn := goodIn_r _ [4] (by decide +kernel) (by decide +kernel)
set_option maxRecDepth 20000 in
theorem gX4_hasCell_X6_isIn_n21 : GoodIn wsX4_hasCell (wsX6_isIn) := ggX4_hasCell_X6_isIn
set_option maxRecDepth 20000 in
theorem ggX4_cell_X4_hasCell : GoodIn wsX4_cell wsX4_hasCell := goodIn_r _ [6, 7, 8, 9, 10, 11, 12, 13] (by decide +kernel) (by decide +kernel)
set_option maxRecDepth 20000 in
theorem gX4_cell_X4_hasCell : GoodIn wsX4_cell (wsV RX4 25 RX4 yX4_hasCell wsX4_hasCell) := goodIn_app (goodIn_of _ (by decide +kernel)) ggX4_cell_X4_hasCell
set_option maxRecDepth 20000 in
theorem ggX4_faultAs_X4_isNothing : GoodIn wsX4_faultAs wsX4_isNothing := goodIn_r _ [6, 7, 8, 9, 10] (by decide +kernel) (by decide +kernel)
set_option maxRecDepth 20000 in
theorem gX4_faultAs_X4_isNothing : GoodIn wsX4_faultAs (wsV RX4 29 RX4 yX4_isNothing wsX4_isNothing) := goodIn_app (goodIn_of _ (by decide +kernel)) ggX4_faultAs_X4_isNothing
set_option maxRecDepth 20000 in
theorem ggX4_wholePairs_X4_hasCell : GoodIn wsX4_wholePairs wsX4_hasCell := goodIn_r _ [10, 1, 11, 12, 13, 14, 15, 16] (by decide +kernel) (by decide +kernel)
set_option maxRecDepth 20000 in
theorem gX4_wholePairs_X4_hasCell : GoodIn wsX4_wholePairs (wsV RX4 25 RX4 yX4_hasCell wsX4_hasCell) := goodIn_app (goodIn_of _ (by decide +kernel)) ggX4_wholePairs_X4_hasCell
set_option maxRecDepth 20000 in
theorem ggX5_prepare_X5_blows : GoodIn wsX5_prepare wsX5_blows := goodIn_r _ [19, 11, 20, 21, 22, 23, 24, 25, 26, 27, 28, 29, 30] (by decide +kernel) (by decide +kernel)
set_option maxRecDepth 20000 in
theorem gX5_prepare_X5_blows : GoodIn wsX5_prepare (wsV RX5 51 RX5 yX5_blows wsX5_blows) := goodIn_app (goodIn_of _ (by decide +kernel)) ggX5_prepare_X5_blows
set_option maxRecDepth 20000 in
theorem ggX5_verdictHeld_X5_burnsStill : GoodIn wsX5_verdictHeld wsX5_burnsStill := goodIn_r _ [13, 3, 14, 15, 1, 21, 22, 23, 24, 25, 26, 27] (by decide +kernel) (by decide +kernel)
set_option maxRecDepth 20000 in
theorem gX5_verdictHeld_X5_burnsStill : GoodIn wsX5_verdictHeld (wsV RX5 61 RX5 yX5_burnsStill wsX5_burnsStill) := goodIn_app (goodIn_of _ (by decide +kernel)) ggX5_verdictHeld_X5_burnsStill
set_option maxRecDepth 20000 in
theorem ggX5_verdictHeld_X5_goesTo : GoodIn wsX5_verdictHeld wsX5_goesTo := goodIn_r _ [19, 3, 20, 14, 21, 22, 23, 24, 25, 26, 27] (by decide +kernel) (by decide +kernel)
set_option maxRecDepth 20000 in
theorem gX5_verdictHeld_X5_goesTo : GoodIn wsX5_verdictHeld (wsV RX5 68 RX5 yX5_goesTo wsX5_goesTo) := goodIn_app (goodIn_of _ (by decide +kernel)) ggX5_verdictHeld_X5_goesTo
set_option maxRecDepth 20000 in
theorem ggX6_init_X0_init : GoodIn wsX6_init wsX0_init := goodIn_r _ [37, 38, 2, 3, 39, 40, 41, 42, 32, 43, 44, 45, 46, 47, 48, 49, 50, 51, 52, 53, 54, 55, 98, 99, 100, 101, 102, 103, 104, 105, 106, 107, 108, 109, 110, 111, 112, 113, 114] (by decide +kernel) (by decide +kernel)
set_option maxRecDepth 20000 in
theorem gX6_init_X0_init_n11 : GoodIn wsX6_init (wsX0_init) := ggX6_init_X0_init
set_option maxRecDepth 20000 in
theorem ggX6_init_X2_init : GoodIn wsX6_init wsX2_init := goodIn_r _ [57, 58, 2, 3, 32, 59, 60, 5, 6, 61, 62, 63, 64, 65, 66, 67, 68, 36, 37, 38, 39, 40, 41, 42, 43, 44, 45, 46, 47, 48, 49, 50, 51, 52, 53, 54, 55, 127, 128, 129, 130, 131, 132, 133, 134, 135, 98, 99, 100, 101, 102, 103, 104, 105, 106, 107, 108, 109, 110, 111, 112, 113, 114] (by decide +kernel) (by decide +kernel)
set_option maxRecDepth 20000 in
theorem gX6_init_X2_init_n28 : GoodIn wsX6_init (wsX2_init) := ggX6_init_X2_init
set_option maxRecDepth 20000 in
theorem ggX6_init_X5_init : GoodIn wsX6_init wsX5_init := goodIn_r _ [70, 71, 2, 3, 32, 72, 73, 74, 75, 76, 77, 78, 136, 137, 138, 139, 140, 141, 142] (by decide +kernel) (by decide +kernel)
set_option maxRecDepth 20000 in
theorem gX6_init_X5_init_n35 : GoodIn wsX6_init (wsX5_init) := ggX6_init_X5_init
set_option maxRecDepth 20000 in
theorem ggX6_init_X3_init : GoodIn wsX6_init wsX3_init := goodIn_r _ [80, 81, 2, 3, 32, 82, 83, 84, 143, 144, 145] (by decide +kernel) (by decide +kernel)
set_option maxRecDepth 20000 in
theorem gX6_init_X3_init_n42 : GoodIn wsX6_init (wsX3_init) := ggX6_init_X3_init
set_option maxRecDepth 20000 in
theorem ggX6_init_X1_init : GoodIn wsX6_init wsX1_init := goodIn_r _ [86, 87, 2, 3, 32, 88, 89, 90, 91, 146, 147, 148, 149] (by decide +kernel) (by decide +kernel)
set_option maxRecDepth 20000 in
theorem gX6_init_X1_init_n49 : GoodIn wsX6_init (wsX1_init) := ggX6_init_X1_init
set_option maxRecDepth 20000 in
theorem ggX6_init_X4_init : GoodIn wsX6_init wsX4_init := goodIn_r _ [93, 94, 2, 3, 32, 95, 96, 97, 150, 151, 152] (by decide +kernel) (by decide +kernel)
set_option maxRecDepth 20000 in
theorem gX6_init_X4_init_n56 : GoodIn wsX6_init (wsX4_init) := ggX6_init_X4_init
set_option maxRecDepth 20000 in
theorem ggX6_feed_X6_isIn : GoodIn wsX6_feed wsX6_isIn := goodIn_r _ [6] (by decide +kernel) (by decide +kernel)
set_option maxRecDepth 20000 in
theorem gX6_feed_X6_isIn : GoodIn wsX6_feed (va_wsS RX6 72 yX6_isIn wsX6_isIn) := goodIn_app (goodIn_of _ (by decide +kernel)) ggX6_feed_X6_isIn
set_option maxRecDepth 20000 in
theorem ggX6_feed_X2_add : GoodIn wsX6_feed wsX2_add := goodIn_r _ [11, 12, 13, 26, 27, 28, 29, 30, 31, 32, 33, 34] (by decide +kernel) (by decide +kernel)
set_option maxRecDepth 20000 in
theorem gX6_feed_X2_add : GoodIn wsX6_feed (wsV RX6 76 RX2 yX2_add wsX2_add) := goodIn_app (goodIn_of _ (by decide +kernel)) ggX6_feed_X2_add
set_option maxRecDepth 20000 in
theorem ggX6_end_X6_isIn : GoodIn wsX6_end wsX6_isIn := goodIn_r _ [6] (by decide +kernel) (by decide +kernel)
set_option maxRecDepth 20000 in
theorem gX6_end_X6_isIn : GoodIn wsX6_end (va_wsS RX6 72 yX6_isIn wsX6_isIn) := goodIn_app (goodIn_of _ (by decide +kernel)) ggX6_end_X6_isIn
set_option maxRecDepth 20000 in
theorem ggX6_text_X2_begins : GoodIn wsX6_text wsX2_begins := goodIn_r _ [13, 14, 15, 16, 17, 18, 19, 20, 21, 22, 23, 24, 25, 26, 27, 28, 29, 12, 30, 31, 32, 33, 34, 35, 36, 37, 38, 39, 40, 41, 42, 43, 44, 45, 46, 231, 232, 233, 234, 235, 236, 237, 238, 239, 244, 245, 246, 247, 248, 249, 250, 251, 252, 253, 254, 255, 256, 257, 258, 259, 260] (by decide +kernel) (by decide +kernel)
set_option maxRecDepth 20000 in
theorem gX6_text_X2_begins : GoodIn wsX6_text (wsV RX6 83 RX2 yX2_begins wsX2_begins) := goodIn_app (goodIn_of _ (by decide +kernel)) ggX6_text_X2_begins
set_option maxRecDepth 20000 in
theorem ggX6_text_X2_isAtEnd : GoodIn wsX6_text wsX2_isAtEnd := goodIn_r _ [50, 34, 231, 232, 233, 234, 235, 236, 237, 238, 239] (by decide +kernel) (by decide +kernel)
set_option maxRecDepth 20000 in
theorem gX6_text_X2_isAtEnd : GoodIn wsX6_text (wsV RX6 87 RX2 yX2_isAtEnd wsX2_isAtEnd) := goodIn_app (goodIn_of _ (by decide +kernel)) ggX6_text_X2_isAtEnd
set_option maxRecDepth 20000 in
theorem ggX6_text_X2_takesLine : GoodIn wsX6_text wsX2_takesLine := goodIn_r _ [54, 55, 56, 57, 12, 58, 34, 17, 33, 32, 59, 60, 61, 62, 63, 64, 65, 66, 67, 68, 69, 70, 71, 72, 73, 74, 75, 76, 77, 78, 79, 80, 81, 82, 83, 84, 85, 86, 87, 88, 89, 90, 91, 92, 93, 94, 95, 96, 97, 98, 99, 100, 101, 102, 103, 104, 105, 106, 107, 108, 109, 110, 111, 14, 112, 39, 40, 41, 42, 16, 27, 28, 29, 30, 31, 35, 36, 37, 38, 43, 44, 45, 46, 113, 114, 115, 116, 117, 118, 119, 120, 121, 122, 123, 124, 125, 126, 127, 128, 129, 130, 131, 132, 133, 134, 135, 136, 137, 21, 138, 23, 139, 140, 141, 142, 143, 144, 145, 146, 147, 148, 149, 150, 151, 152, 153, 154, 155, 25, 156, 157, 158, 159, 160, 161, 15, 162, 163, 164, 165, 166, 167, 168, 169, 170, 26, 171, 172, 173, 174, 175, 176, 177, 178, 179, 180, 181, 182, 183, 184, 185, 24, 186, 187, 231, 232, 233, 234, 235, 236, 237, 238, 239, 244, 245, 246, 247, 248, 249, 250, 251, 252, 253, 254, 255, 256, 257, 258, 259, 260] (by decide +kernel) (by decide +kernel)
set_option maxRecDepth 20000 in
theorem gX6_text_X2_takesLine : GoodIn wsX6_text (wsV RX6 90 RX2 yX2_takesLine wsX2_takesLine) := goodIn_app (goodIn_of _ (by decide +kernel)) ggX6_text_X2_takesLine
set_option maxRecDepth 20000 in
theorem ggX6_text_X2_docketStands : GoodIn wsX6_text wsX2_docketStands := goodIn_r _ [191, 14, 162, 192, 193, 194, 195, 196, 21, 197, 23, 132, 133, 134, 198, 199, 200, 201, 24, 39, 40, 41, 12, 42, 16, 231, 232, 233, 234, 235, 236, 237, 238, 239, 244, 245, 246, 247, 248, 249, 250, 251, 252, 253, 254, 255, 256, 257, 258, 259, 260] (by decide +kernel) (by decide +kernel)
set_option maxRecDepth 20000 in
theorem gX6_text_X2_docketStands : GoodIn wsX6_text (wsV RX6 93 RX2 yX2_docketStands wsX2_docketStands) := goodIn_app (goodIn_of _ (by decide +kernel)) ggX6_text_X2_docketStands
set_option maxRecDepth 20000 in
theorem ggX6_text_X0_becomes : GoodIn wsX6_text wsX0_becomes := goodIn_r _ [205, 23, 24, 25, 26, 206, 207, 208, 139, 140, 141, 142, 186, 187, 156, 157, 171, 172, 209, 133, 210, 211, 212, 213, 214, 215, 216, 217, 218, 244, 245, 246, 247, 248, 249, 250, 251, 252, 253, 254, 255, 256, 257, 258, 259, 260] (by decide +kernel) (by decide +kernel)
set_option maxRecDepth 20000 in
theorem gX6_text_X0_becomes : GoodIn wsX6_text (wsV RX6 102 RX0 yX0_becomes wsX0_becomes) := goodIn_app (goodIn_of _ (by decide +kernel)) ggX6_text_X0_becomes
set_option maxRecDepth 20000 in
theorem ggX6_rule_X6_bitsOf : GoodIn wsX6_rule wsX6_bitsOf := goodIn_r _ [11] (by decide +kernel) (by decide +kernel)
set_option maxRecDepth 20000 in
theorem gX6_rule_X6_bitsOf : GoodIn wsX6_rule (va_wsS RX6 125 yX6_bitsOf wsX6_bitsOf) := goodIn_app (goodIn_of _ (by decide +kernel)) ggX6_rule_X6_bitsOf
set_option maxRecDepth 20000 in
theorem ggX6_rule_X0_sumOf : GoodIn wsX6_rule wsX0_sumOf := goodIn_r _ [16, 17, 30, 31, 32, 33, 34, 35, 36, 37, 38, 39, 40, 41, 42, 43, 44, 45, 46] (by decide +kernel) (by decide +kernel)
set_option maxRecDepth 20000 in
theorem gX6_rule_X0_sumOf : GoodIn wsX6_rule (wsV RX6 132 RX0 yX0_sumOf wsX0_sumOf) := goodIn_app (goodIn_of _ (by decide +kernel)) ggX6_rule_X0_sumOf
set_option maxRecDepth 20000 in
theorem ggX6_flame_X6_isFlame : GoodIn wsX6_flame wsX6_isFlame := goodIn_r _ [10, 1, 11, 12, 13, 14, 15, 16, 17, 9, 18, 19, 20, 21, 22, 23, 24, 25, 26, 27, 28, 29, 30, 31, 32, 33, 34, 35, 36, 37, 38, 39, 40, 41, 42, 43, 44, 45, 46, 47, 48, 49, 50, 51] (by decide +kernel) (by decide +kernel)
set_option maxRecDepth 20000 in
theorem gX6_flame_X6_isFlame : GoodIn wsX6_flame (wsV RX6 136 RX6 yX6_isFlame wsX6_isFlame) := goodIn_app (goodIn_of _ (by decide +kernel)) ggX6_flame_X6_isFlame
set_option maxRecDepth 20000 in
theorem ggX6_suit_X0_hasCase : GoodIn wsX6_suit wsX0_hasCase := goodIn_r _ [10, 11, 12, 13, 14, 27, 28, 29, 30, 31, 32, 33, 34, 35, 36, 37, 38, 39, 40, 41, 42, 43] (by decide +kernel) (by decide +kernel)
set_option maxRecDepth 20000 in
theorem gX6_suit_X0_hasCase : GoodIn wsX6_suit (wsV RX6 149 RX0 yX0_hasCase wsX0_hasCase) := goodIn_app (goodIn_of _ (by decide +kernel)) ggX6_suit_X0_hasCase
set_option maxRecDepth 20000 in
theorem ggX6_judge_X0_hasJudge : GoodIn wsX6_judge wsX0_hasJudge := goodIn_r _ [8, 9, 10, 11, 12, 26, 27, 28, 29, 30, 31, 32, 33, 34, 35, 36, 37, 38, 39, 40, 41, 42] (by decide +kernel) (by decide +kernel)
set_option maxRecDepth 20000 in
theorem gX6_judge_X0_hasJudge : GoodIn wsX6_judge (wsV RX6 162 RX0 yX0_hasJudge wsX0_hasJudge) := goodIn_app (goodIn_of _ (by decide +kernel)) ggX6_judge_X0_hasJudge
set_option maxRecDepth 20000 in
theorem ggX6_judge_X6_isIn : GoodIn wsX6_judge wsX6_isIn := goodIn_r _ [12] (by decide +kernel) (by decide +kernel)
set_option maxRecDepth 20000 in
theorem gX6_judge_X6_isIn : GoodIn wsX6_judge (va_wsS RX6 72 yX6_isIn wsX6_isIn) := goodIn_app (goodIn_of _ (by decide +kernel)) ggX6_judge_X6_isIn
set_option maxRecDepth 20000 in
theorem ggX6_draught_X6_isIn : GoodIn wsX6_draught wsX6_isIn := goodIn_r _ [8] (by decide +kernel) (by decide +kernel)
set_option maxRecDepth 20000 in
theorem gX6_draught_X6_isIn : GoodIn wsX6_draught (va_wsS RX6 72 yX6_isIn wsX6_isIn) := goodIn_app (goodIn_of _ (by decide +kernel)) ggX6_draught_X6_isIn
set_option maxRecDepth 20000 in
theorem ggX6_docket_X6_isIn : GoodIn wsX6_docket wsX6_isIn := goodIn_r _ [8] (by decide +kernel) (by decide +kernel)
set_option maxRecDepth 20000 in
theorem gX6_docket_X6_isIn : GoodIn wsX6_docket (va_wsS RX6 72 yX6_isIn wsX6_isIn) := goodIn_app (goodIn_of _ (by decide +kernel)) ggX6_docket_X6_isIn
set_option maxRecDepth 20000 in
theorem ggX6_trim_X6_isFlame : GoodIn wsX6_trim wsX6_isFlame := goodIn_r _ [11, 2, 12, 13, 14, 15, 16, 17, 18, 10, 19, 20, 21, 22, 23, 27, 28, 29, 30, 31, 32, 33, 34, 35, 36, 37, 38, 39, 40, 41, 42, 43, 44, 45, 46, 47, 48, 49, 50, 51, 52, 53, 54, 55] (by decide +kernel) (by decide +kernel)
set_option maxRecDepth 20000 in
theorem gX6_trim_X6_isFlame : GoodIn wsX6_trim (wsV RX6 136 RX6 yX6_isFlame wsX6_isFlame) := goodIn_app (goodIn_of _ (by decide +kernel)) ggX6_trim_X6_isFlame
set_option maxRecDepth 20000 in
theorem ggX6_trim_X6_isIn : GoodIn wsX6_trim wsX6_isIn := goodIn_r _ [19] (by decide +kernel) (by decide +kernel)
set_option maxRecDepth 20000 in
theorem gX6_trim_X6_isIn : GoodIn wsX6_trim (va_wsS RX6 72 yX6_isIn wsX6_isIn) := goodIn_app (goodIn_of _ (by decide +kernel)) ggX6_trim_X6_isIn
set_option maxRecDepth 20000 in
theorem ggX6_trim_X6_exchange : GoodIn wsX6_trim wsX6_exchange := goodIn_r _ [26] (by decide +kernel) (by decide +kernel)
set_option maxRecDepth 20000 in
theorem gX6_trim_X6_exchange : GoodIn wsX6_trim (va_wsS RX6 186 yX6_exchange wsX6_exchange) := goodIn_app (goodIn_of _ (by decide +kernel)) ggX6_trim_X6_exchange
set_option maxRecDepth 20000 in
theorem ggX6_train_X0_hasJudge : GoodIn wsX6_train wsX0_hasJudge := goodIn_r _ [8, 9, 10, 11, 12, 29, 30, 31, 32, 33, 34, 35, 36, 37, 38, 39, 40, 41, 42, 43, 44, 45] (by decide +kernel) (by decide +kernel)
set_option maxRecDepth 20000 in
theorem gX6_train_X0_hasJudge : GoodIn wsX6_train (wsV RX6 162 RX0 yX0_hasJudge wsX0_hasJudge) := goodIn_app (goodIn_of _ (by decide +kernel)) ggX6_train_X0_hasJudge
set_option maxRecDepth 20000 in
theorem ggX6_train_X6_isIn : GoodIn wsX6_train wsX6_isIn := goodIn_r _ [12] (by decide +kernel) (by decide +kernel)
set_option maxRecDepth 20000 in
theorem gX6_train_X6_isIn : GoodIn wsX6_train (va_wsS RX6 72 yX6_isIn wsX6_isIn) := goodIn_app (goodIn_of _ (by decide +kernel)) ggX6_train_X6_isIn
set_option maxRecDepth 20000 in
theorem ggX6_train_X6_exchange : GoodIn wsX6_train wsX6_exchange := goodIn_r _ [16] (by decide +kernel) (by decide +kernel)
set_option maxRecDepth 20000 in
theorem gX6_train_X6_exchange : GoodIn wsX6_train (va_wsS RX6 186 yX6_exchange wsX6_exchange) := goodIn_app (goodIn_of _ (by decide +kernel)) ggX6_train_X6_exchange
set_option maxRecDepth 20000 in
theorem ggX6_blow_X6_isIn : GoodIn wsX6_blow wsX6_isIn := goodIn_r _ [6] (by decide +kernel) (by decide +kernel)
set_option maxRecDepth 20000 in
theorem gX6_blow_X6_isIn : GoodIn wsX6_blow (va_wsS RX6 72 yX6_isIn wsX6_isIn) := goodIn_app (goodIn_of _ (by decide +kernel)) ggX6_blow_X6_isIn
set_option maxRecDepth 20000 in
theorem ggX6_blow_X0_addDraught : GoodIn wsX6_blow wsX0_addDraught := goodIn_r _ [11, 12, 13, 14, 27, 28, 29, 30, 31, 32, 33, 34, 35, 36, 37, 38, 39, 40, 41, 42, 43] (by decide +kernel) (by decide +kernel)
set_option maxRecDepth 20000 in
theorem gX6_blow_X0_addDraught : GoodIn wsX6_blow (wsV RX6 189 RX0 yX0_addDraught wsX0_addDraught) := goodIn_app (goodIn_of _ (by decide +kernel)) ggX6_blow_X0_addDraught
set_option maxRecDepth 20000 in
theorem ggX6_calm_X6_isIn : GoodIn wsX6_calm wsX6_isIn := goodIn_r _ [6] (by decide +kernel) (by decide +kernel)
set_option maxRecDepth 20000 in
theorem gX6_calm_X6_isIn : GoodIn wsX6_calm (va_wsS RX6 72 yX6_isIn wsX6_isIn) := goodIn_app (goodIn_of _ (by decide +kernel)) ggX6_calm_X6_isIn
set_option maxRecDepth 20000 in
theorem ggX6_plan_X0_hasCase : GoodIn wsX6_plan wsX0_hasCase := goodIn_r _ [7, 8, 9, 10, 11, 36, 37, 38, 39, 40, 41, 42, 43, 44, 45, 46, 47, 48, 49, 50, 51, 52] (by decide +kernel) (by decide +kernel)
set_option maxRecDepth 20000 in
theorem gX6_plan_X0_hasCase : GoodIn wsX6_plan (wsV RX6 149 RX0 yX0_hasCase wsX0_hasCase) := goodIn_app (goodIn_of _ (by decide +kernel)) ggX6_plan_X0_hasCase
set_option maxRecDepth 20000 in
theorem ggX6_plan_X0_hasJudge : GoodIn wsX6_plan wsX0_hasJudge := goodIn_r _ [15, 16, 9, 10, 11, 36, 37, 38, 39, 40, 41, 42, 43, 44, 45, 46, 47, 48, 49, 50, 51, 52] (by decide +kernel) (by decide +kernel)
set_option maxRecDepth 20000 in
theorem gX6_plan_X0_hasJudge : GoodIn wsX6_plan (wsV RX6 162 RX0 yX0_hasJudge wsX0_hasJudge) := goodIn_app (goodIn_of _ (by decide +kernel)) ggX6_plan_X0_hasJudge
set_option maxRecDepth 20000 in
theorem ggX6_plan_X0_addHearing : GoodIn wsX6_plan wsX0_addHearing := goodIn_r _ [20, 21, 22, 23, 36, 37, 38, 39, 40, 41, 42, 43, 44, 45, 46, 47, 48, 49, 50, 51, 52] (by decide +kernel) (by decide +kernel)
set_option maxRecDepth 20000 in
theorem gX6_plan_X0_addHearing : GoodIn wsX6_plan (wsV RX6 192 RX0 yX0_addHearing wsX0_addHearing) := goodIn_app (goodIn_of _ (by decide +kernel)) ggX6_plan_X0_addHearing
set_option maxRecDepth 20000 in
theorem ggX6_cut_X6_isIn : GoodIn wsX6_cut wsX6_isIn := goodIn_r _ [6] (by decide +kernel) (by decide +kernel)
set_option maxRecDepth 20000 in
theorem gX6_cut_X6_isIn : GoodIn wsX6_cut (va_wsS RX6 72 yX6_isIn wsX6_isIn) := goodIn_app (goodIn_of _ (by decide +kernel)) ggX6_cut_X6_isIn
set_option maxRecDepth 20000 in
theorem ggX6_hear_X0_hasCase : GoodIn wsX6_hear wsX0_hasCase := goodIn_r _ [7, 8, 9, 10, 11, 87, 88, 89, 90, 91, 92, 93, 94, 95, 96, 97, 98, 99, 100, 101, 102, 103] (by decide +kernel) (by decide +kernel)
set_option maxRecDepth 20000 in
theorem gX6_hear_X0_hasCase : GoodIn wsX6_hear (wsV RX6 149 RX0 yX0_hasCase wsX0_hasCase) := goodIn_app (goodIn_of _ (by decide +kernel)) ggX6_hear_X0_hasCase
set_option maxRecDepth 20000 in
theorem ggX6_hear_X0_hasJudge : GoodIn wsX6_hear wsX0_hasJudge := goodIn_r _ [15, 16, 9, 10, 11, 87, 88, 89, 90, 91, 92, 93, 94, 95, 96, 97, 98, 99, 100, 101, 102, 103] (by decide +kernel) (by decide +kernel)
set_option maxRecDepth 20000 in
theorem gX6_hear_X0_hasJudge : GoodIn wsX6_hear (wsV RX6 162 RX0 yX0_hasJudge wsX0_hasJudge) := goodIn_app (goodIn_of _ (by decide +kernel)) ggX6_hear_X0_hasJudge
set_option maxRecDepth 20000 in
theorem ggX6_hear_X6_hearForGood : GoodIn wsX6_hear wsX6_hearForGood := goodIn_r _ [20, 1, 21, 22, 23, 2, 24, 25, 26, 27, 28, 29, 10, 30, 31, 32, 33, 34, 35, 36, 37, 38, 39, 40, 41, 42, 43, 44, 45, 46, 47, 48, 49, 50, 51, 52, 53, 54, 55, 56, 57, 58, 59, 60, 61, 62, 63, 64, 65, 66, 67, 68, 69, 70, 71, 72, 73, 74, 75, 76, 77, 78, 79, 80, 81, 82, 83, 84, 85, 86, 87, 88, 89, 90, 91, 92, 93, 94, 95, 96, 97, 98, 99, 100, 101, 102, 103, 104, 105, 106, 107, 108, 109, 110] (by decide +kernel) (by decide +kernel)
set_option maxRecDepth 20000 in
theorem gX6_hear_X6_hearForGood : GoodIn wsX6_hear (wsV RX6 195 RX6 yX6_hearForGood wsX6_hearForGood) := goodIn_app (goodIn_of _ (by decide +kernel)) ggX6_hear_X6_hearForGood
set_option maxRecDepth 20000 in
theorem ggX6_appeal_X0_hasCase : GoodIn wsX6_appeal wsX0_hasCase := goodIn_r _ [13, 14, 15, 16, 17, 30, 31, 32, 33, 34, 35, 36, 37, 38, 39, 40, 41, 42, 43, 44, 45, 46] (by decide +kernel) (by decide +kernel)
set_option maxRecDepth 20000 in
theorem gX6_appeal_X0_hasCase : GoodIn wsX6_appeal (wsV RX6 149 RX0 yX0_hasCase wsX0_hasCase) := goodIn_app (goodIn_of _ (by decide +kernel)) ggX6_appeal_X0_hasCase
set_option maxRecDepth 20000 in
theorem ggX6_foretell_X0_hasCase : GoodIn wsX6_foretell wsX0_hasCase := goodIn_r _ [9, 10, 11, 12, 13, 87, 88, 89, 90, 91, 92, 93, 94, 95, 96, 97, 98, 99, 100, 101, 102, 103] (by decide +kernel) (by decide +kernel)
set_option maxRecDepth 20000 in
theorem gX6_foretell_X0_hasCase : GoodIn wsX6_foretell (wsV RX6 149 RX0 yX0_hasCase wsX0_hasCase) := goodIn_app (goodIn_of _ (by decide +kernel)) ggX6_foretell_X0_hasCase
set_option maxRecDepth 20000 in
theorem ggX6_foretell_X0_hasJudge : GoodIn wsX6_foretell wsX0_hasJudge := goodIn_r _ [17, 18, 11, 12, 13, 87, 88, 89, 90, 91, 92, 93, 94, 95, 96, 97, 98, 99, 100, 101, 102, 103] (by decide +kernel) (by decide +kernel)
set_option maxRecDepth 20000 in
theorem gX6_foretell_X0_hasJudge : GoodIn wsX6_foretell (wsV RX6 162 RX0 yX0_hasJudge wsX0_hasJudge) := goodIn_app (goodIn_of _ (by decide +kernel)) ggX6_foretell_X0_hasJudge
set_option maxRecDepth 20000 in
theorem ggX6_foretell_X6_isIn : GoodIn wsX6_foretell wsX6_isIn := goodIn_r _ [13] (by decide +kernel) (by decide +kernel)
set_option maxRecDepth 20000 in
theorem gX6_foretell_X6_isIn : GoodIn wsX6_foretell (va_wsS RX6 72 yX6_isIn wsX6_isIn) := goodIn_app (goodIn_of _ (by decide +kernel)) ggX6_foretell_X6_isIn
set_option maxRecDepth 20000 in
theorem ggX6_foretell_X6_verdictNow : GoodIn wsX6_foretell wsX6_verdictNow := goodIn_r _ [23, 2, 24, 25, 26, 12, 27, 1, 28, 29, 30, 31, 32, 33, 34, 35, 36, 37, 38, 39, 40, 41, 42, 43, 44, 45, 46, 47, 48, 49, 50, 51, 52, 53, 54, 55, 56, 57, 58, 59, 60, 61, 62, 63, 64, 65, 66, 67, 68, 69, 70, 71, 72, 73, 74, 75, 76, 77, 78, 79, 80, 81, 82, 83, 84, 85, 86, 87, 88, 89, 90, 91, 92, 93, 94, 95, 96, 97, 98, 99, 100, 101, 102, 103] (by decide +kernel) (by decide +kernel)
set_option maxRecDepth 20000 in
theorem gX6_foretell_X6_verdictNow : GoodIn wsX6_foretell (wsV RX6 204 RX6 yX6_verdictNow wsX6_verdictNow) := goodIn_app (goodIn_of _ (by decide +kernel)) ggX6_foretell_X6_verdictNow
set_option maxRecDepth 20000 in
theorem ggX6_runs_X6_isIn : GoodIn wsX6_runs wsX6_isIn := goodIn_r _ [11] (by decide +kernel) (by decide +kernel)
set_option maxRecDepth 20000 in
theorem gX6_runs_X6_isIn : GoodIn wsX6_runs (va_wsS RX6 72 yX6_isIn wsX6_isIn) := goodIn_app (goodIn_of _ (by decide +kernel)) ggX6_runs_X6_isIn
set_option maxRecDepth 20000 in
theorem ggX6_runs_X3_goByDocket : GoodIn wsX6_runs wsX3_goByDocket := goodIn_r _ [16, 17, 18, 19, 20, 21, 22, 23, 24, 25, 10, 26, 27, 28, 29, 30, 31, 32, 33, 34, 35, 36, 37, 38, 39, 40, 41, 42, 43, 44, 45, 46, 47, 48, 49, 50, 51, 52, 53, 54, 55, 56, 57, 58, 59, 60, 61, 62, 63, 64, 65, 66, 67, 68, 69, 70, 71, 72, 73, 92, 93, 94, 95, 96, 97, 98, 99, 100, 101, 102, 103, 104, 105, 106, 107, 108, 89, 90, 91, 109, 110, 111, 112, 113, 114, 115] (by decide +kernel) (by decide +kernel)
set_option maxRecDepth 20000 in
theorem gX6_runs_X3_goByDocket : GoodIn wsX6_runs (wsV RX6 210 RX3 yX3_goByDocket wsX3_goByDocket) := goodIn_app (goodIn_of _ (by decide +kernel)) ggX6_runs_X3_goByDocket
set_option maxRecDepth 20000 in
theorem ggX6_runs_X6_bitsOf : GoodIn wsX6_runs wsX6_bitsOf := goodIn_r _ [76] (by decide +kernel) (by decide +kernel)
set_option maxRecDepth 20000 in
theorem gX6_runs_X6_bitsOf : GoodIn wsX6_runs (va_wsS RX6 125 yX6_bitsOf wsX6_bitsOf) := goodIn_app (goodIn_of _ (by decide +kernel)) ggX6_runs_X6_bitsOf
set_option maxRecDepth 20000 in
theorem ggX6_ahead_X0_hasCase : GoodIn wsX6_ahead wsX0_hasCase := goodIn_r _ [9, 10, 11, 12, 13, 91, 92, 93, 94, 95, 96, 97, 98, 99, 100, 101, 102, 103, 104, 105, 106, 107] (by decide +kernel) (by decide +kernel)
set_option maxRecDepth 20000 in
theorem gX6_ahead_X0_hasCase : GoodIn wsX6_ahead (wsV RX6 149 RX0 yX0_hasCase wsX0_hasCase) := goodIn_app (goodIn_of _ (by decide +kernel)) ggX6_ahead_X0_hasCase
set_option maxRecDepth 20000 in
theorem ggX6_ahead_X3_goByDocket : GoodIn wsX6_ahead wsX3_goByDocket := goodIn_r _ [18, 19, 20, 21, 22, 23, 24, 25, 26, 27, 12, 28, 29, 30, 31, 32, 33, 34, 35, 36, 37, 38, 39, 40, 41, 42, 43, 44, 45, 46, 47, 48, 49, 50, 51, 52, 53, 54, 55, 56, 57, 58, 59, 60, 61, 62, 63, 64, 65, 66, 67, 68, 69, 70, 71, 72, 73, 74, 75, 91, 92, 93, 94, 95, 96, 97, 98, 99, 100, 101, 102, 103, 104, 105, 106, 107, 88, 89, 90, 108, 109, 110, 111, 112, 113, 114] (by decide +kernel) (by decide +kernel)
set_option maxRecDepth 20000 in
theorem gX6_ahead_X3_goByDocket : GoodIn wsX6_ahead (wsV RX6 210 RX3 yX3_goByDocket wsX3_goByDocket) := goodIn_app (goodIn_of _ (by decide +kernel)) ggX6_ahead_X3_goByDocket
set_option maxRecDepth 20000 in
theorem ggX6_friends_X6_isFlame : GoodIn wsX6_friends wsX6_isFlame := goodIn_r _ [5, 6, 7, 8, 9, 10, 11, 12, 13, 4, 14, 15, 16, 17, 18, 73, 74, 75, 76, 77, 78, 79, 80, 81, 82, 83, 84, 85, 86, 87, 88, 89, 90, 91, 92, 93, 94, 95, 96, 97, 98, 99, 100, 101] (by decide +kernel) (by decide +kernel)
set_option maxRecDepth 20000 in
theorem gX6_friends_X6_isFlame : GoodIn wsX6_friends (wsV RX6 136 RX6 yX6_isFlame wsX6_isFlame) := goodIn_app (goodIn_of _ (by decide +kernel)) ggX6_friends_X6_isFlame
set_option maxRecDepth 20000 in
theorem ggX6_friends_X6_judgesFor : GoodIn wsX6_friends wsX6_judgesFor := goodIn_r _ [22, 6, 23, 24, 25, 26, 4, 27, 28, 29, 30, 31, 32, 33, 34, 35, 36, 37, 38, 39, 40, 41, 42, 43, 44, 45, 46, 47, 48, 49, 50, 51, 52, 53, 54, 55, 56, 57, 58, 59, 60, 61, 62, 63, 64, 65, 66, 67, 68, 69, 70, 71, 72, 73, 74, 75, 76, 77, 78, 79, 80, 81, 82, 83, 84, 85, 86, 87, 88, 89, 90, 91, 92, 93, 94, 95, 96, 97, 98, 99, 100, 101, 102, 103, 104, 105, 106, 107, 108] (by decide +kernel) (by decide +kernel)
set_option maxRecDepth 20000 in
theorem gX6_friends_X6_judgesFor : GoodIn wsX6_friends (wsV RX6 221 RX6 yX6_judgesFor wsX6_judgesFor) := goodIn_app (goodIn_of _ (by decide +kernel)) ggX6_friends_X6_judgesFor
set_option maxRecDepth 20000 in
theorem ggX6_wax_X6_firstThatWins : GoodIn wsX6_wax wsX6_firstThatWins := goodIn_r _ [5, 6, 7, 8, 9, 10, 11, 4, 12, 13, 14, 15, 16, 17, 18, 19, 20, 21, 22, 23, 24, 25, 26, 27, 28, 29, 30, 31, 32, 33, 34, 35, 36, 37, 38, 39, 40, 41, 42, 43, 44, 45, 46, 47, 48, 49, 50, 51, 52, 53, 54, 55, 56, 57, 58, 59, 60, 61, 62, 63, 64, 65, 66, 67, 68, 69, 70, 71, 72, 73, 74, 75, 76, 77, 78, 79, 80, 81, 82, 83, 84, 85, 86, 87, 88, 89, 90, 91, 92, 93, 94, 95, 96, 97, 98, 99, 100, 101, 102, 103, 104, 105, 106, 107, 108, 109, 110, 111, 112, 113] (by decide +kernel) (by decide +kernel)
set_option maxRecDepth 20000 in
theorem gX6_wax_X6_firstThatWins : GoodIn wsX6_wax (wsV RX6 224 RX6 yX6_firstThatWins wsX6_firstThatWins) := goodIn_app (goodIn_of _ (by decide +kernel)) ggX6_wax_X6_firstThatWins
set_option maxRecDepth 20000 in
theorem ggX6_least_X6_firstThatWins : GoodIn wsX6_least wsX6_firstThatWins := goodIn_r _ [5, 6, 7, 8, 9, 10, 11, 4, 12, 13, 14, 15, 16, 17, 18, 19, 20, 21, 22, 23, 24, 25, 26, 27, 28, 29, 30, 31, 32, 33, 34, 35, 36, 37, 38, 39, 40, 41, 42, 43, 44, 45, 46, 47, 48, 49, 50, 51, 52, 53, 54, 55, 56, 57, 58, 59, 60, 61, 62, 63, 64, 65, 66, 67, 68, 69, 70, 71, 72, 73, 74, 75, 76, 77, 78, 79, 80, 81, 82, 83, 84, 85, 86, 87, 88, 89, 90, 91, 92, 93, 94, 95, 96, 97, 98, 99, 100, 101, 102, 103, 104, 105, 106, 107, 108, 109, 110, 111, 112, 113] (by decide +kernel) (by decide +kernel)
set_option maxRecDepth 20000 in
theorem gX6_least_X6_firstThatWins : GoodIn wsX6_least (wsV RX6 224 RX6 yX6_firstThatWins wsX6_firstThatWins) := goodIn_app (goodIn_of _ (by decide +kernel)) ggX6_least_X6_firstThatWins
set_option maxRecDepth 20000 in
theorem ggX6_hand_X6_firstThatWins : GoodIn wsX6_hand wsX6_firstThatWins := goodIn_r _ [5, 6, 7, 8, 9, 10, 11, 4, 12, 13, 14, 15, 16, 17, 18, 19, 20, 21, 22, 23, 24, 25, 26, 27, 28, 29, 30, 31, 32, 33, 34, 35, 36, 37, 38, 39, 40, 41, 42, 43, 44, 45, 46, 47, 48, 49, 50, 51, 52, 53, 54, 55, 56, 57, 58, 59, 60, 61, 62, 63, 64, 65, 66, 67, 68, 69, 70, 71, 72, 73, 74, 75, 76, 77, 78, 79, 80, 81, 82, 83, 84, 85, 86, 87, 88, 89, 90, 91, 92, 93, 94, 95, 96, 97, 98, 99, 100, 101, 102, 103, 104, 105, 106, 107, 108, 109, 110, 111, 112, 113] (by decide +kernel) (by decide +kernel)
set_option maxRecDepth 20000 in
theorem gX6_hand_X6_firstThatWins : GoodIn wsX6_hand (wsV RX6 224 RX6 yX6_firstThatWins wsX6_firstThatWins) := goodIn_app (goodIn_of _ (by decide +kernel)) ggX6_hand_X6_firstThatWins
set_option maxRecDepth 20000 in
theorem ggX6_turn_X0_hasCase : GoodIn wsX6_turn wsX0_hasCase := goodIn_r _ [7, 8, 9, 10, 11, 79, 80, 81, 82, 83, 84, 85, 86, 87, 88, 89, 90, 91, 92, 93, 94, 95] (by decide +kernel) (by decide +kernel)
set_option maxRecDepth 20000 in
theorem gX6_turn_X0_hasCase : GoodIn wsX6_turn (wsV RX6 149 RX0 yX0_hasCase wsX0_hasCase) := goodIn_app (goodIn_of _ (by decide +kernel)) ggX6_turn_X0_hasCase
set_option maxRecDepth 20000 in
theorem ggX6_turn_X0_hasJudge : GoodIn wsX6_turn wsX0_hasJudge := goodIn_r _ [15, 16, 9, 10, 11, 79, 80, 81, 82, 83, 84, 85, 86, 87, 88, 89, 90, 91, 92, 93, 94, 95] (by decide +kernel) (by decide +kernel)
set_option maxRecDepth 20000 in
theorem gX6_turn_X0_hasJudge : GoodIn wsX6_turn (wsV RX6 162 RX0 yX0_hasJudge wsX0_hasJudge) := goodIn_app (goodIn_of _ (by decide +kernel)) ggX6_turn_X0_hasJudge
set_option maxRecDepth 20000 in
theorem ggX6_turn_X6_isIn : GoodIn wsX6_turn wsX6_isIn := goodIn_r _ [11] (by decide +kernel) (by decide +kernel)
set_option maxRecDepth 20000 in
theorem gX6_turn_X6_isIn : GoodIn wsX6_turn (va_wsS RX6 72 yX6_isIn wsX6_isIn) := goodIn_app (goodIn_of _ (by decide +kernel)) ggX6_turn_X6_isIn
set_option maxRecDepth 20000 in
theorem ggX6_turn_X6_verdictNow : GoodIn wsX6_turn wsX6_verdictNow := goodIn_r _ [21, 2, 22, 23, 24, 10, 25, 1, 26, 27, 28, 29, 30, 31, 32, 33, 34, 35, 36, 37, 38, 39, 40, 41, 42, 43, 44, 45, 46, 47, 48, 49, 50, 51, 52, 53, 54, 55, 56, 57, 58, 59, 60, 61, 62, 63, 64, 65, 67, 68, 69, 70, 71, 72, 73, 74, 75, 76, 77, 78, 96, 97, 98, 99, 100, 101, 102, 79, 80, 81, 82, 83, 84, 85, 86, 87, 88, 89, 90, 91, 92, 93, 94, 95] (by decide +kernel) (by decide +kernel)
set_option maxRecDepth 20000 in
theorem gX6_turn_X6_verdictNow : GoodIn wsX6_turn (wsV RX6 204 RX6 yX6_verdictNow wsX6_verdictNow) := goodIn_app (goodIn_of _ (by decide +kernel)) ggX6_turn_X6_verdictNow
set_option maxRecDepth 20000 in
theorem ggX6_turn_X6_prepare : GoodIn wsX6_turn wsX6_prepare := goodIn_r _ [25, 2, 1, 26, 27, 28, 29, 30, 31, 32, 33, 34, 35, 36, 37, 38, 39, 40, 41, 42, 43, 44, 45, 46, 47, 48, 49, 50, 51, 52, 67, 68, 69, 70, 71, 72, 73, 74, 75, 76, 77, 78, 96, 97, 98, 99, 100, 101, 102, 79, 80, 81, 82, 83, 84, 85, 86, 87, 88, 89, 90, 91, 92, 93, 94, 95] (by decide +kernel) (by decide +kernel)
set_option maxRecDepth 20000 in
theorem gX6_turn_X6_prepare : GoodIn wsX6_turn (wsV RX6 228 RX6 yX6_prepare wsX6_prepare) := goodIn_app (goodIn_of _ (by decide +kernel)) ggX6_turn_X6_prepare
set_option maxRecDepth 20000 in
theorem ggX6_turn_X5_blows : GoodIn wsX6_turn wsX5_blows := goodIn_r _ [48, 41, 49, 50, 51, 52, 96, 97, 98, 99, 100, 101, 102] (by decide +kernel) (by decide +kernel)
set_option maxRecDepth 20000 in
theorem gX6_turn_X5_blows : GoodIn wsX6_turn (wsV RX6 232 RX5 yX5_blows wsX5_blows) := goodIn_app (goodIn_of _ (by decide +kernel)) ggX6_turn_X5_blows
set_option maxRecDepth 20000 in
theorem ggX6_turn_X5_verdictHeld : GoodIn wsX6_turn wsX5_verdictHeld := goodIn_r _ [56, 57, 40, 33, 31, 49, 50, 51, 52, 58, 59, 60, 29, 61, 35, 41, 62, 63, 64, 65, 38, 96, 97, 98, 99, 100, 101, 102] (by decide +kernel) (by decide +kernel)
set_option maxRecDepth 20000 in
theorem gX6_turn_X5_verdictHeld : GoodIn wsX6_turn (wsV RX6 236 RX5 yX5_verdictHeld wsX5_verdictHeld) := goodIn_app (goodIn_of _ (by decide +kernel)) ggX6_turn_X5_verdictHeld
set_option maxRecDepth 20000 in
theorem ggX6_sure_X6_isFlame : GoodIn wsX6_sure wsX6_isFlame := goodIn_r _ [6, 1, 7, 8, 9, 10, 11, 12, 13, 5, 14, 15, 16, 17, 18, 82, 83, 84, 85, 86, 87, 88, 89, 90, 91, 92, 93, 94, 95, 96, 97, 98, 99, 100, 101, 102, 103, 104, 105, 106, 107, 108, 109, 110] (by decide +kernel) (by decide +kernel)
set_option maxRecDepth 20000 in
theorem gX6_sure_X6_isFlame : GoodIn wsX6_sure (wsV RX6 136 RX6 yX6_isFlame wsX6_isFlame) := goodIn_app (goodIn_of _ (by decide +kernel)) ggX6_sure_X6_isFlame
set_option maxRecDepth 20000 in
theorem ggX6_sure_X0_hasJudge : GoodIn wsX6_sure wsX0_hasJudge := goodIn_r _ [22, 23, 13, 5, 14, 94, 95, 96, 97, 98, 99, 100, 101, 102, 103, 104, 105, 106, 107, 108, 109, 110] (by decide +kernel) (by decide +kernel)
set_option maxRecDepth 20000 in
theorem gX6_sure_X0_hasJudge : GoodIn wsX6_sure (wsV RX6 162 RX0 yX0_hasJudge wsX0_hasJudge) := goodIn_app (goodIn_of _ (by decide +kernel)) ggX6_sure_X0_hasJudge
set_option maxRecDepth 20000 in
theorem ggX6_sure_X6_fillVerdictsByGuards : GoodIn wsX6_sure wsX6_fillVerdictsByGuards := goodIn_r _ [27, 28, 29, 30, 31, 32, 5, 33, 1, 34, 35, 36, 37, 38, 39, 40, 41, 42, 43, 44, 45, 46, 47, 48, 49, 50, 51, 52, 53, 54, 55, 56, 57, 58, 59, 60, 61, 62, 63, 64, 65, 66, 67, 68, 69, 70, 71, 72, 73, 74, 75, 76, 77, 82, 83, 84, 85, 86, 87, 88, 89, 90, 91, 92, 93, 111, 112, 113, 114, 115, 116, 117, 94, 95, 96, 97, 98, 99, 100, 101, 102, 103, 104, 105, 106, 107, 108, 109, 110] (by decide +kernel) (by decide +kernel)
set_option maxRecDepth 20000 in
theorem gX6_sure_X6_fillVerdictsByGuards : GoodIn wsX6_sure (wsV RX6 240 RX6 yX6_fillVerdictsByGuards wsX6_fillVerdictsByGuards) := goodIn_app (goodIn_of _ (by decide +kernel)) ggX6_sure_X6_fillVerdictsByGuards
set_option maxRecDepth 20000 in
theorem ggX6_sure_X6_winsWhateverTheOther : GoodIn wsX6_sure wsX6_winsWhateverTheOther := goodIn_r _ [81, 29, 82, 83, 84, 85, 86, 87, 88, 89, 90, 91, 92, 93] (by decide +kernel) (by decide +kernel)
set_option maxRecDepth 20000 in
theorem gX6_sure_X6_winsWhateverTheOther : GoodIn wsX6_sure (wsV RX6 243 RX6 yX6_winsWhateverTheOther wsX6_winsWhateverTheOther) := goodIn_app (goodIn_of _ (by decide +kernel)) ggX6_sure_X6_winsWhateverTheOther
set_option maxRecDepth 20000 in
theorem ggX6_rest_X0_hasCase : GoodIn wsX6_rest wsX0_hasCase := goodIn_r _ [6, 7, 8, 9, 10, 90, 91, 92, 93, 94, 95, 96, 97, 98, 99, 100, 101, 102, 103, 104, 105, 106] (by decide +kernel) (by decide +kernel)
set_option maxRecDepth 20000 in
theorem gX6_rest_X0_hasCase : GoodIn wsX6_rest (wsV RX6 149 RX0 yX0_hasCase wsX0_hasCase) := goodIn_app (goodIn_of _ (by decide +kernel)) ggX6_rest_X0_hasCase
set_option maxRecDepth 20000 in
theorem ggX6_rest_X0_hasJudge : GoodIn wsX6_rest wsX0_hasJudge := goodIn_r _ [14, 15, 8, 9, 10, 90, 91, 92, 93, 94, 95, 96, 97, 98, 99, 100, 101, 102, 103, 104, 105, 106] (by decide +kernel) (by decide +kernel)
set_option maxRecDepth 20000 in
theorem gX6_rest_X0_hasJudge : GoodIn wsX6_rest (wsV RX6 162 RX0 yX0_hasJudge wsX0_hasJudge) := goodIn_app (goodIn_of _ (by decide +kernel)) ggX6_rest_X0_hasJudge
set_option maxRecDepth 20000 in
theorem ggX6_rest_X6_isIn : GoodIn wsX6_rest wsX6_isIn := goodIn_r _ [10] (by decide +kernel) (by decide +kernel)
set_option maxRecDepth 20000 in
theorem gX6_rest_X6_isIn : GoodIn wsX6_rest (va_wsS RX6 72 yX6_isIn wsX6_isIn) := goodIn_app (goodIn_of _ (by decide +kernel)) ggX6_rest_X6_isIn
set_option maxRecDepth 20000 in
theorem ggX6_rest_X6_fillVerdictsByGuards : GoodIn wsX6_rest wsX6_fillVerdictsByGuards := goodIn_r _ [20, 21, 22, 23, 24, 25, 9, 26, 1, 27, 28, 29, 30, 31, 32, 33, 34, 35, 36, 37, 38, 39, 40, 41, 42, 43, 44, 45, 46, 47, 48, 49, 50, 51, 52, 53, 54, 55, 56, 57, 58, 59, 60, 61, 62, 63, 64, 65, 66, 67, 68, 69, 70, 78, 79, 80, 81, 82, 83, 84, 85, 86, 87, 88, 89, 107, 108, 109, 110, 111, 112, 113, 90, 91, 92, 93, 94, 95, 96, 97, 98, 99, 100, 101, 102, 103, 104, 105, 106] (by decide +kernel) (by decide +kernel)
set_option maxRecDepth 20000 in
theorem gX6_rest_X6_fillVerdictsByGuards : GoodIn wsX6_rest (wsV RX6 240 RX6 yX6_fillVerdictsByGuards wsX6_fillVerdictsByGuards) := goodIn_app (goodIn_of _ (by decide +kernel)) ggX6_rest_X6_fillVerdictsByGuards
set_option maxRecDepth 20000 in
theorem ggX6_rest_X6_isAtRest : GoodIn wsX6_rest wsX6_isAtRest := goodIn_r _ [74, 22, 75, 76, 9, 77, 78, 79, 80, 81, 82, 83, 84, 85, 86, 87, 88, 89] (by decide +kernel) (by decide +kernel)
set_option maxRecDepth 20000 in
theorem gX6_rest_X6_isAtRest : GoodIn wsX6_rest (wsV RX6 246 RX6 yX6_isAtRest wsX6_isAtRest) := goodIn_app (goodIn_of _ (by decide +kernel)) ggX6_rest_X6_isAtRest
set_option maxRecDepth 20000 in
theorem ggX6_share_X6_isSide : GoodIn wsX6_share wsX6_isSide := goodIn_r _ [7, 8, 9, 6, 10] (by decide +kernel) (by decide +kernel)
set_option maxRecDepth 20000 in
theorem gX6_share_X6_isSide : GoodIn wsX6_share (va_wsS RX6 249 yX6_isSide wsX6_isSide) := goodIn_app (goodIn_of _ (by decide +kernel)) ggX6_share_X6_isSide
set_option maxRecDepth 20000 in
theorem ggX6_share_X0_hasCase : GoodIn wsX6_share wsX0_hasCase := goodIn_r _ [15, 16, 9, 6, 10, 97, 98, 99, 100, 101, 102, 103, 104, 105, 106, 107, 108, 109, 110, 111, 112, 113] (by decide +kernel) (by decide +kernel)
set_option maxRecDepth 20000 in
theorem gX6_share_X0_hasCase : GoodIn wsX6_share (wsV RX6 149 RX0 yX0_hasCase wsX0_hasCase) := goodIn_app (goodIn_of _ (by decide +kernel)) ggX6_share_X0_hasCase
set_option maxRecDepth 20000 in
theorem ggX6_share_X6_casesThatMayBeWon : GoodIn wsX6_share wsX6_casesThatMayBeWon := goodIn_r _ [20, 1, 21, 22, 23, 24, 25, 6, 26, 3, 27, 28, 29, 30, 31, 32, 33, 34, 35, 36, 37, 38, 39, 40, 41, 42, 43, 44, 45, 46, 47, 48, 49, 50, 51, 52, 53, 54, 55, 56, 57, 58, 59, 60, 61, 62, 63, 64, 65, 66, 67, 68, 69, 70, 71, 72, 73, 74, 75, 85, 86, 87, 88, 89, 90, 91, 92, 93, 94, 95, 96, 97, 98, 99, 100, 101, 102, 103, 104, 105, 106, 107, 108, 109, 110, 111, 112, 113, 114, 115, 116, 117, 118, 119, 120] (by decide +kernel) (by decide +kernel)
set_option maxRecDepth 20000 in
theorem gX6_share_X6_casesThatMayBeWon : GoodIn wsX6_share (wsV RX6 254 RX6 yX6_casesThatMayBeWon wsX6_casesThatMayBeWon) := goodIn_app (goodIn_of _ (by decide +kernel)) ggX6_share_X6_casesThatMayBeWon
set_option maxRecDepth 20000 in
theorem ggX6_share_X6_bestJudge : GoodIn wsX6_share wsX6_bestJudge := goodIn_r _ [79, 1, 22, 23, 24, 25, 6, 26, 3, 27, 28, 29, 30, 31, 32, 33, 34, 35, 36, 37, 38, 39, 40, 41, 42, 43, 44, 45, 46, 47, 48, 49, 50, 51, 52, 53, 54, 55, 56, 57, 58, 59, 60, 61, 62, 63, 64, 65, 66, 67, 68, 69, 70, 71, 72, 73, 74, 75, 80, 81, 82, 83, 84, 85, 86, 87, 88, 89, 90, 91, 92, 93, 94, 95, 96, 97, 98, 99, 100, 101, 102, 103, 104, 105, 106, 107, 108, 109, 110, 111, 112, 113, 114, 115, 116, 117, 118, 119, 120] (by decide +kernel) (by decide +kernel)
set_option maxRecDepth 20000 in
theorem gX6_share_X6_bestJudge : GoodIn wsX6_share (wsV RX6 258 RX6 yX6_bestJudge wsX6_bestJudge) := goodIn_app (goodIn_of _ (by decide +kernel)) ggX6_share_X6_bestJudge
set_option maxRecDepth 20000 in
theorem ggX6_swap_X6_isSide : GoodIn wsX6_swap wsX6_isSide := goodIn_r _ [6, 7, 8, 5, 9] (by decide +kernel) (by decide +kernel)
set_option maxRecDepth 20000 in
theorem gX6_swap_X6_isSide : GoodIn wsX6_swap (va_wsS RX6 249 yX6_isSide wsX6_isSide) := goodIn_app (goodIn_of _ (by decide +kernel)) ggX6_swap_X6_isSide
set_option maxRecDepth 20000 in
theorem ggX6_swap_X6_isIn : GoodIn wsX6_swap wsX6_isIn := goodIn_r _ [9] (by decide +kernel) (by decide +kernel)
set_option maxRecDepth 20000 in
theorem gX6_swap_X6_isIn : GoodIn wsX6_swap (va_wsS RX6 72 yX6_isIn wsX6_isIn) := goodIn_app (goodIn_of _ (by decide +kernel)) ggX6_swap_X6_isIn
set_option maxRecDepth 20000 in
theorem ggX6_swap_X6_wonByDocket : GoodIn wsX6_swap wsX6_wonByDocket := goodIn_r _ [13, 14, 1, 15, 16, 17, 18, 19, 20, 21, 22, 23, 24, 25, 26, 27, 28, 29, 30, 31, 5, 32, 33, 34, 35, 36, 37, 38, 39, 40, 41, 42, 43, 44, 45, 46, 47, 48, 49, 50, 51, 52, 53, 54, 55, 56, 57, 58, 59, 60, 61, 62, 63, 64, 65, 66, 67, 68, 69, 70, 71, 72, 73, 74, 75, 76, 77, 78, 79, 80, 81, 82, 83, 84, 85, 86, 87, 88, 89, 96, 97, 98, 99, 100, 101, 102, 103, 104, 105, 106, 107, 125, 126, 127, 108, 109, 110, 111, 112, 113, 114, 115, 116, 117, 118, 119, 120, 121, 122, 123, 124, 128, 129, 130, 131, 132, 133, 134] (by decide +kernel) (by decide +kernel)
set_option maxRecDepth 20000 in
theorem gX6_swap_X6_wonByDocket : GoodIn wsX6_swap (wsV RX6 261 RX6 yX6_wonByDocket wsX6_wonByDocket) := goodIn_app (goodIn_of _ (by decide +kernel)) ggX6_swap_X6_wonByDocket
set_option maxRecDepth 20000 in
theorem ggX6_swap_X0_changeDocketJudges : GoodIn wsX6_swap wsX0_changeDocketJudges := goodIn_r _ [94, 95, 108, 109, 110, 111, 112, 113, 114, 115, 116, 117, 118, 119, 120, 121, 122, 123, 124] (by decide +kernel) (by decide +kernel)
set_option maxRecDepth 20000 in
theorem gX6_swap_X0_changeDocketJudges : GoodIn wsX6_swap (wsV RX6 264 RX0 yX0_changeDocketJudges wsX0_changeDocketJudges) := goodIn_app (goodIn_of _ (by decide +kernel)) ggX6_swap_X0_changeDocketJudges
set_option maxRecDepth 20000 in
theorem ggX6_luck_X6_isIn : GoodIn wsX6_luck wsX6_isIn := goodIn_r _ [8] (by decide +kernel) (by decide +kernel)
set_option maxRecDepth 20000 in
theorem gX6_luck_X6_isIn : GoodIn wsX6_luck (va_wsS RX6 72 yX6_isIn wsX6_isIn) := goodIn_app (goodIn_of _ (by decide +kernel)) ggX6_luck_X6_isIn
set_option maxRecDepth 20000 in
theorem ggX6_luck_X6_isFlame : GoodIn wsX6_luck wsX6_isFlame := goodIn_r _ [12, 1, 13, 14, 15, 16, 17, 18, 6, 7, 8, 19, 20, 21, 5, 83, 84, 85, 86, 87, 88, 89, 90, 91, 92, 93, 94, 95, 96, 97, 98, 99, 100, 101, 102, 103, 104, 105, 106, 107, 108, 109, 110, 111] (by decide +kernel) (by decide +kernel)
set_option maxRecDepth 20000 in
theorem gX6_luck_X6_isFlame : GoodIn wsX6_luck (wsV RX6 136 RX6 yX6_isFlame wsX6_isFlame) := goodIn_app (goodIn_of _ (by decide +kernel)) ggX6_luck_X6_isFlame
set_option maxRecDepth 20000 in
theorem ggX6_luck_X0_hasJudge : GoodIn wsX6_luck wsX0_hasJudge := goodIn_r _ [25, 26, 6, 7, 8, 95, 96, 97, 98, 99, 100, 101, 102, 103, 104, 105, 106, 107, 108, 109, 110, 111] (by decide +kernel) (by decide +kernel)
set_option maxRecDepth 20000 in
theorem gX6_luck_X0_hasJudge : GoodIn wsX6_luck (wsV RX6 162 RX0 yX0_hasJudge wsX0_hasJudge) := goodIn_app (goodIn_of _ (by decide +kernel)) ggX6_luck_X0_hasJudge
set_option maxRecDepth 20000 in
theorem ggX6_luck_X6_prepare : GoodIn wsX6_luck wsX6_prepare := goodIn_r _ [30, 4, 1, 31, 32, 33, 34, 35, 36, 37, 38, 39, 40, 41, 42, 43, 44, 45, 46, 47, 48, 49, 50, 51, 52, 53, 54, 55, 56, 57, 83, 84, 85, 86, 87, 88, 89, 90, 91, 92, 93, 94, 112, 113, 114, 115, 116, 117, 118, 95, 96, 97, 98, 99, 100, 101, 102, 103, 104, 105, 106, 107, 108, 109, 110, 111] (by decide +kernel) (by decide +kernel)
set_option maxRecDepth 20000 in
theorem gX6_luck_X6_prepare : GoodIn wsX6_luck (wsV RX6 228 RX6 yX6_prepare wsX6_prepare) := goodIn_app (goodIn_of _ (by decide +kernel)) ggX6_luck_X6_prepare
set_option maxRecDepth 20000 in
theorem ggX6_luck_X5_verdictHeld : GoodIn wsX6_luck wsX5_verdictHeld := goodIn_r _ [61, 62, 45, 38, 36, 54, 55, 56, 57, 63, 64, 65, 34, 66, 40, 46, 67, 68, 69, 70, 43, 112, 113, 114, 115, 116, 117, 118] (by decide +kernel) (by decide +kernel)
set_option maxRecDepth 20000 in
theorem gX6_luck_X5_verdictHeld : GoodIn wsX6_luck (wsV RX6 236 RX5 yX5_verdictHeld wsX5_verdictHeld) := goodIn_app (goodIn_of _ (by decide +kernel)) ggX6_luck_X5_verdictHeld
set_option maxRecDepth 20000 in
theorem ggX6_luck_X6_weightOf : GoodIn wsX6_luck wsX6_weightOf := goodIn_r _ [74, 1, 3, 83, 84, 85, 86, 87, 88, 89, 90, 91, 92, 93, 94, 95, 96, 97, 98, 99, 100, 101, 102, 103, 104, 105, 106, 107, 108, 109, 110, 111] (by decide +kernel) (by decide +kernel)
set_option maxRecDepth 20000 in
theorem gX6_luck_X6_weightOf : GoodIn wsX6_luck (wsV RX6 269 RX6 yX6_weightOf wsX6_weightOf) := goodIn_app (goodIn_of _ (by decide +kernel)) ggX6_luck_X6_weightOf
set_option maxRecDepth 20000 in
theorem ggX6_luck_X6_tenths : GoodIn wsX6_luck wsX6_tenths := goodIn_r _ [78, 1, 3, 79, 83, 84, 85, 86, 87, 88, 89, 90, 91, 92, 93, 94, 95, 96, 97, 98, 99, 100, 101, 102, 103, 104, 105, 106, 107, 108, 109, 110, 111] (by decide +kernel) (by decide +kernel)
set_option maxRecDepth 20000 in
theorem gX6_luck_X6_tenths : GoodIn wsX6_luck (wsV RX6 273 RX6 yX6_tenths wsX6_tenths) := goodIn_app (goodIn_of _ (by decide +kernel)) ggX6_luck_X6_tenths
set_option maxRecDepth 20000 in
theorem ggX6_luck_X6_inLowestTerms : GoodIn wsX6_luck wsX6_inLowestTerms := goodIn_r _ [82, 2] (by decide +kernel) (by decide +kernel)
set_option maxRecDepth 20000 in
theorem gX6_luck_X6_inLowestTerms : GoodIn wsX6_luck (va_wsS RX6 277 yX6_inLowestTerms wsX6_inLowestTerms) := goodIn_app (goodIn_of _ (by decide +kernel)) ggX6_luck_X6_inLowestTerms
set_option maxRecDepth 20000 in
theorem ggX6_mean_X6_isIn : GoodIn wsX6_mean wsX6_isIn := goodIn_r _ [7] (by decide +kernel) (by decide +kernel)
set_option maxRecDepth 20000 in
theorem gX6_mean_X6_isIn : GoodIn wsX6_mean (va_wsS RX6 72 yX6_isIn wsX6_isIn) := goodIn_app (goodIn_of _ (by decide +kernel)) ggX6_mean_X6_isIn
set_option maxRecDepth 20000 in
theorem ggX6_mean_X6_isSide : GoodIn wsX6_mean wsX6_isSide := goodIn_r _ [10, 4, 5, 6, 7] (by decide +kernel) (by decide +kernel)
set_option maxRecDepth 20000 in
theorem gX6_mean_X6_isSide : GoodIn wsX6_mean (va_wsS RX6 249 yX6_isSide wsX6_isSide) := goodIn_app (goodIn_of _ (by decide +kernel)) ggX6_mean_X6_isSide
set_option maxRecDepth 20000 in
theorem ggX6_mean_X6_weightOf : GoodIn wsX6_mean wsX6_weightOf := goodIn_r _ [14, 2, 3, 103, 104, 105, 106, 107, 108, 109, 110, 111, 112, 113, 114, 115, 116, 117, 118, 119, 120, 121, 122, 123, 124, 125, 126, 127, 128, 129, 130, 131] (by decide +kernel) (by decide +kernel)
set_option maxRecDepth 20000 in
theorem gX6_mean_X6_weightOf : GoodIn wsX6_mean (wsV RX6 269 RX6 yX6_weightOf wsX6_weightOf) := goodIn_app (goodIn_of _ (by decide +kernel)) ggX6_mean_X6_weightOf
set_option maxRecDepth 20000 in
theorem ggX6_mean_X6_wonByDocket : GoodIn wsX6_mean wsX6_wonByDocket := goodIn_r _ [18, 19, 2, 20, 21, 22, 23, 24, 25, 26, 27, 28, 29, 30, 31, 32, 33, 34, 35, 36, 6, 37, 38, 39, 40, 41, 42, 43, 44, 45, 46, 47, 48, 49, 50, 51, 52, 53, 54, 55, 56, 57, 58, 59, 60, 61, 62, 63, 64, 65, 66, 67, 68, 69, 70, 71, 72, 73, 74, 75, 76, 77, 78, 79, 80, 81, 82, 83, 84, 85, 86, 87, 88, 89, 90, 91, 92, 93, 94, 103, 104, 105, 106, 107, 108, 109, 110, 111, 112, 113, 114, 132, 133, 134, 115, 116, 117, 118, 119, 120, 121, 122, 123, 124, 125, 126, 127, 128, 129, 130, 131, 135, 136, 137, 138, 139, 140, 141] (by decide +kernel) (by decide +kernel)
set_option maxRecDepth 20000 in
theorem gX6_mean_X6_wonByDocket : GoodIn wsX6_mean (wsV RX6 261 RX6 yX6_wonByDocket wsX6_wonByDocket) := goodIn_app (goodIn_of _ (by decide +kernel)) ggX6_mean_X6_wonByDocket
set_option maxRecDepth 20000 in
theorem ggX6_mean_X6_tenths : GoodIn wsX6_mean wsX6_tenths := goodIn_r _ [98, 2, 3, 99, 103, 104, 105, 106, 107, 108, 109, 110, 111, 112, 113, 114, 115, 116, 117, 118, 119, 120, 121, 122, 123, 124, 125, 126, 127, 128, 129, 130, 131] (by decide +kernel) (by decide +kernel)
set_option maxRecDepth 20000 in
theorem gX6_mean_X6_tenths : GoodIn wsX6_mean (wsV RX6 273 RX6 yX6_tenths wsX6_tenths) := goodIn_app (goodIn_of _ (by decide +kernel)) ggX6_mean_X6_tenths
set_option maxRecDepth 20000 in
theorem ggX6_mean_X6_inLowestTerms : GoodIn wsX6_mean wsX6_inLowestTerms := goodIn_r _ [102, 1] (by decide +kernel) (by decide +kernel)
set_option maxRecDepth 20000 in
theorem gX6_mean_X6_inLowestTerms : GoodIn wsX6_mean (va_wsS RX6 277 yX6_inLowestTerms wsX6_inLowestTerms) := goodIn_app (goodIn_of _ (by decide +kernel)) ggX6_mean_X6_inLowestTerms
set_option maxRecDepth 20000 in
theorem ggX6_see_X0_hasCase : GoodIn wsX6_see wsX0_hasCase := goodIn_r _ [8, 9, 10, 11, 12, 44, 45, 46, 47, 48, 49, 50, 51, 52, 53, 54, 55, 56, 57, 58, 59, 60] (by decide +kernel) (by decide +kernel)
set_option maxRecDepth 20000 in
theorem gX6_see_X0_hasCase : GoodIn wsX6_see (wsV RX6 149 RX0 yX0_hasCase wsX0_hasCase) := goodIn_app (goodIn_of _ (by decide +kernel)) ggX6_see_X0_hasCase
set_option maxRecDepth 20000 in
theorem ggX6_see_X0_hasJudge : GoodIn wsX6_see wsX0_hasJudge := goodIn_r _ [16, 17, 10, 11, 12, 44, 45, 46, 47, 48, 49, 50, 51, 52, 53, 54, 55, 56, 57, 58, 59, 60] (by decide +kernel) (by decide +kernel)
set_option maxRecDepth 20000 in
theorem gX6_see_X0_hasJudge : GoodIn wsX6_see (wsV RX6 162 RX0 yX0_hasJudge wsX0_hasJudge) := goodIn_app (goodIn_of _ (by decide +kernel)) ggX6_see_X0_hasJudge
set_option maxRecDepth 20000 in
theorem ggX6_see_X6_isIn : GoodIn wsX6_see wsX6_isIn := goodIn_r _ [12] (by decide +kernel) (by decide +kernel)
set_option maxRecDepth 20000 in
theorem gX6_see_X6_isIn : GoodIn wsX6_see (va_wsS RX6 72 yX6_isIn wsX6_isIn) := goodIn_app (goodIn_of _ (by decide +kernel)) ggX6_see_X6_isIn
set_option maxRecDepth 20000 in
theorem ggX6_see_X1_add : GoodIn wsX6_see wsX1_add := goodIn_r _ [23, 24, 25, 26, 27, 40, 41, 42, 43] (by decide +kernel) (by decide +kernel)
set_option maxRecDepth 20000 in
theorem gX6_see_X1_add : GoodIn wsX6_see (wsV RX6 281 RX1 yX1_add wsX1_add) := goodIn_app (goodIn_of _ (by decide +kernel)) ggX6_see_X1_add
set_option maxRecDepth 20000 in
theorem ggX6_forget_X6_isIn : GoodIn wsX6_forget wsX6_isIn := goodIn_r _ [6] (by decide +kernel) (by decide +kernel)
set_option maxRecDepth 20000 in
theorem gX6_forget_X6_isIn : GoodIn wsX6_forget (va_wsS RX6 72 yX6_isIn wsX6_isIn) := goodIn_app (goodIn_of _ (by decide +kernel)) ggX6_forget_X6_isIn
set_option maxRecDepth 20000 in
theorem ggX6_habits_X0_hasJudge : GoodIn wsX6_habits wsX0_hasJudge := goodIn_r _ [6, 7, 8, 9, 10, 81, 82, 83, 84, 85, 86, 87, 88, 89, 90, 91, 92, 93, 94, 95, 96, 97] (by decide +kernel) (by decide +kernel)
set_option maxRecDepth 20000 in
theorem gX6_habits_X0_hasJudge : GoodIn wsX6_habits (wsV RX6 162 RX0 yX0_hasJudge wsX0_hasJudge) := goodIn_app (goodIn_of _ (by decide +kernel)) ggX6_habits_X0_hasJudge
set_option maxRecDepth 20000 in
theorem ggX6_habits_X6_habitsAsSeen : GoodIn wsX6_habits wsX6_habitsAsSeen := goodIn_r _ [14, 15, 1, 16, 17, 18, 19, 20, 21, 22, 23, 24, 25, 26, 27, 28, 29, 30, 31, 32, 33, 34, 35, 36, 37, 38, 39, 40, 41, 42, 43, 44, 45, 46, 47, 48, 49, 50, 51, 52, 53, 54, 55, 56, 57, 58, 59, 60, 61, 62, 63, 64, 65, 66, 67, 68, 69, 70, 71, 72, 73, 74, 75, 76, 77, 78, 79, 80, 81, 82, 83, 84, 85, 86, 87, 88, 89, 90, 91, 92, 93, 94, 95, 96, 97, 98, 99, 100, 101, 102, 103, 104, 105, 106, 107, 108] (by decide +kernel) (by decide +kernel)
set_option maxRecDepth 20000 in
theorem gX6_habits_X6_habitsAsSeen : GoodIn wsX6_habits (wsV RX6 284 RX6 yX6_habitsAsSeen wsX6_habitsAsSeen) := goodIn_app (goodIn_of _ (by decide +kernel)) ggX6_habits_X6_habitsAsSeen
set_option maxRecDepth 20000 in
theorem ggX6_slows_X0_hasJudge : GoodIn wsX6_slows wsX0_hasJudge := goodIn_r _ [9, 10, 11, 12, 13, 77, 78, 79, 80, 81, 82, 83, 84, 85, 86, 87, 88, 89, 90, 91, 92, 93] (by decide +kernel) (by decide +kernel)
set_option maxRecDepth 20000 in
theorem gX6_slows_X0_hasJudge : GoodIn wsX6_slows (wsV RX6 162 RX0 yX0_hasJudge wsX0_hasJudge) := goodIn_app (goodIn_of _ (by decide +kernel)) ggX6_slows_X0_hasJudge
set_option maxRecDepth 20000 in
theorem ggX6_slows_X1_fits : GoodIn wsX6_slows wsX1_fits := goodIn_r _ [18, 19, 20, 21, 22, 23, 24, 25, 26, 27, 28, 29, 30, 31, 32, 33, 34, 35, 36, 37, 38, 39, 40, 41, 42, 43, 44, 45, 46, 47, 48, 49, 50, 51, 52, 53, 54, 55, 56, 57, 58, 59, 60, 61, 62, 63, 64, 94, 95, 96, 97, 98, 99, 100, 101, 102, 103, 104, 77, 78, 79, 80, 81, 82, 83, 84, 85, 86, 87, 88, 89, 90, 91, 92, 93] (by decide +kernel) (by decide +kernel)
set_option maxRecDepth 20000 in
theorem gX6_slows_X1_fits : GoodIn wsX6_slows (wsV RX6 287 RX1 yX1_fits wsX1_fits) := goodIn_app (goodIn_of _ (by decide +kernel)) ggX6_slows_X1_fits
set_option maxRecDepth 20000 in
theorem ggX6_ask_X0_hasJudge : GoodIn wsX6_ask wsX0_hasJudge := goodIn_r _ [7, 8, 9, 10, 11, 102, 103, 104, 105, 106, 107, 108, 109, 110, 111, 112, 113, 114, 115, 116, 117, 118] (by decide +kernel) (by decide +kernel)
set_option maxRecDepth 20000 in
theorem gX6_ask_X0_hasJudge : GoodIn wsX6_ask (wsV RX6 162 RX0 yX0_hasJudge wsX0_hasJudge) := goodIn_app (goodIn_of _ (by decide +kernel)) ggX6_ask_X0_hasJudge
set_option maxRecDepth 20000 in
theorem ggX6_ask_X6_isIn : GoodIn wsX6_ask wsX6_isIn := goodIn_r _ [11] (by decide +kernel) (by decide +kernel)
set_option maxRecDepth 20000 in
theorem gX6_ask_X6_isIn : GoodIn wsX6_ask (va_wsS RX6 72 yX6_isIn wsX6_isIn) := goodIn_app (goodIn_of _ (by decide +kernel)) ggX6_ask_X6_isIn
set_option maxRecDepth 20000 in
theorem ggX6_ask_X6_habitsAsSeen : GoodIn wsX6_ask wsX6_habitsAsSeen := goodIn_r _ [16, 17, 1, 18, 19, 20, 21, 22, 23, 24, 25, 26, 27, 28, 29, 30, 31, 32, 33, 34, 35, 36, 37, 38, 39, 40, 41, 42, 43, 44, 45, 46, 47, 48, 49, 50, 51, 52, 53, 54, 55, 56, 57, 58, 59, 60, 61, 62, 63, 64, 65, 66, 67, 68, 69, 70, 90, 91, 92, 93, 94, 95, 96, 97, 98, 99, 100, 101, 102, 103, 104, 105, 106, 107, 108, 109, 110, 111, 112, 113, 114, 115, 116, 117, 118, 119, 120, 121, 122, 123, 124, 125, 126, 127, 128, 129] (by decide +kernel) (by decide +kernel)
set_option maxRecDepth 20000 in
theorem gX6_ask_X6_habitsAsSeen : GoodIn wsX6_ask (wsV RX6 284 RX6 yX6_habitsAsSeen wsX6_habitsAsSeen) := goodIn_app (goodIn_of _ (by decide +kernel)) ggX6_ask_X6_habitsAsSeen
set_option maxRecDepth 20000 in
theorem ggX6_ask_J6_bitCount_0f7a4 : GoodIn wsX6_ask wsJ6_bitCount_0f7a4 := goodIn_r _ [74, 75, 76, 77] (by decide +kernel) (by decide +kernel)
set_option maxRecDepth 20000 in
theorem gX6_ask_J6_bitCount_0f7a4 : GoodIn wsX6_ask (va_wsS RX6 291 yJ6_bitCount_0f7a4 wsJ6_bitCount_0f7a4) := goodIn_app (goodIn_of _ (by decide +kernel)) ggX6_ask_J6_bitCount_0f7a4
set_option maxRecDepth 20000 in
theorem ggX6_ask_X6_leftAtTheWorst : GoodIn wsX6_ask wsX6_leftAtTheWorst := goodIn_r _ [81, 18, 82, 83, 55, 56, 57, 84, 85, 86, 10, 87, 1, 88, 32, 33, 34, 35, 36, 37, 38, 39, 40, 41, 42, 43, 44, 45, 46, 47, 48, 49, 50, 51, 52, 53, 54, 89, 59, 60, 61, 62, 63, 64, 65, 66, 67, 68, 69, 70, 90, 91, 92, 93, 94, 95, 96, 97, 98, 99, 100, 101, 123, 124, 125, 126, 127, 128, 129, 102, 103, 104, 105, 106, 107, 108, 109, 110, 111, 112, 113, 114, 115, 116, 117, 118] (by decide +kernel) (by decide +kernel)
set_option maxRecDepth 20000 in
theorem gX6_ask_X6_leftAtTheWorst : GoodIn wsX6_ask (wsV RX6 296 RX6 yX6_leftAtTheWorst wsX6_leftAtTheWorst) := goodIn_app (goodIn_of _ (by decide +kernel)) ggX6_ask_X6_leftAtTheWorst
set_option maxRecDepth 20000 in
theorem ggX6_drift_X6_isIn : GoodIn wsX6_drift wsX6_isIn := goodIn_r _ [10] (by decide +kernel) (by decide +kernel)
set_option maxRecDepth 20000 in
theorem gX6_drift_X6_isIn : GoodIn wsX6_drift (va_wsS RX6 72 yX6_isIn wsX6_isIn) := goodIn_app (goodIn_of _ (by decide +kernel)) ggX6_drift_X6_isIn
set_option maxRecDepth 20000 in
theorem ggX6_drift_X6_copyRow : GoodIn wsX6_drift wsX6_copyRow := goodIn_r _ [13, 14, 15, 16, 17, 18, 19, 20, 21] (by decide +kernel) (by decide +kernel)
set_option maxRecDepth 20000 in
theorem gX6_drift_X6_copyRow : GoodIn wsX6_drift (va_wsS RX6 300 yX6_copyRow wsX6_copyRow) := goodIn_app (goodIn_of _ (by decide +kernel)) ggX6_drift_X6_copyRow
set_option maxRecDepth 20000 in
theorem ggX6_drift_X6_driftVerdict : GoodIn wsX6_drift wsX6_driftVerdict := goodIn_r _ [25, 1, 2, 3, 5, 26, 27, 28, 29, 30, 9, 31, 32, 33, 34, 35, 36, 37, 38, 39, 40, 41, 42, 43, 44, 45, 46, 47, 48, 49, 50, 51, 52, 53, 54, 55, 56, 16, 57, 58, 59, 60, 61, 62, 63, 64, 65, 66, 67, 68, 69, 70, 71, 72, 73, 74, 81, 82, 83, 84, 85, 86, 87, 88, 89, 90, 91, 92, 93, 94, 95, 96, 97, 98, 99, 100, 101, 102, 103, 104, 105, 106, 107, 108, 109, 110, 111, 112, 113, 114, 115, 116] (by decide +kernel) (by decide +kernel)
set_option maxRecDepth 20000 in
theorem gX6_drift_X6_driftVerdict : GoodIn wsX6_drift (wsV RX6 305 RX6 yX6_driftVerdict wsX6_driftVerdict) := goodIn_app (goodIn_of _ (by decide +kernel)) ggX6_drift_X6_driftVerdict
set_option maxRecDepth 20000 in
theorem ggX6_drift_X0_sumOf : GoodIn wsX6_drift wsX0_sumOf := goodIn_r _ [79, 80, 93, 94, 95, 96, 97, 98, 99, 100, 101, 102, 103, 104, 105, 106, 107, 108, 109] (by decide +kernel) (by decide +kernel)
set_option maxRecDepth 20000 in
theorem gX6_drift_X0_sumOf : GoodIn wsX6_drift (wsV RX6 132 RX0 yX0_sumOf wsX0_sumOf) := goodIn_app (goodIn_of _ (by decide +kernel)) ggX6_drift_X0_sumOf
set_option maxRecDepth 20000 in
theorem ggX6_keep_X6_isIn : GoodIn wsX6_keep wsX6_isIn := goodIn_r _ [6] (by decide +kernel) (by decide +kernel)
set_option maxRecDepth 20000 in
theorem gX6_keep_X6_isIn : GoodIn wsX6_keep (va_wsS RX6 72 yX6_isIn wsX6_isIn) := goodIn_app (goodIn_of _ (by decide +kernel)) ggX6_keep_X6_isIn
set_option maxRecDepth 20000 in
theorem ggX6_keep_X6_imageOf : GoodIn wsX6_keep wsX6_imageOf := goodIn_r _ [10, 11, 12, 45, 46, 47, 48, 49, 50, 51, 52, 53, 54, 55, 56] (by decide +kernel) (by decide +kernel)
set_option maxRecDepth 20000 in
theorem gX6_keep_X6_imageOf : GoodIn wsX6_keep (wsV RX6 308 RX6 yX6_imageOf wsX6_imageOf) := goodIn_app (goodIn_of _ (by decide +kernel)) ggX6_keep_X6_imageOf
set_option maxRecDepth 20000 in
theorem ggX6_keep_X0_becomes : GoodIn wsX6_keep wsX0_becomes := goodIn_r _ [17, 18, 19, 20, 21, 22, 23, 24, 25, 26, 27, 28, 29, 30, 31, 32, 33, 34, 35, 5, 36, 37, 38, 39, 40, 41, 42, 43, 44, 57, 58, 59, 60, 61, 62, 63, 64, 65, 66, 67, 68, 69, 70, 71, 72, 73] (by decide +kernel) (by decide +kernel)
set_option maxRecDepth 20000 in
theorem gX6_keep_X0_becomes : GoodIn wsX6_keep (wsV RX6 102 RX0 yX0_becomes wsX0_becomes) := goodIn_app (goodIn_of _ (by decide +kernel)) ggX6_keep_X0_becomes
set_option maxRecDepth 20000 in
theorem ggX6_back_X6_isIn : GoodIn wsX6_back wsX6_isIn := goodIn_r _ [7] (by decide +kernel) (by decide +kernel)
set_option maxRecDepth 20000 in
theorem gX6_back_X6_isIn : GoodIn wsX6_back (va_wsS RX6 72 yX6_isIn wsX6_isIn) := goodIn_app (goodIn_of _ (by decide +kernel)) ggX6_back_X6_isIn
set_option maxRecDepth 20000 in
theorem ggX6_back_X6_imageOf : GoodIn wsX6_back wsX6_imageOf := goodIn_r _ [11, 12, 13, 50, 51, 52, 53, 54, 55, 56, 57, 58, 59, 60, 61] (by decide +kernel) (by decide +kernel)
set_option maxRecDepth 20000 in
theorem gX6_back_X6_imageOf : GoodIn wsX6_back (wsV RX6 308 RX6 yX6_imageOf wsX6_imageOf) := goodIn_app (goodIn_of _ (by decide +kernel)) ggX6_back_X6_imageOf
set_option maxRecDepth 20000 in
theorem ggX6_back_X0_becomes : GoodIn wsX6_back wsX0_becomes := goodIn_r _ [18, 19, 20, 21, 22, 23, 24, 25, 26, 27, 28, 29, 30, 31, 32, 33, 34, 35, 36, 6, 37, 38, 39, 40, 41, 42, 43, 44, 45, 62, 63, 64, 65, 66, 67, 68, 69, 70, 71, 72, 73, 74, 75, 76, 77, 78] (by decide +kernel) (by decide +kernel)
set_option maxRecDepth 20000 in
theorem gX6_back_X0_becomes : GoodIn wsX6_back (wsV RX6 102 RX0 yX0_becomes wsX0_becomes) := goodIn_app (goodIn_of _ (by decide +kernel)) ggX6_back_X0_becomes
set_option maxRecDepth 20000 in
theorem ggX6_back_X0_sumOf : GoodIn wsX6_back wsX0_sumOf := goodIn_r _ [49, 19, 62, 63, 64, 65, 66, 67, 68, 69, 70, 71, 72, 73, 74, 75, 76, 77, 78] (by decide +kernel) (by decide +kernel)
set_option maxRecDepth 20000 in
theorem gX6_back_X0_sumOf : GoodIn wsX6_back (wsV RX6 132 RX0 yX0_sumOf wsX0_sumOf) := goodIn_app (goodIn_of _ (by decide +kernel)) ggX6_back_X0_sumOf
set_option maxRecDepth 20000 in
theorem ggX6_sheet_X6_isSheet : GoodIn wsX6_sheet wsX6_isSheet := goodIn_r _ [5, 6, 7, 4, 8] (by decide +kernel) (by decide +kernel)
set_option maxRecDepth 20000 in
theorem gX6_sheet_X6_isSheet : GoodIn wsX6_sheet (va_wsS RX6 312 yX6_isSheet wsX6_isSheet) := goodIn_app (goodIn_of _ (by decide +kernel)) ggX6_sheet_X6_isSheet
set_option maxRecDepth 20000 in
theorem ggX6_sheet_X4_renew : GoodIn wsX6_sheet wsX4_renew := goodIn_r _ [13, 14, 15, 16, 29, 30, 31] (by decide +kernel) (by decide +kernel)
set_option maxRecDepth 20000 in
theorem gX6_sheet_X4_renew : GoodIn wsX6_sheet (wsV RX6 315 RX4 yX4_renew wsX4_renew) := goodIn_app (goodIn_of _ (by decide +kernel)) ggX6_sheet_X4_renew
set_option maxRecDepth 20000 in
theorem ggX6_lay_X6_isSheet : GoodIn wsX6_lay wsX6_isSheet := goodIn_r _ [5, 6, 7, 4, 8] (by decide +kernel) (by decide +kernel)
set_option maxRecDepth 20000 in
theorem gX6_lay_X6_isSheet : GoodIn wsX6_lay (va_wsS RX6 312 yX6_isSheet wsX6_isSheet) := goodIn_app (goodIn_of _ (by decide +kernel)) ggX6_lay_X6_isSheet
set_option maxRecDepth 20000 in
theorem ggX6_lay_X4_isNothing : GoodIn wsX6_lay wsX4_isNothing := goodIn_r _ [13, 14, 37, 38, 39] (by decide +kernel) (by decide +kernel)
set_option maxRecDepth 20000 in
theorem gX6_lay_X4_isNothing : GoodIn wsX6_lay (wsV RX6 318 RX4 yX4_isNothing wsX4_isNothing) := goodIn_app (goodIn_of _ (by decide +kernel)) ggX6_lay_X4_isNothing
set_option maxRecDepth 20000 in
theorem ggX6_lay_X4_hasCell : GoodIn wsX6_lay wsX4_hasCell := goodIn_r _ [18, 14, 7, 4, 8, 37, 38, 39] (by decide +kernel) (by decide +kernel)
set_option maxRecDepth 20000 in
theorem gX6_lay_X4_hasCell : GoodIn wsX6_lay (wsV RX6 321 RX4 yX4_hasCell wsX4_hasCell) := goodIn_app (goodIn_of _ (by decide +kernel)) ggX6_lay_X4_hasCell
set_option maxRecDepth 20000 in
theorem ggX6_lay_X4_put : GoodIn wsX6_lay wsX4_put := goodIn_r _ [22, 23, 24, 37, 38, 39] (by decide +kernel) (by decide +kernel)
set_option maxRecDepth 20000 in
theorem gX6_lay_X4_put : GoodIn wsX6_lay (wsV RX6 324 RX4 yX4_put wsX4_put) := goodIn_app (goodIn_of _ (by decide +kernel)) ggX6_lay_X4_put
set_option maxRecDepth 20000 in
theorem ggX6_read_X6_isSheet : GoodIn wsX6_read wsX6_isSheet := goodIn_r _ [6, 7, 8, 5, 9] (by decide +kernel) (by decide +kernel)
set_option maxRecDepth 20000 in
theorem gX6_read_X6_isSheet : GoodIn wsX6_read (va_wsS RX6 312 yX6_isSheet wsX6_isSheet) := goodIn_app (goodIn_of _ (by decide +kernel)) ggX6_read_X6_isSheet
set_option maxRecDepth 20000 in
theorem ggX6_read_X6_isIn : GoodIn wsX6_read wsX6_isIn := goodIn_r _ [9] (by decide +kernel) (by decide +kernel)
set_option maxRecDepth 20000 in
theorem gX6_read_X6_isIn : GoodIn wsX6_read (va_wsS RX6 72 yX6_isIn wsX6_isIn) := goodIn_app (goodIn_of _ (by decide +kernel)) ggX6_read_X6_isIn
set_option maxRecDepth 20000 in
theorem ggX6_read_X4_faultAs : GoodIn wsX6_read wsX4_faultAs := goodIn_r _ [14, 15, 16, 17, 18, 13, 19, 20, 124, 125, 126] (by decide +kernel) (by decide +kernel)
set_option maxRecDepth 20000 in
theorem gX6_read_X4_faultAs : GoodIn wsX6_read (wsV RX6 327 RX4 yX4_faultAs wsX4_faultAs) := goodIn_app (goodIn_of _ (by decide +kernel)) ggX6_read_X4_faultAs
set_option maxRecDepth 20000 in
theorem ggX6_read_X4_wholePairs : GoodIn wsX6_read wsX4_wholePairs := goodIn_r _ [24, 20, 25, 26, 27, 28, 29, 30, 31, 13, 32, 8, 5, 9, 124, 125, 126] (by decide +kernel) (by decide +kernel)
set_option maxRecDepth 20000 in
theorem gX6_read_X4_wholePairs : GoodIn wsX6_read (wsV RX6 330 RX4 yX4_wholePairs wsX4_wholePairs) := goodIn_app (goodIn_of _ (by decide +kernel)) ggX6_read_X4_wholePairs
set_option maxRecDepth 20000 in
theorem ggX6_read_X6_pairsAccepted : GoodIn wsX6_read wsX6_pairsAccepted := goodIn_r _ [36, 1, 37, 38, 39, 40, 41, 13, 42, 43, 29, 30, 31, 32, 20, 8, 5, 9, 44, 45, 46, 47, 48, 49, 50, 51, 52, 53, 54, 112, 113, 114, 115, 116, 117, 118, 119, 120, 121, 122, 123, 127, 128, 129, 130, 131, 132, 133, 134, 135, 136, 137, 138, 139, 140, 141, 142, 143, 124, 125, 126] (by decide +kernel) (by decide +kernel)
set_option maxRecDepth 20000 in
theorem gX6_read_X6_pairsAccepted : GoodIn wsX6_read (wsV RX6 333 RX6 yX6_pairsAccepted wsX6_pairsAccepted) := goodIn_app (goodIn_of _ (by decide +kernel)) ggX6_read_X6_pairsAccepted
set_option maxRecDepth 20000 in
theorem ggX6_read_X4_cell : GoodIn wsX6_read wsX4_cell := goodIn_r _ [42, 43, 29, 30, 31, 13, 32, 20, 8, 5, 9, 124, 125, 126] (by decide +kernel) (by decide +kernel)
set_option maxRecDepth 20000 in
theorem gX6_read_X4_cell : GoodIn wsX6_read (wsV RX6 336 RX4 yX4_cell wsX4_cell) := goodIn_app (goodIn_of _ (by decide +kernel)) ggX6_read_X4_cell
set_option maxRecDepth 20000 in
theorem ggX6_read_X6_hearForGood : GoodIn wsX6_read wsX6_hearForGood := goodIn_r _ [58, 37, 59, 60, 61, 38, 62, 63, 64, 65, 66, 67, 5, 68, 69, 70, 71, 72, 73, 74, 75, 76, 77, 78, 79, 80, 81, 82, 83, 84, 85, 86, 87, 88, 89, 90, 91, 92, 93, 94, 95, 96, 97, 27, 98, 99, 100, 101, 102, 103, 104, 105, 106, 107, 108, 109, 110, 111, 112, 113, 114, 115, 116, 117, 118, 119, 120, 121, 122, 123, 127, 128, 129, 130, 131, 132, 133, 134, 135, 136, 137, 138, 139, 140, 141, 142, 143, 144, 145, 146, 147, 148, 149, 150] (by decide +kernel) (by decide +kernel)
set_option maxRecDepth 20000 in
theorem gX6_read_X6_hearForGood : GoodIn wsX6_read (wsV RX6 195 RX6 yX6_hearForGood wsX6_hearForGood) := goodIn_app (goodIn_of _ (by decide +kernel)) ggX6_read_X6_hearForGood
set_option maxRecDepth 20000 in
theorem ggX6_count_X4_isNothing : GoodIn wsX6_count wsX4_isNothing := goodIn_r _ [16, 17, 60, 61, 62] (by decide +kernel) (by decide +kernel)
set_option maxRecDepth 20000 in
theorem gX6_count_X4_isNothing : GoodIn wsX6_count (wsV RX6 318 RX4 yX4_isNothing wsX4_isNothing) := goodIn_app (goodIn_of _ (by decide +kernel)) ggX6_count_X4_isNothing
set_option maxRecDepth 20000 in
theorem ggX6_count_X0_sumOf : GoodIn wsX6_count wsX0_sumOf := goodIn_r _ [22, 23, 63, 64, 65, 66, 67, 68, 69, 70, 71, 72, 73, 74, 75, 76, 77, 78, 79] (by decide +kernel) (by decide +kernel)
set_option maxRecDepth 20000 in
theorem gX6_count_X0_sumOf : GoodIn wsX6_count (wsV RX6 132 RX0 yX0_sumOf wsX0_sumOf) := goodIn_app (goodIn_of _ (by decide +kernel)) ggX6_count_X0_sumOf
set_option maxRecDepth 20000 in
theorem ggX6_count_X6_bitsOf : GoodIn wsX6_count wsX6_bitsOf := goodIn_r _ [27] (by decide +kernel) (by decide +kernel)
set_option maxRecDepth 20000 in
theorem gX6_count_X6_bitsOf : GoodIn wsX6_count (va_wsS RX6 125 yX6_bitsOf wsX6_bitsOf) := goodIn_app (goodIn_of _ (by decide +kernel)) ggX6_count_X6_bitsOf
set_option maxRecDepth 20000 in
theorem ggX6_count_J6_bitCount_0f7a4 : GoodIn wsX6_count wsJ6_bitCount_0f7a4 := goodIn_r _ [31, 32, 33, 34] (by decide +kernel) (by decide +kernel)
set_option maxRecDepth 20000 in
theorem gX6_count_J6_bitCount_0f7a4 : GoodIn wsX6_count (va_wsS RX6 291 yJ6_bitCount_0f7a4 wsJ6_bitCount_0f7a4) := goodIn_app (goodIn_of _ (by decide +kernel)) ggX6_count_J6_bitCount_0f7a4
set_option maxRecDepth 20000 in
theorem ggX6_isSide_X6_isIn : GoodIn wsX6_isSide wsX6_isIn := goodIn_r _ [4] (by decide +kernel) (by decide +kernel)
set_option maxRecDepth 20000 in
theorem gX6_isSide_X6_isIn : GoodIn wsX6_isSide (va_wsS RX6 72 yX6_isIn wsX6_isIn) := goodIn_app (goodIn_of _ (by decide +kernel)) ggX6_isSide_X6_isIn
set_option maxRecDepth 20000 in
theorem ggX6_isSheet_X6_isIn : GoodIn wsX6_isSheet wsX6_isIn := goodIn_r _ [4] (by decide +kernel) (by decide +kernel)
set_option maxRecDepth 20000 in
theorem gX6_isSheet_X6_isIn : GoodIn wsX6_isSheet (va_wsS RX6 72 yX6_isIn wsX6_isIn) := goodIn_app (goodIn_of _ (by decide +kernel)) ggX6_isSheet_X6_isIn
set_option maxRecDepth 20000 in
theorem ggX6_isFlame_X0_hasCase : GoodIn wsX6_isFlame wsX0_hasCase := goodIn_r _ [6, 7, 8, 9, 10, 27, 28, 29, 30, 31, 32, 33, 34, 35, 36, 37, 38, 39, 40, 41, 42, 43] (by decide +kernel) (by decide +kernel)
set_option maxRecDepth 20000 in
theorem gX6_isFlame_X0_hasCase : GoodIn wsX6_isFlame (wsV RX6 149 RX0 yX0_hasCase wsX0_hasCase) := goodIn_app (goodIn_of _ (by decide +kernel)) ggX6_isFlame_X0_hasCase
set_option maxRecDepth 20000 in
theorem ggX6_isFlame_X6_isSide : GoodIn wsX6_isFlame wsX6_isSide := goodIn_r _ [13, 14, 8, 9, 10] (by decide +kernel) (by decide +kernel)
set_option maxRecDepth 20000 in
theorem gX6_isFlame_X6_isSide : GoodIn wsX6_isFlame (va_wsS RX6 249 yX6_isSide wsX6_isSide) := goodIn_app (goodIn_of _ (by decide +kernel)) ggX6_isFlame_X6_isSide
set_option maxRecDepth 20000 in
theorem ggX6_prepare_X5_prepare : GoodIn wsX6_prepare wsX5_prepare := goodIn_r _ [7, 8, 9, 10, 11, 12, 13, 14, 15, 16, 17, 18, 19, 20, 21, 22, 23, 24, 6, 25, 26, 27, 28, 29, 42, 43, 44, 45, 46, 47, 48, 49, 50, 51, 52, 53, 54, 55, 56, 57, 58, 59, 60, 61, 62, 63, 64, 65] (by decide +kernel) (by decide +kernel)
set_option maxRecDepth 20000 in
theorem gX6_prepare_X5_prepare : GoodIn wsX6_prepare (wsV RX6 350 RX5 yX5_prepare wsX5_prepare) := goodIn_app (goodIn_of _ (by decide +kernel)) ggX6_prepare_X5_prepare
set_option maxRecDepth 20000 in
theorem ggX6_verdictNow_X6_prepare : GoodIn wsX6_verdictNow wsX6_prepare := goodIn_r _ [6, 1, 7, 8, 9, 10, 11, 12, 13, 14, 15, 16, 17, 18, 19, 20, 21, 22, 23, 24, 25, 26, 27, 28, 29, 30, 31, 32, 33, 34, 48, 49, 50, 51, 52, 53, 54, 55, 56, 57, 58, 59, 60, 61, 62, 63, 64, 65, 66, 67, 68, 69, 70, 71, 72, 73, 74, 75, 76, 77, 78, 79, 80, 81, 82, 83] (by decide +kernel) (by decide +kernel)
set_option maxRecDepth 20000 in
theorem gX6_verdictNow_X6_prepare : GoodIn wsX6_verdictNow (wsV RX6 228 RX6 yX6_prepare wsX6_prepare) := goodIn_app (goodIn_of _ (by decide +kernel)) ggX6_verdictNow_X6_prepare
set_option maxRecDepth 20000 in
theorem ggX6_verdictNow_X5_verdictHeld : GoodIn wsX6_verdictNow wsX5_verdictHeld := goodIn_r _ [38, 39, 22, 15, 13, 31, 32, 33, 34, 40, 41, 42, 11, 43, 17, 23, 44, 45, 46, 47, 20, 60, 61, 62, 63, 64, 65, 66] (by decide +kernel) (by decide +kernel)
set_option maxRecDepth 20000 in
theorem gX6_verdictNow_X5_verdictHeld : GoodIn wsX6_verdictNow (wsV RX6 236 RX5 yX5_verdictHeld wsX5_verdictHeld) := goodIn_app (goodIn_of _ (by decide +kernel)) ggX6_verdictNow_X5_verdictHeld
set_option maxRecDepth 20000 in
theorem ggX6_hearForGood_X6_verdictNow : GoodIn wsX6_hearForGood wsX6_verdictNow := goodIn_r _ [13, 3, 14, 15, 16, 12, 17, 1, 18, 19, 20, 21, 22, 23, 24, 25, 26, 27, 28, 29, 30, 31, 32, 33, 34, 35, 36, 37, 38, 39, 40, 41, 42, 43, 44, 45, 46, 47, 48, 49, 50, 51, 52, 53, 54, 55, 56, 57, 58, 59, 60, 61, 62, 63, 64, 65, 66, 67, 68, 69, 87, 88, 89, 90, 91, 92, 93, 70, 71, 72, 73, 74, 75, 76, 77, 78, 79, 80, 81, 82, 83, 84, 85, 86] (by decide +kernel) (by decide +kernel)
set_option maxRecDepth 20000 in
theorem gX6_hearForGood_X6_verdictNow : GoodIn wsX6_hearForGood (wsV RX6 204 RX6 yX6_verdictNow wsX6_verdictNow) := goodIn_app (goodIn_of _ (by decide +kernel)) ggX6_hearForGood_X6_verdictNow
set_option maxRecDepth 20000 in
theorem ggX6_pairsAccepted_X4_cell : GoodIn wsX6_pairsAccepted wsX4_cell := goodIn_r _ [8, 9, 10, 11, 12, 7, 13, 14, 15, 16, 17, 58, 59, 60] (by decide +kernel) (by decide +kernel)
set_option maxRecDepth 20000 in
theorem gX6_pairsAccepted_X4_cell : GoodIn wsX6_pairsAccepted (wsV RX6 336 RX4 yX4_cell wsX4_cell) := goodIn_app (goodIn_of _ (by decide +kernel)) ggX6_pairsAccepted_X4_cell
set_option maxRecDepth 20000 in
theorem ggX6_pairsAccepted_X0_hasCase : GoodIn wsX6_pairsAccepted wsX0_hasCase := goodIn_r _ [22, 23, 15, 16, 17, 41, 42, 43, 44, 45, 46, 47, 48, 49, 50, 51, 52, 53, 54, 55, 56, 57] (by decide +kernel) (by decide +kernel)
set_option maxRecDepth 20000 in
theorem gX6_pairsAccepted_X0_hasCase : GoodIn wsX6_pairsAccepted (wsV RX6 149 RX0 yX0_hasCase wsX0_hasCase) := goodIn_app (goodIn_of _ (by decide +kernel)) ggX6_pairsAccepted_X0_hasCase
set_option maxRecDepth 20000 in
theorem ggX6_pairsAccepted_X0_hasJudge : GoodIn wsX6_pairsAccepted wsX0_hasJudge := goodIn_r _ [27, 28, 15, 16, 17, 41, 42, 43, 44, 45, 46, 47, 48, 49, 50, 51, 52, 53, 54, 55, 56, 57] (by decide +kernel) (by decide +kernel)
set_option maxRecDepth 20000 in
theorem gX6_pairsAccepted_X0_hasJudge : GoodIn wsX6_pairsAccepted (wsV RX6 162 RX0 yX0_hasJudge wsX0_hasJudge) := goodIn_app (goodIn_of _ (by decide +kernel)) ggX6_pairsAccepted_X0_hasJudge
set_option maxRecDepth 20000 in
theorem ggX6_judgesFor_X6_verdictNow : GoodIn wsX6_judgesFor wsX6_verdictNow := goodIn_r _ [7, 8, 9, 10, 11, 6, 12, 1, 13, 14, 15, 16, 17, 18, 19, 20, 21, 22, 23, 24, 25, 26, 27, 28, 29, 30, 31, 32, 33, 34, 35, 36, 37, 38, 39, 40, 41, 42, 43, 44, 45, 46, 47, 48, 49, 50, 51, 52, 53, 54, 55, 56, 57, 58, 59, 60, 61, 62, 63, 64, 82, 83, 84, 85, 86, 87, 88, 65, 66, 67, 68, 69, 70, 71, 72, 73, 74, 75, 76, 77, 78, 79, 80, 81] (by decide +kernel) (by decide +kernel)
set_option maxRecDepth 20000 in
theorem gX6_judgesFor_X6_verdictNow : GoodIn wsX6_judgesFor (wsV RX6 204 RX6 yX6_verdictNow wsX6_verdictNow) := goodIn_app (goodIn_of _ (by decide +kernel)) ggX6_judgesFor_X6_verdictNow
set_option maxRecDepth 20000 in
theorem ggX6_firstThatWins_X6_isFlame : GoodIn wsX6_firstThatWins wsX6_isFlame := goodIn_r _ [8, 1, 9, 10, 11, 12, 13, 14, 15, 7, 16, 17, 18, 19, 20, 74, 75, 76, 77, 78, 79, 80, 81, 82, 83, 84, 85, 86, 87, 88, 89, 90, 91, 92, 93, 94, 95, 96, 97, 98, 99, 100, 101, 102] (by decide +kernel) (by decide +kernel)
set_option maxRecDepth 20000 in
theorem gX6_firstThatWins_X6_isFlame : GoodIn wsX6_firstThatWins (wsV RX6 136 RX6 yX6_isFlame wsX6_isFlame) := goodIn_app (goodIn_of _ (by decide +kernel)) ggX6_firstThatWins_X6_isFlame
set_option maxRecDepth 20000 in
theorem ggX6_firstThatWins_X0_hasJudge : GoodIn wsX6_firstThatWins wsX0_hasJudge := goodIn_r _ [24, 25, 15, 7, 16, 86, 87, 88, 89, 90, 91, 92, 93, 94, 95, 96, 97, 98, 99, 100, 101, 102] (by decide +kernel) (by decide +kernel)
set_option maxRecDepth 20000 in
theorem gX6_firstThatWins_X0_hasJudge : GoodIn wsX6_firstThatWins (wsV RX6 162 RX0 yX0_hasJudge wsX0_hasJudge) := goodIn_app (goodIn_of _ (by decide +kernel)) ggX6_firstThatWins_X0_hasJudge
set_option maxRecDepth 20000 in
theorem ggX6_firstThatWins_X6_prepare : GoodIn wsX6_firstThatWins wsX6_prepare := goodIn_r _ [29, 3, 1, 30, 31, 32, 33, 34, 35, 36, 37, 38, 39, 40, 41, 42, 43, 44, 45, 46, 47, 48, 49, 50, 51, 52, 53, 54, 55, 56, 74, 75, 76, 77, 78, 79, 80, 81, 82, 83, 84, 85, 103, 104, 105, 106, 107, 108, 109, 86, 87, 88, 89, 90, 91, 92, 93, 94, 95, 96, 97, 98, 99, 100, 101, 102] (by decide +kernel) (by decide +kernel)
set_option maxRecDepth 20000 in
theorem gX6_firstThatWins_X6_prepare : GoodIn wsX6_firstThatWins (wsV RX6 228 RX6 yX6_prepare wsX6_prepare) := goodIn_app (goodIn_of _ (by decide +kernel)) ggX6_firstThatWins_X6_prepare
set_option maxRecDepth 20000 in
theorem ggX6_firstThatWins_X5_change : GoodIn wsX6_firstThatWins wsX5_change := goodIn_r _ [60, 35, 37, 39, 103, 104, 105, 106, 107, 108, 109] (by decide +kernel) (by decide +kernel)
set_option maxRecDepth 20000 in
theorem gX6_firstThatWins_X5_change : GoodIn wsX6_firstThatWins (wsV RX6 353 RX5 yX5_change wsX5_change) := goodIn_app (goodIn_of _ (by decide +kernel)) ggX6_firstThatWins_X5_change
set_option maxRecDepth 20000 in
theorem ggX6_firstThatWins_X5_verdictHeld : GoodIn wsX6_firstThatWins wsX5_verdictHeld := goodIn_r _ [64, 65, 44, 37, 35, 53, 54, 55, 56, 66, 67, 68, 33, 69, 39, 45, 70, 71, 72, 73, 42, 103, 104, 105, 106, 107, 108, 109] (by decide +kernel) (by decide +kernel)
set_option maxRecDepth 20000 in
theorem gX6_firstThatWins_X5_verdictHeld : GoodIn wsX6_firstThatWins (wsV RX6 236 RX5 yX5_verdictHeld wsX5_verdictHeld) := goodIn_app (goodIn_of _ (by decide +kernel)) ggX6_firstThatWins_X5_verdictHeld
set_option maxRecDepth 20000 in
theorem ggX6_fillVerdictsByGuards_X6_prepare : GoodIn wsX6_fillVerdictsByGuards wsX6_prepare := goodIn_r _ [7, 1, 8, 9, 10, 11, 12, 13, 14, 15, 16, 17, 18, 19, 20, 21, 22, 23, 24, 25, 26, 27, 28, 29, 30, 31, 32, 33, 34, 35, 53, 54, 55, 56, 57, 58, 59, 60, 61, 62, 63, 64, 65, 66, 67, 68, 69, 70, 71, 72, 73, 74, 75, 76, 77, 78, 79, 80, 81, 82, 83, 84, 85, 86, 87, 88] (by decide +kernel) (by decide +kernel)
set_option maxRecDepth 20000 in
theorem gX6_fillVerdictsByGuards_X6_prepare : GoodIn wsX6_fillVerdictsByGuards (wsV RX6 228 RX6 yX6_prepare wsX6_prepare) := goodIn_app (goodIn_of _ (by decide +kernel)) ggX6_fillVerdictsByGuards_X6_prepare
set_option maxRecDepth 20000 in
theorem ggX6_fillVerdictsByGuards_X5_change : GoodIn wsX6_fillVerdictsByGuards wsX5_change := goodIn_r _ [39, 14, 16, 18, 65, 66, 67, 68, 69, 70, 71] (by decide +kernel) (by decide +kernel)
set_option maxRecDepth 20000 in
theorem gX6_fillVerdictsByGuards_X5_change : GoodIn wsX6_fillVerdictsByGuards (wsV RX6 353 RX5 yX5_change wsX5_change) := goodIn_app (goodIn_of _ (by decide +kernel)) ggX6_fillVerdictsByGuards_X5_change
set_option maxRecDepth 20000 in
theorem ggX6_fillVerdictsByGuards_X5_verdictHeld : GoodIn wsX6_fillVerdictsByGuards wsX5_verdictHeld := goodIn_r _ [43, 44, 23, 16, 14, 32, 33, 34, 35, 45, 46, 47, 12, 48, 18, 24, 49, 50, 51, 52, 21, 65, 66, 67, 68, 69, 70, 71] (by decide +kernel) (by decide +kernel)
set_option maxRecDepth 20000 in
theorem gX6_fillVerdictsByGuards_X5_verdictHeld : GoodIn wsX6_fillVerdictsByGuards (wsV RX6 236 RX5 yX5_verdictHeld wsX5_verdictHeld) := goodIn_app (goodIn_of _ (by decide +kernel)) ggX6_fillVerdictsByGuards_X5_verdictHeld
set_option maxRecDepth 20000 in
theorem ggX6_isAtRest_X6_worth : GoodIn wsX6_isAtRest wsX6_worth := goodIn_r _ [5] (by decide +kernel) (by decide +kernel)
set_option maxRecDepth 20000 in
theorem gX6_isAtRest_X6_worth : GoodIn wsX6_isAtRest (va_wsS RX6 356 yX6_worth wsX6_worth) := goodIn_app (goodIn_of _ (by decide +kernel)) ggX6_isAtRest_X6_worth
set_option maxRecDepth 20000 in
theorem ggX6_casesThatMayBeWon_X6_judgesFor : GoodIn wsX6_casesThatMayBeWon wsX6_judgesFor := goodIn_r _ [8, 1, 9, 10, 11, 12, 7, 13, 14, 15, 16, 17, 18, 19, 20, 21, 22, 23, 24, 25, 26, 27, 28, 29, 30, 31, 32, 33, 34, 35, 36, 37, 38, 39, 40, 41, 42, 43, 44, 45, 46, 47, 48, 49, 50, 51, 52, 53, 54, 55, 56, 57, 58, 59, 60, 61, 62, 63, 64, 65, 66, 67, 68, 69, 70, 71, 72, 73, 74, 75, 76, 77, 78, 79, 80, 81, 82, 83, 84, 85, 86, 87, 88, 89, 90, 91, 92, 93, 94] (by decide +kernel) (by decide +kernel)
set_option maxRecDepth 20000 in
theorem gX6_casesThatMayBeWon_X6_judgesFor : GoodIn wsX6_casesThatMayBeWon (wsV RX6 221 RX6 yX6_judgesFor wsX6_judgesFor) := goodIn_app (goodIn_of _ (by decide +kernel)) ggX6_casesThatMayBeWon_X6_judgesFor
set_option maxRecDepth 20000 in
theorem ggX6_bestJudge_X6_judgesFor : GoodIn wsX6_bestJudge wsX6_judgesFor := goodIn_r _ [7, 1, 8, 9, 10, 11, 6, 12, 13, 14, 15, 16, 17, 18, 19, 20, 21, 22, 23, 24, 25, 26, 27, 28, 29, 30, 31, 32, 33, 34, 35, 36, 37, 38, 39, 40, 41, 42, 43, 44, 45, 46, 47, 48, 49, 50, 51, 52, 53, 54, 55, 56, 57, 63, 64, 65, 66, 67, 68, 69, 70, 71, 72, 73, 74, 75, 76, 77, 78, 79, 80, 81, 82, 83, 84, 85, 86, 87, 88, 89, 90, 91, 92, 93, 94, 95, 96, 97, 98] (by decide +kernel) (by decide +kernel)
set_option maxRecDepth 20000 in
theorem gX6_bestJudge_X6_judgesFor : GoodIn wsX6_bestJudge (wsV RX6 221 RX6 yX6_judgesFor wsX6_judgesFor) := goodIn_app (goodIn_of _ (by decide +kernel)) ggX6_bestJudge_X6_judgesFor
set_option maxRecDepth 20000 in
theorem ggX6_bestJudge_J6_numberOfTrailingZeros_0f7a4 : GoodIn wsX6_bestJudge wsJ6_numberOfTrailingZeros_0f7a4 := goodIn_r _ [61, 62] (by decide +kernel) (by decide +kernel)
set_option maxRecDepth 20000 in
theorem gX6_bestJudge_J6_numberOfTrailingZeros_0f7a4 : GoodIn wsX6_bestJudge (va_wsS RX6 359 yJ6_numberOfTrailingZeros_0f7a4 wsJ6_numberOfTrailingZeros_0f7a4) := goodIn_app (goodIn_of _ (by decide +kernel)) ggX6_bestJudge_J6_numberOfTrailingZeros_0f7a4
set_option maxRecDepth 20000 in
theorem ggX6_wonByDocket_X3_goByDocket : GoodIn wsX6_wonByDocket wsX3_goByDocket := goodIn_r _ [10, 11, 12, 13, 14, 15, 16, 17, 18, 19, 20, 21, 22, 23, 24, 25, 26, 27, 28, 29, 30, 31, 32, 33, 34, 35, 36, 37, 38, 39, 40, 41, 42, 43, 44, 45, 46, 47, 48, 49, 50, 51, 52, 53, 54, 55, 56, 57, 58, 59, 60, 61, 62, 63, 64, 65, 66, 67, 68, 94, 95, 96, 97, 98, 99, 100, 101, 102, 103, 104, 105, 106, 107, 108, 109, 110, 91, 92, 93, 111, 112, 113, 114, 115, 116, 117] (by decide +kernel) (by decide +kernel)
set_option maxRecDepth 20000 in
theorem gX6_wonByDocket_X3_goByDocket : GoodIn wsX6_wonByDocket (wsV RX6 210 RX3 yX3_goByDocket wsX3_goByDocket) := goodIn_app (goodIn_of _ (by decide +kernel)) ggX6_wonByDocket_X3_goByDocket
set_option maxRecDepth 20000 in
theorem ggX6_wonByDocket_X6_bitsOf : GoodIn wsX6_wonByDocket wsX6_bitsOf := goodIn_r _ [71] (by decide +kernel) (by decide +kernel)
set_option maxRecDepth 20000 in
theorem gX6_wonByDocket_X6_bitsOf : GoodIn wsX6_wonByDocket (va_wsS RX6 125 yX6_bitsOf wsX6_bitsOf) := goodIn_app (goodIn_of _ (by decide +kernel)) ggX6_wonByDocket_X6_bitsOf
set_option maxRecDepth 20000 in
theorem ggX6_wonByDocket_J6_bitCount_0f7a4 : GoodIn wsX6_wonByDocket wsJ6_bitCount_0f7a4 := goodIn_r _ [75, 76, 77, 78] (by decide +kernel) (by decide +kernel)
set_option maxRecDepth 20000 in
theorem gX6_wonByDocket_J6_bitCount_0f7a4 : GoodIn wsX6_wonByDocket (va_wsS RX6 291 yJ6_bitCount_0f7a4 wsJ6_bitCount_0f7a4) := goodIn_app (goodIn_of _ (by decide +kernel)) ggX6_wonByDocket_J6_bitCount_0f7a4
set_option maxRecDepth 20000 in
theorem ggX6_habitsAsSeen_X1_fits : GoodIn wsX6_habitsAsSeen wsX1_fits := goodIn_r _ [9, 10, 11, 12, 13, 14, 15, 16, 17, 18, 19, 20, 21, 22, 23, 24, 25, 26, 27, 28, 29, 30, 31, 32, 33, 34, 35, 36, 37, 38, 39, 40, 41, 42, 43, 44, 45, 46, 47, 48, 49, 50, 51, 52, 53, 54, 55, 85, 86, 87, 88, 89, 90, 91, 92, 93, 94, 95, 68, 69, 70, 71, 72, 73, 74, 75, 76, 77, 78, 79, 80, 81, 82, 83, 84] (by decide +kernel) (by decide +kernel)
set_option maxRecDepth 20000 in
theorem gX6_habitsAsSeen_X1_fits : GoodIn wsX6_habitsAsSeen (wsV RX6 287 RX1 yX1_fits wsX1_fits) := goodIn_app (goodIn_of _ (by decide +kernel)) ggX6_habitsAsSeen_X1_fits
set_option maxRecDepth 20000 in
theorem ggX6_leftAtTheWorst_X6_prepare : GoodIn wsX6_leftAtTheWorst wsX6_prepare := goodIn_r _ [11, 1, 12, 13, 14, 15, 16, 17, 18, 19, 20, 21, 22, 23, 24, 25, 26, 27, 28, 29, 30, 31, 32, 33, 34, 35, 36, 4, 5, 6, 50, 51, 52, 53, 54, 55, 56, 57, 58, 59, 60, 61, 62, 63, 64, 65, 66, 67, 68, 69, 70, 71, 72, 73, 74, 75, 76, 77, 78, 79, 80, 81, 82, 83, 84, 85] (by decide +kernel) (by decide +kernel)
set_option maxRecDepth 20000 in
theorem gX6_leftAtTheWorst_X6_prepare : GoodIn wsX6_leftAtTheWorst (wsV RX6 228 RX6 yX6_prepare wsX6_prepare) := goodIn_app (goodIn_of _ (by decide +kernel)) ggX6_leftAtTheWorst_X6_prepare
set_option maxRecDepth 20000 in
theorem ggX6_leftAtTheWorst_X5_verdictHeld : GoodIn wsX6_leftAtTheWorst wsX5_verdictHeld := goodIn_r _ [40, 41, 27, 20, 18, 36, 4, 5, 6, 42, 43, 44, 16, 45, 22, 28, 46, 47, 48, 49, 25, 62, 63, 64, 65, 66, 67, 68] (by decide +kernel) (by decide +kernel)
set_option maxRecDepth 20000 in
theorem gX6_leftAtTheWorst_X5_verdictHeld : GoodIn wsX6_leftAtTheWorst (wsV RX6 236 RX5 yX5_verdictHeld wsX5_verdictHeld) := goodIn_app (goodIn_of _ (by decide +kernel)) ggX6_leftAtTheWorst_X5_verdictHeld
set_option maxRecDepth 20000 in
theorem ggX6_driftVerdict_X6_prepare : GoodIn wsX6_driftVerdict wsX6_prepare := goodIn_r _ [11, 5, 1, 12, 13, 14, 15, 16, 17, 18, 19, 20, 21, 22, 23, 24, 25, 26, 27, 28, 29, 30, 31, 32, 33, 34, 35, 36, 37, 38, 56, 57, 58, 59, 60, 61, 62, 63, 64, 65, 66, 67, 85, 86, 87, 88, 89, 90, 91, 68, 69, 70, 71, 72, 73, 74, 75, 76, 77, 78, 79, 80, 81, 82, 83, 84] (by decide +kernel) (by decide +kernel)
set_option maxRecDepth 20000 in
theorem gX6_driftVerdict_X6_prepare : GoodIn wsX6_driftVerdict (wsV RX6 228 RX6 yX6_prepare wsX6_prepare) := goodIn_app (goodIn_of _ (by decide +kernel)) ggX6_driftVerdict_X6_prepare
set_option maxRecDepth 20000 in
theorem ggX6_driftVerdict_X5_change : GoodIn wsX6_driftVerdict wsX5_change := goodIn_r _ [42, 17, 19, 21, 85, 86, 87, 88, 89, 90, 91] (by decide +kernel) (by decide +kernel)
set_option maxRecDepth 20000 in
theorem gX6_driftVerdict_X5_change : GoodIn wsX6_driftVerdict (wsV RX6 353 RX5 yX5_change wsX5_change) := goodIn_app (goodIn_of _ (by decide +kernel)) ggX6_driftVerdict_X5_change
set_option maxRecDepth 20000 in
theorem ggX6_driftVerdict_X5_verdictHeld : GoodIn wsX6_driftVerdict wsX5_verdictHeld := goodIn_r _ [46, 47, 26, 19, 17, 35, 36, 37, 38, 48, 49, 50, 15, 51, 21, 27, 52, 53, 54, 55, 24, 85, 86, 87, 88, 89, 90, 91] (by decide +kernel) (by decide +kernel)
set_option maxRecDepth 20000 in
theorem gX6_driftVerdict_X5_verdictHeld : GoodIn wsX6_driftVerdict (wsV RX6 236 RX5 yX5_verdictHeld wsX5_verdictHeld) := goodIn_app (goodIn_of _ (by decide +kernel)) ggX6_driftVerdict_X5_verdictHeld
