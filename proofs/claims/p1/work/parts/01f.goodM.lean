set_option maxRecDepth 20000 in
theorem ggX7_feed_X7_in : GoodIn wsX7_feed wsX7_in := goodIn_r _ [7] (by decide +kernel) (by decide +kernel)
set_option maxRecDepth 20000 in
theorem gX7_feed_X7_in : GoodIn wsX7_feed (va_wsS RX7 52 yX7_in wsX7_in) := goodIn_app (goodIn_of _ (by decide +kernel)) ggX7_feed_X7_in
set_option maxRecDepth 20000 in
theorem ggX7_end_X7_in : GoodIn wsX7_end wsX7_in := goodIn_r _ [5] (by decide +kernel) (by decide +kernel)
set_option maxRecDepth 20000 in
theorem gX7_end_X7_in : GoodIn wsX7_end (va_wsS RX7 52 yX7_in wsX7_in) := goodIn_app (goodIn_of _ (by decide +kernel)) ggX7_end_X7_in
set_option maxRecDepth 20000 in
theorem ggX7_nameHere_X7_byteAt : GoodIn wsX7_nameHere wsX7_byteAt := goodIn_r _ [10, 11, 12, 13, 14, 15, 16, 17, 18, 19, 20, 21, 22, 23, 24, 25, 26, 27, 28, 29, 30, 31, 32, 33, 34, 35, 36, 37, 38, 39, 40, 41, 42, 43, 44, 45, 46, 47, 48] (by decide +kernel) (by decide +kernel)
set_option maxRecDepth 20000 in
theorem gX7_nameHere_X7_byteAt : GoodIn wsX7_nameHere (wsV RX7 75 RX7 yX7_byteAt wsX7_byteAt) := goodIn_app (goodIn_of _ (by decide +kernel)) ggX7_nameHere_X7_byteAt
set_option maxRecDepth 20000 in
theorem ggX7_step_X7_byteAt : GoodIn wsX7_step wsX7_byteAt := goodIn_r _ [14, 15, 16, 25, 26, 27, 28, 29, 30, 31, 32, 33, 34, 35, 36, 37, 38, 39, 40, 41, 42, 43, 44, 45, 46, 47, 48, 49, 50, 51, 52, 53, 54, 55, 56, 57, 58, 59, 60] (by decide +kernel) (by decide +kernel)
set_option maxRecDepth 20000 in
theorem gX7_step_X7_byteAt : GoodIn wsX7_step (wsV RX7 75 RX7 yX7_byteAt wsX7_byteAt) := goodIn_app (goodIn_of _ (by decide +kernel)) ggX7_step_X7_byteAt
set_option maxRecDepth 20000 in
theorem ggX7_step_X7_in : GoodIn wsX7_step wsX7_in := goodIn_r _ [19] (by decide +kernel) (by decide +kernel)
set_option maxRecDepth 20000 in
theorem gX7_step_X7_in : GoodIn wsX7_step (va_wsS RX7 52 yX7_in wsX7_in) := goodIn_app (goodIn_of _ (by decide +kernel)) ggX7_step_X7_in
set_option maxRecDepth 20000 in
theorem ggX7_step_X7_fails : GoodIn wsX7_step wsX7_fails := goodIn_r _ [23, 1, 3, 24, 25, 26, 27, 28, 29, 30, 31, 32, 33, 34, 35, 36, 37, 38, 39, 40, 41, 42, 43, 44, 45, 46, 47, 48, 49, 50, 51, 52, 53, 54, 55, 56, 57, 58, 59, 60] (by decide +kernel) (by decide +kernel)
set_option maxRecDepth 20000 in
theorem gX7_step_X7_fails : GoodIn wsX7_step (wsV RX7 90 RX7 yX7_fails wsX7_fails) := goodIn_app (goodIn_of _ (by decide +kernel)) ggX7_step_X7_fails
set_option maxRecDepth 20000 in
theorem ggX7_number_X7_fails : GoodIn wsX7_number wsX7_fails := goodIn_r _ [8, 1, 9, 10, 29, 30, 31, 32, 33, 34, 35, 36, 37, 38, 39, 40, 41, 42, 43, 44, 45, 46, 47, 48, 49, 50, 51, 52, 53, 54, 55, 56, 57, 58, 59, 60, 61, 62, 63, 64] (by decide +kernel) (by decide +kernel)
set_option maxRecDepth 20000 in
theorem gX7_number_X7_fails : GoodIn wsX7_number (wsV RX7 90 RX7 yX7_fails wsX7_fails) := goodIn_app (goodIn_of _ (by decide +kernel)) ggX7_number_X7_fails
set_option maxRecDepth 20000 in
theorem ggX7_number_X7_in : GoodIn wsX7_number wsX7_in := goodIn_r _ [13] (by decide +kernel) (by decide +kernel)
set_option maxRecDepth 20000 in
theorem gX7_number_X7_in : GoodIn wsX7_number (va_wsS RX7 52 yX7_in wsX7_in) := goodIn_app (goodIn_of _ (by decide +kernel)) ggX7_number_X7_in
set_option maxRecDepth 20000 in
theorem ggX7_number_X7_step : GoodIn wsX7_number wsX7_step := goodIn_r _ [17, 1, 18, 9, 3, 2, 19, 20, 21, 22, 23, 24, 25, 7, 26, 27, 28, 11, 12, 13, 4, 5, 6, 8, 10, 29, 30, 31, 32, 33, 34, 35, 36, 37, 38, 39, 40, 41, 42, 43, 44, 45, 46, 47, 48, 49, 50, 51, 52, 53, 54, 55, 56, 57, 58, 59, 60, 61, 62, 63, 64] (by decide +kernel) (by decide +kernel)
set_option maxRecDepth 20000 in
theorem gX7_number_X7_step : GoodIn wsX7_number (wsV RX7 94 RX7 yX7_step wsX7_step) := goodIn_app (goodIn_of _ (by decide +kernel)) ggX7_number_X7_step
set_option maxRecDepth 20000 in
theorem ggX7_readFlame_X7_nameHere : GoodIn wsX7_readFlame wsX7_nameHere := goodIn_r _ [9, 4, 10, 11, 12, 13, 14, 15, 16, 8, 17, 18, 19, 41, 42, 43, 44, 45, 46, 47, 48, 49, 50, 51, 52, 53, 54, 55, 56, 57, 58, 59, 60, 61, 62, 63, 64, 65, 66, 67, 68, 69, 70, 71, 72, 73, 74, 75, 76] (by decide +kernel) (by decide +kernel)
set_option maxRecDepth 20000 in
theorem gX7_readFlame_X7_nameHere : GoodIn wsX7_readFlame (wsV RX7 97 RX7 yX7_nameHere wsX7_nameHere) := goodIn_app (goodIn_of _ (by decide +kernel)) ggX7_readFlame_X7_nameHere
set_option maxRecDepth 20000 in
theorem ggX7_readFlame_X7_in : GoodIn wsX7_readFlame wsX7_in := goodIn_r _ [22] (by decide +kernel) (by decide +kernel)
set_option maxRecDepth 20000 in
theorem gX7_readFlame_X7_in : GoodIn wsX7_readFlame (va_wsS RX7 52 yX7_in wsX7_in) := goodIn_app (goodIn_of _ (by decide +kernel)) ggX7_readFlame_X7_in
set_option maxRecDepth 20000 in
theorem ggX7_readFlame_X7_fails : GoodIn wsX7_readFlame wsX7_fails := goodIn_r _ [26, 1, 11, 27, 41, 42, 43, 44, 45, 46, 47, 48, 49, 50, 51, 52, 53, 54, 55, 56, 57, 58, 59, 60, 61, 62, 63, 64, 65, 66, 67, 68, 69, 70, 71, 72, 73, 74, 75, 76] (by decide +kernel) (by decide +kernel)
set_option maxRecDepth 20000 in
theorem gX7_readFlame_X7_fails : GoodIn wsX7_readFlame (wsV RX7 90 RX7 yX7_fails wsX7_fails) := goodIn_app (goodIn_of _ (by decide +kernel)) ggX7_readFlame_X7_fails
set_option maxRecDepth 20000 in
theorem ggX7_readFlame_X7_step : GoodIn wsX7_readFlame wsX7_step := goodIn_r _ [31, 1, 10, 11, 32, 4, 33, 34, 35, 36, 14, 15, 16, 8, 17, 18, 19, 20, 21, 22, 23, 24, 25, 26, 27, 41, 42, 43, 44, 45, 46, 47, 48, 49, 50, 51, 52, 53, 54, 55, 56, 57, 58, 59, 60, 61, 62, 63, 64, 65, 66, 67, 68, 69, 70, 71, 72, 73, 74, 75, 76] (by decide +kernel) (by decide +kernel)
set_option maxRecDepth 20000 in
theorem gX7_readFlame_X7_step : GoodIn wsX7_readFlame (wsV RX7 94 RX7 yX7_step wsX7_step) := goodIn_app (goodIn_of _ (by decide +kernel)) ggX7_readFlame_X7_step
set_option maxRecDepth 20000 in
theorem ggX7_readFlame_X7_number : GoodIn wsX7_readFlame wsX7_number := goodIn_r _ [40, 1, 4, 32, 23, 24, 25, 8, 26, 11, 27, 20, 21, 22, 28, 29, 30, 31, 10, 33, 34, 35, 36, 14, 15, 16, 17, 18, 19, 41, 42, 43, 44, 45, 46, 47, 48, 49, 50, 51, 52, 53, 54, 55, 56, 57, 58, 59, 60, 61, 62, 63, 64, 65, 66, 67, 68, 69, 70, 71, 72, 73, 74, 75, 76] (by decide +kernel) (by decide +kernel)
set_option maxRecDepth 20000 in
theorem gX7_readFlame_X7_number : GoodIn wsX7_readFlame (wsV RX7 103 RX7 yX7_number wsX7_number) := goodIn_app (goodIn_of _ (by decide +kernel)) ggX7_readFlame_X7_number
set_option maxRecDepth 20000 in
theorem ggX7_readDocket_X7_fails : GoodIn wsX7_readDocket wsX7_fails := goodIn_r _ [10, 1, 11, 12, 36, 37, 38, 39, 40, 41, 42, 43, 44, 45, 46, 47, 48, 49, 50, 51, 52, 53, 54, 55, 56, 57, 58, 59, 60, 61, 62, 63, 64, 65, 66, 67, 68, 69, 70, 71] (by decide +kernel) (by decide +kernel)
set_option maxRecDepth 20000 in
theorem gX7_readDocket_X7_fails : GoodIn wsX7_readDocket (wsV RX7 90 RX7 yX7_fails wsX7_fails) := goodIn_app (goodIn_of _ (by decide +kernel)) ggX7_readDocket_X7_fails
set_option maxRecDepth 20000 in
theorem ggX7_readDocket_X7_number : GoodIn wsX7_readDocket wsX7_number := goodIn_r _ [16, 1, 2, 17, 6, 7, 8, 9, 10, 11, 12, 18, 19, 20, 21, 22, 23, 24, 25, 26, 27, 28, 29, 30, 31, 32, 33, 34, 35, 36, 37, 38, 39, 40, 41, 42, 43, 44, 45, 46, 47, 48, 49, 50, 51, 52, 53, 54, 55, 56, 57, 58, 59, 60, 61, 62, 63, 64, 65, 66, 67, 68, 69, 70, 71] (by decide +kernel) (by decide +kernel)
set_option maxRecDepth 20000 in
theorem gX7_readDocket_X7_number : GoodIn wsX7_readDocket (wsV RX7 103 RX7 yX7_number wsX7_number) := goodIn_app (goodIn_of _ (by decide +kernel)) ggX7_readDocket_X7_number
set_option maxRecDepth 20000 in
theorem ggX7_readMore_X7_readFlame : GoodIn wsX7_readMore wsX7_readFlame := goodIn_r _ [8, 9, 10, 2, 11, 12, 13, 14, 7, 15, 16, 17, 18, 19, 20, 21, 22, 23, 24, 25, 26, 27, 28, 29, 30, 31, 32, 33, 34, 35, 36, 37, 38, 39, 40, 41, 42, 43, 44, 45, 46, 53, 54, 55, 56, 57, 58, 59, 60, 61, 62, 63, 64, 65, 66, 67, 68, 69, 70, 71, 72, 73, 74, 75, 76, 77, 78, 79, 80, 81, 82, 83, 84, 85, 86, 87, 88] (by decide +kernel) (by decide +kernel)
set_option maxRecDepth 20000 in
theorem gX7_readMore_X7_readFlame : GoodIn wsX7_readMore (wsV RX7 116 RX7 yX7_readFlame wsX7_readFlame) := goodIn_app (goodIn_of _ (by decide +kernel)) ggX7_readMore_X7_readFlame
set_option maxRecDepth 20000 in
theorem ggX7_readMore_X7_number : GoodIn wsX7_readMore wsX7_number := goodIn_r _ [46, 9, 11, 38, 29, 30, 31, 7, 32, 17, 33, 26, 27, 28, 34, 35, 36, 37, 16, 39, 40, 41, 42, 20, 21, 22, 23, 24, 25, 53, 54, 55, 56, 57, 58, 59, 60, 61, 62, 63, 64, 65, 66, 67, 68, 69, 70, 71, 72, 73, 74, 75, 76, 77, 78, 79, 80, 81, 82, 83, 84, 85, 86, 87, 88] (by decide +kernel) (by decide +kernel)
set_option maxRecDepth 20000 in
theorem gX7_readMore_X7_number : GoodIn wsX7_readMore (wsV RX7 103 RX7 yX7_number wsX7_number) := goodIn_app (goodIn_of _ (by decide +kernel)) ggX7_readMore_X7_number
set_option maxRecDepth 20000 in
theorem ggX7_readMore_X7_readDocket : GoodIn wsX7_readMore wsX7_readDocket := goodIn_r _ [50, 9, 11, 2, 51, 52, 29, 30, 31, 7, 32, 17, 33, 43, 44, 45, 46, 38, 26, 27, 28, 34, 35, 36, 37, 16, 39, 40, 41, 42, 20, 21, 22, 23, 24, 25, 53, 54, 55, 56, 57, 58, 59, 60, 61, 62, 63, 64, 65, 66, 67, 68, 69, 70, 71, 72, 73, 74, 75, 76, 77, 78, 79, 80, 81, 82, 83, 84, 85, 86, 87, 88] (by decide +kernel) (by decide +kernel)
set_option maxRecDepth 20000 in
theorem gX7_readMore_X7_readDocket : GoodIn wsX7_readMore (wsV RX7 119 RX7 yX7_readDocket wsX7_readDocket) := goodIn_app (goodIn_of _ (by decide +kernel)) ggX7_readMore_X7_readDocket
set_option maxRecDepth 20000 in
theorem ggX7_readLine_X7_nameHere : GoodIn wsX7_readLine wsX7_nameHere := goodIn_r _ [13, 8, 14, 15, 16, 17, 18, 19, 20, 12, 21, 22, 23, 60, 61, 62, 63, 64, 65, 66, 67, 68, 69, 70, 71, 72, 73, 74, 75, 76, 77, 78, 79, 80, 81, 82, 83, 84, 85, 86, 87, 88, 89, 90, 91, 92, 93, 94, 95] (by decide +kernel) (by decide +kernel)
set_option maxRecDepth 20000 in
theorem gX7_readLine_X7_nameHere : GoodIn wsX7_readLine (wsV RX7 97 RX7 yX7_nameHere wsX7_nameHere) := goodIn_app (goodIn_of _ (by decide +kernel)) ggX7_readLine_X7_nameHere
set_option maxRecDepth 20000 in
theorem ggX7_readLine_X7_in : GoodIn wsX7_readLine wsX7_in := goodIn_r _ [26] (by decide +kernel) (by decide +kernel)
set_option maxRecDepth 20000 in
theorem gX7_readLine_X7_in : GoodIn wsX7_readLine (va_wsS RX7 52 yX7_in wsX7_in) := goodIn_app (goodIn_of _ (by decide +kernel)) ggX7_readLine_X7_in
set_option maxRecDepth 20000 in
theorem ggX7_readLine_X7_fails : GoodIn wsX7_readLine wsX7_fails := goodIn_r _ [30, 7, 15, 31, 60, 61, 62, 63, 64, 65, 66, 67, 68, 69, 70, 71, 72, 73, 74, 75, 76, 77, 78, 79, 80, 81, 82, 83, 84, 85, 86, 87, 88, 89, 90, 91, 92, 93, 94, 95] (by decide +kernel) (by decide +kernel)
set_option maxRecDepth 20000 in
theorem gX7_readLine_X7_fails : GoodIn wsX7_readLine (wsV RX7 90 RX7 yX7_fails wsX7_fails) := goodIn_app (goodIn_of _ (by decide +kernel)) ggX7_readLine_X7_fails
set_option maxRecDepth 20000 in
theorem ggX7_readLine_X7_step : GoodIn wsX7_readLine wsX7_step := goodIn_r _ [35, 7, 14, 15, 36, 8, 37, 38, 39, 40, 18, 19, 20, 12, 21, 22, 23, 24, 25, 26, 27, 28, 29, 30, 31, 60, 61, 62, 63, 64, 65, 66, 67, 68, 69, 70, 71, 72, 73, 74, 75, 76, 77, 78, 79, 80, 81, 82, 83, 84, 85, 86, 87, 88, 89, 90, 91, 92, 93, 94, 95] (by decide +kernel) (by decide +kernel)
set_option maxRecDepth 20000 in
theorem gX7_readLine_X7_step : GoodIn wsX7_readLine (wsV RX7 94 RX7 yX7_step wsX7_step) := goodIn_app (goodIn_of _ (by decide +kernel)) ggX7_readLine_X7_step
set_option maxRecDepth 20000 in
theorem ggX7_readLine_X7_readMore : GoodIn wsX7_readLine wsX7_readMore := goodIn_r _ [44, 3, 5, 4, 45, 46, 47, 12, 48, 7, 49, 8, 9, 10, 11, 13, 14, 15, 16, 17, 18, 19, 20, 21, 22, 23, 24, 25, 26, 27, 28, 29, 30, 31, 32, 33, 34, 35, 36, 37, 38, 39, 40, 50, 51, 52, 53, 54, 55, 56, 57, 58, 59, 60, 61, 62, 63, 64, 65, 66, 67, 68, 69, 70, 71, 72, 73, 74, 75, 76, 77, 78, 79, 80, 81, 82, 83, 84, 85, 86, 87, 88, 89, 90, 91, 92, 93, 94, 95] (by decide +kernel) (by decide +kernel)
set_option maxRecDepth 20000 in
theorem gX7_readLine_X7_readMore : GoodIn wsX7_readLine (wsV RX7 133 RX7 yX7_readMore wsX7_readMore) := goodIn_app (goodIn_of _ (by decide +kernel)) ggX7_readLine_X7_readMore
set_option maxRecDepth 20000 in
theorem ggX7_text_X7_step : GoodIn wsX7_text wsX7_step := goodIn_r _ [22, 1, 2, 23, 24, 9, 25, 26, 27, 28, 29, 30, 31, 21, 32, 10, 33, 34, 35, 36, 37, 38, 39, 40, 12, 70, 71, 72, 73, 74, 75, 76, 77, 78, 79, 80, 81, 82, 83, 84, 85, 86, 87, 88, 89, 90, 91, 92, 93, 94, 95, 96, 97, 98, 99, 100, 101, 102, 103, 104, 105] (by decide +kernel) (by decide +kernel)
set_option maxRecDepth 20000 in
theorem gX7_text_X7_step : GoodIn wsX7_text (wsV RX7 94 RX7 yX7_step wsX7_step) := goodIn_app (goodIn_of _ (by decide +kernel)) ggX7_text_X7_step
set_option maxRecDepth 20000 in
theorem ggX7_text_X7_readLine : GoodIn wsX7_text wsX7_readLine := goodIn_r _ [44, 45, 46, 3, 4, 8, 5, 1, 9, 47, 48, 49, 21, 50, 2, 23, 51, 52, 29, 30, 31, 32, 10, 33, 34, 35, 36, 37, 38, 39, 40, 12, 18, 19, 20, 22, 24, 25, 26, 27, 28, 53, 54, 55, 56, 57, 58, 59, 60, 61, 62, 63, 64, 65, 66, 67, 68, 69, 6, 7, 70, 71, 72, 73, 74, 75, 76, 77, 78, 79, 80, 81, 82, 83, 84, 85, 86, 87, 88, 89, 90, 91, 92, 93, 94, 95, 96, 97, 98, 99, 100, 101, 102, 103, 104, 105] (by decide +kernel) (by decide +kernel)
set_option maxRecDepth 20000 in
theorem gX7_text_X7_readLine : GoodIn wsX7_text (wsV RX7 136 RX7 yX7_readLine wsX7_readLine) := goodIn_app (goodIn_of _ (by decide +kernel)) ggX7_text_X7_readLine
set_option maxRecDepth 20000 in
theorem ggX7_text_X7_fails : GoodIn wsX7_text wsX7_fails := goodIn_r _ [40, 1, 23, 12, 70, 71, 72, 73, 74, 75, 76, 77, 78, 79, 80, 81, 82, 83, 84, 85, 86, 87, 88, 89, 90, 91, 92, 93, 94, 95, 96, 97, 98, 99, 100, 101, 102, 103, 104, 105] (by decide +kernel) (by decide +kernel)
set_option maxRecDepth 20000 in
theorem gX7_text_X7_fails : GoodIn wsX7_text (wsV RX7 90 RX7 yX7_fails wsX7_fails) := goodIn_app (goodIn_of _ (by decide +kernel)) ggX7_text_X7_fails
set_option maxRecDepth 20000 in
theorem ggX7_isCase_X7_in : GoodIn wsX7_isCase wsX7_in := goodIn_r _ [5] (by decide +kernel) (by decide +kernel)
set_option maxRecDepth 20000 in
theorem gX7_isCase_X7_in : GoodIn wsX7_isCase (va_wsS RX7 52 yX7_in wsX7_in) := goodIn_app (goodIn_of _ (by decide +kernel)) ggX7_isCase_X7_in
set_option maxRecDepth 20000 in
theorem ggX7_isJudge_X7_in : GoodIn wsX7_isJudge wsX7_in := goodIn_r _ [5] (by decide +kernel) (by decide +kernel)
set_option maxRecDepth 20000 in
theorem gX7_isJudge_X7_in : GoodIn wsX7_isJudge (va_wsS RX7 52 yX7_in wsX7_in) := goodIn_app (goodIn_of _ (by decide +kernel)) ggX7_isJudge_X7_in
set_option maxRecDepth 20000 in
theorem ggX7_isSide_X7_in : GoodIn wsX7_isSide wsX7_in := goodIn_r _ [4] (by decide +kernel) (by decide +kernel)
set_option maxRecDepth 20000 in
theorem gX7_isSide_X7_in : GoodIn wsX7_isSide (va_wsS RX7 52 yX7_in wsX7_in) := goodIn_app (goodIn_of _ (by decide +kernel)) ggX7_isSide_X7_in
set_option maxRecDepth 20000 in
theorem ggX7_isOut_X7_isBlown : GoodIn wsX7_isOut wsX7_isBlown := goodIn_r _ [6, 7, 8, 1, 9, 10, 11, 12, 13, 14, 15, 16, 17, 18, 19, 20, 21, 22, 23, 24, 25, 26, 27, 28, 29, 30, 31, 32, 33, 34, 35, 36, 37, 38, 39, 40, 41, 42, 43, 44, 45] (by decide +kernel) (by decide +kernel)
set_option maxRecDepth 20000 in
theorem gX7_isOut_X7_isBlown : GoodIn wsX7_isOut (wsV RX7 160 RX7 yX7_isBlown wsX7_isBlown) := goodIn_app (goodIn_of _ (by decide +kernel)) ggX7_isOut_X7_isBlown
set_option maxRecDepth 20000 in
theorem ggX7_hearsOn_X7_isOut : GoodIn wsX7_hearsOn wsX7_isOut := goodIn_r _ [7, 1, 8, 9, 10, 6, 11, 12, 13, 14, 24, 25, 26, 27, 28, 29, 30, 31, 32, 33, 34, 35, 36, 37, 38, 39, 40, 41, 42, 43, 44, 45, 46, 47, 48, 49, 50, 51, 52, 53, 54, 55, 56, 57, 58, 59] (by decide +kernel) (by decide +kernel)
set_option maxRecDepth 20000 in
theorem gX7_hearsOn_X7_isOut : GoodIn wsX7_hearsOn (wsV RX7 164 RX7 yX7_isOut wsX7_isOut) := goodIn_app (goodIn_of _ (by decide +kernel)) ggX7_hearsOn_X7_isOut
set_option maxRecDepth 20000 in
theorem ggX7_hearsOn_X7_goesTo : GoodIn wsX7_hearsOn wsX7_goesTo := goodIn_r _ [18, 1, 24, 25, 26, 27, 28, 29, 30, 31, 32, 33, 34, 35, 36, 37, 38, 39, 40, 41, 42, 43, 44, 45, 46, 47, 48, 49, 50, 51, 52, 53, 54, 55, 56, 57, 58, 59] (by decide +kernel) (by decide +kernel)
set_option maxRecDepth 20000 in
theorem gX7_hearsOn_X7_goesTo : GoodIn wsX7_hearsOn (wsV RX7 167 RX7 yX7_goesTo wsX7_goesTo) := goodIn_app (goodIn_of _ (by decide +kernel)) ggX7_hearsOn_X7_goesTo
set_option maxRecDepth 20000 in
theorem ggX7_hearsOn_X7_burnsOn : GoodIn wsX7_hearsOn wsX7_burnsOn := goodIn_r _ [22, 1, 23, 24, 25, 26, 27, 28, 29, 30, 31, 32, 33, 34, 35, 36, 37, 38, 39, 40, 41, 42, 43, 44, 45, 46, 47, 48, 49, 50, 51, 52, 53, 54, 55, 56, 57, 58, 59] (by decide +kernel) (by decide +kernel)
set_option maxRecDepth 20000 in
theorem gX7_hearsOn_X7_burnsOn : GoodIn wsX7_hearsOn (wsV RX7 174 RX7 yX7_burnsOn wsX7_burnsOn) := goodIn_app (goodIn_of _ (by decide +kernel)) ggX7_hearsOn_X7_burnsOn
set_option maxRecDepth 20000 in
theorem ggX7_rule_X7_wonOn : GoodIn wsX7_rule wsX7_wonOn := goodIn_r _ [8, 1, 3, 13, 14, 15, 16, 17, 18, 19, 20, 21, 22, 23, 24, 25, 26, 27, 28, 29, 30, 31, 32, 33, 34, 35, 36, 37, 38, 39, 40, 41, 42, 43, 44, 45, 46, 47, 48] (by decide +kernel) (by decide +kernel)
set_option maxRecDepth 20000 in
theorem gX7_rule_X7_wonOn : GoodIn wsX7_rule (wsV RX7 178 RX7 yX7_wonOn wsX7_wonOn) := goodIn_app (goodIn_of _ (by decide +kernel)) ggX7_rule_X7_wonOn
set_option maxRecDepth 20000 in
theorem ggX7_rule_X7_lengthsOn : GoodIn wsX7_rule wsX7_lengthsOn := goodIn_r _ [12, 1, 3, 13, 14, 15, 16, 17, 18, 19, 20, 21, 22, 23, 24, 25, 26, 27, 28, 29, 30, 31, 32, 33, 34, 35, 36, 37, 38, 39, 40, 41, 42, 43, 44, 45, 46, 47, 48] (by decide +kernel) (by decide +kernel)
set_option maxRecDepth 20000 in
theorem gX7_rule_X7_lengthsOn : GoodIn wsX7_rule (wsV RX7 181 RX7 yX7_lengthsOn wsX7_lengthsOn) := goodIn_app (goodIn_of _ (by decide +kernel)) ggX7_rule_X7_lengthsOn
set_option maxRecDepth 20000 in
theorem ggX7_flame_X7_isCase : GoodIn wsX7_flame wsX7_isCase := goodIn_r _ [8, 9, 10, 11, 7, 12, 16, 17, 18, 19, 20, 21, 22, 23, 24, 25, 26, 27, 28, 29, 30, 31, 32, 33, 34, 35, 36, 37, 38, 39, 40, 41, 42, 43, 44, 45, 46, 47, 48, 49, 50, 51] (by decide +kernel) (by decide +kernel)
set_option maxRecDepth 20000 in
theorem gX7_flame_X7_isCase : GoodIn wsX7_flame (wsV RX7 184 RX7 yX7_isCase wsX7_isCase) := goodIn_app (goodIn_of _ (by decide +kernel)) ggX7_flame_X7_isCase
set_option maxRecDepth 20000 in
theorem ggX7_flame_X7_isSide : GoodIn wsX7_flame wsX7_isSide := goodIn_r _ [15, 10, 11, 7, 12] (by decide +kernel) (by decide +kernel)
set_option maxRecDepth 20000 in
theorem gX7_flame_X7_isSide : GoodIn wsX7_flame (va_wsS RX7 188 yX7_isSide wsX7_isSide) := goodIn_app (goodIn_of _ (by decide +kernel)) ggX7_flame_X7_isSide
set_option maxRecDepth 20000 in
theorem ggX7_flame_X7_in : GoodIn wsX7_flame wsX7_in := goodIn_r _ [12] (by decide +kernel) (by decide +kernel)
set_option maxRecDepth 20000 in
theorem gX7_flame_X7_in : GoodIn wsX7_flame (va_wsS RX7 52 yX7_in wsX7_in) := goodIn_app (goodIn_of _ (by decide +kernel)) ggX7_flame_X7_in
set_option maxRecDepth 20000 in
theorem ggX7_suit_X7_isCase : GoodIn wsX7_suit wsX7_isCase := goodIn_r _ [7, 8, 9, 10, 6, 11, 12, 13, 14, 15, 16, 17, 18, 19, 20, 21, 22, 23, 24, 25, 26, 27, 28, 29, 30, 31, 32, 33, 34, 35, 36, 37, 38, 39, 40, 41, 42, 43, 44, 45, 46, 47] (by decide +kernel) (by decide +kernel)
set_option maxRecDepth 20000 in
theorem gX7_suit_X7_isCase : GoodIn wsX7_suit (wsV RX7 184 RX7 yX7_isCase wsX7_isCase) := goodIn_app (goodIn_of _ (by decide +kernel)) ggX7_suit_X7_isCase
set_option maxRecDepth 20000 in
theorem ggX7_suit_X7_in : GoodIn wsX7_suit wsX7_in := goodIn_r _ [11] (by decide +kernel) (by decide +kernel)
set_option maxRecDepth 20000 in
theorem gX7_suit_X7_in : GoodIn wsX7_suit (va_wsS RX7 52 yX7_in wsX7_in) := goodIn_app (goodIn_of _ (by decide +kernel)) ggX7_suit_X7_in
set_option maxRecDepth 20000 in
theorem ggX7_judge_X7_isJudge : GoodIn wsX7_judge wsX7_isJudge := goodIn_r _ [6, 7, 8, 9, 5, 10, 11, 12, 13, 14, 15, 16, 17, 18, 19, 20, 21, 22, 23, 24, 25, 26, 27, 28, 29, 30, 31, 32, 33, 34, 35, 36, 37, 38, 39, 40, 41, 42, 43, 44, 45, 46] (by decide +kernel) (by decide +kernel)
set_option maxRecDepth 20000 in
theorem gX7_judge_X7_isJudge : GoodIn wsX7_judge (wsV RX7 191 RX7 yX7_isJudge wsX7_isJudge) := goodIn_app (goodIn_of _ (by decide +kernel)) ggX7_judge_X7_isJudge
set_option maxRecDepth 20000 in
theorem ggX7_judge_X7_in : GoodIn wsX7_judge wsX7_in := goodIn_r _ [10] (by decide +kernel) (by decide +kernel)
set_option maxRecDepth 20000 in
theorem gX7_judge_X7_in : GoodIn wsX7_judge (va_wsS RX7 52 yX7_in wsX7_in) := goodIn_app (goodIn_of _ (by decide +kernel)) ggX7_judge_X7_in
set_option maxRecDepth 20000 in
theorem ggX7_draught_X7_in : GoodIn wsX7_draught wsX7_in := goodIn_r _ [5] (by decide +kernel) (by decide +kernel)
set_option maxRecDepth 20000 in
theorem gX7_draught_X7_in : GoodIn wsX7_draught (va_wsS RX7 52 yX7_in wsX7_in) := goodIn_app (goodIn_of _ (by decide +kernel)) ggX7_draught_X7_in
set_option maxRecDepth 20000 in
theorem ggX7_docket_X7_in : GoodIn wsX7_docket wsX7_in := goodIn_r _ [5] (by decide +kernel) (by decide +kernel)
set_option maxRecDepth 20000 in
theorem gX7_docket_X7_in : GoodIn wsX7_docket (va_wsS RX7 52 yX7_in wsX7_in) := goodIn_app (goodIn_of _ (by decide +kernel)) ggX7_docket_X7_in
set_option maxRecDepth 20000 in
theorem ggX7_trim_X7_in : GoodIn wsX7_trim wsX7_in := goodIn_r _ [8] (by decide +kernel) (by decide +kernel)
set_option maxRecDepth 20000 in
theorem gX7_trim_X7_in : GoodIn wsX7_trim (va_wsS RX7 52 yX7_in wsX7_in) := goodIn_app (goodIn_of _ (by decide +kernel)) ggX7_trim_X7_in
set_option maxRecDepth 20000 in
theorem ggX7_trim_X7_isCase : GoodIn wsX7_trim wsX7_isCase := goodIn_r _ [12, 13, 5, 6, 7, 8, 21, 22, 23, 24, 25, 26, 27, 28, 29, 30, 31, 32, 33, 34, 35, 36, 37, 38, 39, 40, 41, 42, 43, 44, 45, 46, 47, 48, 49, 50, 51, 52, 53, 54, 55, 56] (by decide +kernel) (by decide +kernel)
set_option maxRecDepth 20000 in
theorem gX7_trim_X7_isCase : GoodIn wsX7_trim (wsV RX7 184 RX7 yX7_isCase wsX7_isCase) := goodIn_app (goodIn_of _ (by decide +kernel)) ggX7_trim_X7_isCase
set_option maxRecDepth 20000 in
theorem ggX7_trim_X7_isSide : GoodIn wsX7_trim wsX7_isSide := goodIn_r _ [16, 5, 6, 7, 8] (by decide +kernel) (by decide +kernel)
set_option maxRecDepth 20000 in
theorem gX7_trim_X7_isSide : GoodIn wsX7_trim (va_wsS RX7 188 yX7_isSide wsX7_isSide) := goodIn_app (goodIn_of _ (by decide +kernel)) ggX7_trim_X7_isSide
set_option maxRecDepth 20000 in
theorem ggX7_trim_X7_puts : GoodIn wsX7_trim wsX7_puts := goodIn_r _ [20, 4, 21, 22, 23, 24, 25, 26, 27, 28, 29, 30, 31, 32, 33, 34, 35, 36, 37, 38, 39, 40, 41, 42, 43, 44, 45, 46, 47, 48, 49, 50, 51, 52, 53, 54, 55, 56] (by decide +kernel) (by decide +kernel)
set_option maxRecDepth 20000 in
theorem gX7_trim_X7_puts : GoodIn wsX7_trim (wsV RX7 198 RX7 yX7_puts wsX7_puts) := goodIn_app (goodIn_of _ (by decide +kernel)) ggX7_trim_X7_puts
set_option maxRecDepth 20000 in
theorem ggX7_train_X7_isJudge : GoodIn wsX7_train wsX7_isJudge := goodIn_r _ [7, 8, 9, 10, 6, 11, 17, 18, 19, 20, 21, 22, 23, 24, 25, 26, 27, 28, 29, 30, 31, 32, 33, 34, 35, 36, 37, 38, 39, 40, 41, 42, 43, 44, 45, 46, 47, 48, 49, 50, 51, 52] (by decide +kernel) (by decide +kernel)
set_option maxRecDepth 20000 in
theorem gX7_train_X7_isJudge : GoodIn wsX7_train (wsV RX7 191 RX7 yX7_isJudge wsX7_isJudge) := goodIn_app (goodIn_of _ (by decide +kernel)) ggX7_train_X7_isJudge
set_option maxRecDepth 20000 in
theorem ggX7_train_X7_in : GoodIn wsX7_train wsX7_in := goodIn_r _ [11] (by decide +kernel) (by decide +kernel)
set_option maxRecDepth 20000 in
theorem gX7_train_X7_in : GoodIn wsX7_train (va_wsS RX7 52 yX7_in wsX7_in) := goodIn_app (goodIn_of _ (by decide +kernel)) ggX7_train_X7_in
set_option maxRecDepth 20000 in
theorem ggX7_train_X7_puts : GoodIn wsX7_train wsX7_puts := goodIn_r _ [15, 16, 17, 18, 19, 20, 21, 22, 23, 24, 25, 26, 27, 28, 29, 30, 31, 32, 33, 34, 35, 36, 37, 38, 39, 40, 41, 42, 43, 44, 45, 46, 47, 48, 49, 50, 51, 52] (by decide +kernel) (by decide +kernel)
set_option maxRecDepth 20000 in
theorem gX7_train_X7_puts : GoodIn wsX7_train (wsV RX7 198 RX7 yX7_puts wsX7_puts) := goodIn_app (goodIn_of _ (by decide +kernel)) ggX7_train_X7_puts
set_option maxRecDepth 20000 in
theorem ggX7_blow_X7_in : GoodIn wsX7_blow wsX7_in := goodIn_r _ [7] (by decide +kernel) (by decide +kernel)
set_option maxRecDepth 20000 in
theorem gX7_blow_X7_in : GoodIn wsX7_blow (va_wsS RX7 52 yX7_in wsX7_in) := goodIn_app (goodIn_of _ (by decide +kernel)) ggX7_blow_X7_in
set_option maxRecDepth 20000 in
theorem ggX7_calm_X7_in : GoodIn wsX7_calm wsX7_in := goodIn_r _ [5] (by decide +kernel) (by decide +kernel)
set_option maxRecDepth 20000 in
theorem gX7_calm_X7_in : GoodIn wsX7_calm (va_wsS RX7 52 yX7_in wsX7_in) := goodIn_app (goodIn_of _ (by decide +kernel)) ggX7_calm_X7_in
set_option maxRecDepth 20000 in
theorem ggX7_calm_X7_puts : GoodIn wsX7_calm wsX7_puts := goodIn_r _ [9, 1, 10, 11, 12, 13, 14, 15, 16, 17, 18, 19, 20, 21, 22, 23, 24, 25, 26, 27, 28, 29, 30, 31, 32, 33, 34, 35, 36, 37, 38, 39, 40, 41, 42, 43, 44, 45] (by decide +kernel) (by decide +kernel)
set_option maxRecDepth 20000 in
theorem gX7_calm_X7_puts : GoodIn wsX7_calm (wsV RX7 198 RX7 yX7_puts wsX7_puts) := goodIn_app (goodIn_of _ (by decide +kernel)) ggX7_calm_X7_puts
set_option maxRecDepth 20000 in
theorem ggX7_plan_X7_isCase : GoodIn wsX7_plan wsX7_isCase := goodIn_r _ [6, 7, 8, 9, 5, 10, 16, 17, 18, 19, 20, 21, 22, 23, 24, 25, 26, 27, 28, 29, 30, 31, 32, 33, 34, 35, 36, 37, 38, 39, 40, 41, 42, 43, 44, 45, 46, 47, 48, 49, 50, 51] (by decide +kernel) (by decide +kernel)
set_option maxRecDepth 20000 in
theorem gX7_plan_X7_isCase : GoodIn wsX7_plan (wsV RX7 184 RX7 yX7_isCase wsX7_isCase) := goodIn_app (goodIn_of _ (by decide +kernel)) ggX7_plan_X7_isCase
set_option maxRecDepth 20000 in
theorem ggX7_plan_X7_isJudge : GoodIn wsX7_plan wsX7_isJudge := goodIn_r _ [14, 15, 8, 9, 5, 10, 16, 17, 18, 19, 20, 21, 22, 23, 24, 25, 26, 27, 28, 29, 30, 31, 32, 33, 34, 35, 36, 37, 38, 39, 40, 41, 42, 43, 44, 45, 46, 47, 48, 49, 50, 51] (by decide +kernel) (by decide +kernel)
set_option maxRecDepth 20000 in
theorem gX7_plan_X7_isJudge : GoodIn wsX7_plan (wsV RX7 191 RX7 yX7_isJudge wsX7_isJudge) := goodIn_app (goodIn_of _ (by decide +kernel)) ggX7_plan_X7_isJudge
set_option maxRecDepth 20000 in
theorem ggX7_cut_X7_in : GoodIn wsX7_cut wsX7_in := goodIn_r _ [5] (by decide +kernel) (by decide +kernel)
set_option maxRecDepth 20000 in
theorem gX7_cut_X7_in : GoodIn wsX7_cut (va_wsS RX7 52 yX7_in wsX7_in) := goodIn_app (goodIn_of _ (by decide +kernel)) ggX7_cut_X7_in
set_option maxRecDepth 20000 in
theorem ggX7_cut_X7_puts : GoodIn wsX7_cut wsX7_puts := goodIn_r _ [9, 1, 10, 11, 12, 13, 14, 15, 16, 17, 18, 19, 20, 21, 22, 23, 24, 25, 26, 27, 28, 29, 30, 31, 32, 33, 34, 35, 36, 37, 38, 39, 40, 41, 42, 43, 44, 45] (by decide +kernel) (by decide +kernel)
set_option maxRecDepth 20000 in
theorem gX7_cut_X7_puts : GoodIn wsX7_cut (wsV RX7 198 RX7 yX7_puts wsX7_puts) := goodIn_app (goodIn_of _ (by decide +kernel)) ggX7_cut_X7_puts
set_option maxRecDepth 20000 in
theorem ggX7_isHeard_X7_isCase : GoodIn wsX7_isHeard wsX7_isCase := goodIn_r _ [5, 6, 7, 8, 4, 9, 15, 16, 17, 18, 19, 20, 21, 22, 23, 24, 25, 26, 27, 28, 29, 30, 31, 32, 33, 34, 35, 36, 37, 38, 39, 40, 41, 42, 43, 44, 45, 46, 47, 48, 49, 50] (by decide +kernel) (by decide +kernel)
set_option maxRecDepth 20000 in
theorem gX7_isHeard_X7_isCase : GoodIn wsX7_isHeard (wsV RX7 184 RX7 yX7_isCase wsX7_isCase) := goodIn_app (goodIn_of _ (by decide +kernel)) ggX7_isHeard_X7_isCase
set_option maxRecDepth 20000 in
theorem ggX7_isHeard_X7_isJudge : GoodIn wsX7_isHeard wsX7_isJudge := goodIn_r _ [13, 14, 7, 8, 4, 9, 15, 16, 17, 18, 19, 20, 21, 22, 23, 24, 25, 26, 27, 28, 29, 30, 31, 32, 33, 34, 35, 36, 37, 38, 39, 40, 41, 42, 43, 44, 45, 46, 47, 48, 49, 50] (by decide +kernel) (by decide +kernel)
set_option maxRecDepth 20000 in
theorem gX7_isHeard_X7_isJudge : GoodIn wsX7_isHeard (wsV RX7 191 RX7 yX7_isJudge wsX7_isJudge) := goodIn_app (goodIn_of _ (by decide +kernel)) ggX7_isHeard_X7_isJudge
set_option maxRecDepth 20000 in
theorem ggX7_judgesOn_X7_hearsOn : GoodIn wsX7_judgesOn wsX7_hearsOn := goodIn_r _ [7, 1, 2, 8, 9, 10, 6, 11, 12, 13, 14, 15, 16, 17, 18, 19, 20, 21, 22, 23, 24, 25, 26, 27, 28, 29, 30, 31, 32, 33, 34, 35, 36, 37, 38, 39, 40, 41, 42, 43, 44, 45, 46, 47, 48, 49, 50, 51, 52, 53, 54, 55, 56, 57, 58, 59, 60, 61, 62, 63] (by decide +kernel) (by decide +kernel)
set_option maxRecDepth 20000 in
theorem gX7_judgesOn_X7_hearsOn : GoodIn wsX7_judgesOn (wsV RX7 204 RX7 yX7_hearsOn wsX7_hearsOn) := goodIn_app (goodIn_of _ (by decide +kernel)) ggX7_judgesOn_X7_hearsOn
set_option maxRecDepth 20000 in
theorem ggX7_hears_X7_isHeard : GoodIn wsX7_hears wsX7_isHeard := goodIn_r _ [6, 7, 8, 9, 5, 10, 11, 12, 13, 14, 15, 16, 17, 18, 19, 49, 50, 51, 52, 53, 54, 55, 56, 57, 58, 59, 60, 61, 62, 63, 64, 65, 66, 67, 68, 69, 70, 71, 72, 73, 74, 75, 76, 77, 78, 79, 80, 81, 82, 83, 84] (by decide +kernel) (by decide +kernel)
set_option maxRecDepth 20000 in
theorem gX7_hears_X7_isHeard : GoodIn wsX7_hears (wsV RX7 207 RX7 yX7_isHeard wsX7_isHeard) := goodIn_app (goodIn_of _ (by decide +kernel)) ggX7_hears_X7_isHeard
set_option maxRecDepth 20000 in
theorem ggX7_hears_X7_judgesOn : GoodIn wsX7_hears wsX7_judgesOn := goodIn_r _ [23, 1, 24, 25, 26, 27, 5, 28, 29, 30, 31, 32, 33, 34, 35, 36, 37, 38, 39, 40, 41, 42, 43, 44, 45, 46, 47, 48, 49, 50, 51, 52, 53, 54, 55, 56, 57, 58, 59, 60, 61, 62, 63, 64, 65, 66, 67, 68, 69, 70, 71, 72, 73, 74, 75, 76, 77, 78, 79, 80, 81, 82, 83, 84] (by decide +kernel) (by decide +kernel)
set_option maxRecDepth 20000 in
theorem gX7_hears_X7_judgesOn : GoodIn wsX7_hears (wsV RX7 211 RX7 yX7_judgesOn wsX7_judgesOn) := goodIn_app (goodIn_of _ (by decide +kernel)) ggX7_hears_X7_judgesOn
set_option maxRecDepth 20000 in
theorem ggX7_hear_X7_hears : GoodIn wsX7_hear wsX7_hears := goodIn_r _ [5, 6, 7, 8, 9, 4, 10, 11, 12, 13, 14, 15, 16, 17, 18, 19, 20, 21, 22, 23, 24, 25, 26, 27, 28, 29, 30, 31, 32, 33, 34, 35, 36, 37, 38, 39, 40, 41, 42, 43, 44, 45, 46, 47, 48, 49, 50, 51, 52, 53, 54, 55, 56, 57, 58, 59, 60, 61, 62, 63, 64, 65, 66, 67, 68, 69, 70, 71, 72, 73, 74, 75, 76, 77, 78, 79, 80, 81, 82, 83, 84, 85, 86, 87, 88] (by decide +kernel) (by decide +kernel)
set_option maxRecDepth 20000 in
theorem gX7_hear_X7_hears : GoodIn wsX7_hear (wsV RX7 214 RX7 yX7_hears wsX7_hears) := goodIn_app (goodIn_of _ (by decide +kernel)) ggX7_hear_X7_hears
set_option maxRecDepth 20000 in
theorem ggX7_appeal_X7_isCase : GoodIn wsX7_appeal wsX7_isCase := goodIn_r _ [6, 7, 8, 9, 5, 10, 15, 16, 17, 18, 19, 20, 21, 22, 23, 24, 25, 26, 27, 28, 29, 30, 31, 32, 33, 34, 35, 36, 37, 38, 39, 40, 41, 42, 43, 44, 45, 46, 47, 48, 49, 50] (by decide +kernel) (by decide +kernel)
set_option maxRecDepth 20000 in
theorem gX7_appeal_X7_isCase : GoodIn wsX7_appeal (wsV RX7 184 RX7 yX7_isCase wsX7_isCase) := goodIn_app (goodIn_of _ (by decide +kernel)) ggX7_appeal_X7_isCase
set_option maxRecDepth 20000 in
theorem ggX7_appeal_X7_lengthOf : GoodIn wsX7_appeal wsX7_lengthOf := goodIn_r _ [14, 1, 15, 16, 17, 18, 19, 20, 21, 22, 23, 24, 25, 26, 27, 28, 29, 30, 31, 32, 33, 34, 35, 36, 37, 38, 39, 40, 41, 42, 43, 44, 45, 46, 47, 48, 49, 50] (by decide +kernel) (by decide +kernel)
set_option maxRecDepth 20000 in
theorem gX7_appeal_X7_lengthOf : GoodIn wsX7_appeal (wsV RX7 217 RX7 yX7_lengthOf wsX7_lengthOf) := goodIn_app (goodIn_of _ (by decide +kernel)) ggX7_appeal_X7_lengthOf
set_option maxRecDepth 20000 in
theorem ggX7_tries_X7_copies : GoodIn wsX7_tries wsX7_copies := goodIn_r _ [5, 6, 32, 33, 34, 35, 36, 37, 38, 39, 40, 41, 42, 43, 44, 45, 46, 47, 48, 49, 50, 51, 52, 53, 54, 55, 56, 57, 58, 59, 60, 61, 62, 63, 64, 65, 66, 67] (by decide +kernel) (by decide +kernel)
set_option maxRecDepth 20000 in
theorem gX7_tries_X7_copies : GoodIn wsX7_tries (wsV RX7 220 RX7 yX7_copies wsX7_copies) := goodIn_app (goodIn_of _ (by decide +kernel)) ggX7_tries_X7_copies
set_option maxRecDepth 20000 in
theorem ggX7_tries_X7_hearsOn : GoodIn wsX7_tries wsX7_hearsOn := goodIn_r _ [10, 6, 11, 12, 13, 14, 4, 15, 16, 17, 18, 19, 20, 21, 22, 23, 24, 25, 26, 27, 28, 29, 30, 31, 32, 33, 34, 35, 36, 37, 38, 39, 40, 41, 42, 43, 44, 45, 46, 47, 48, 49, 50, 51, 52, 53, 54, 55, 56, 57, 58, 59, 60, 61, 62, 63, 64, 65, 66, 67] (by decide +kernel) (by decide +kernel)
set_option maxRecDepth 20000 in
theorem gX7_tries_X7_hearsOn : GoodIn wsX7_tries (wsV RX7 204 RX7 yX7_hearsOn wsX7_hearsOn) := goodIn_app (goodIn_of _ (by decide +kernel)) ggX7_tries_X7_hearsOn
set_option maxRecDepth 20000 in
theorem ggX7_foretell_X7_isHeard : GoodIn wsX7_foretell wsX7_isHeard := goodIn_r _ [7, 8, 9, 10, 6, 11, 12, 13, 14, 15, 16, 17, 18, 19, 20, 58, 59, 60, 61, 62, 63, 64, 65, 66, 67, 68, 69, 70, 71, 72, 73, 74, 75, 76, 77, 78, 79, 80, 81, 82, 83, 84, 85, 86, 87, 88, 89, 90, 91, 92, 93] (by decide +kernel) (by decide +kernel)
set_option maxRecDepth 20000 in
theorem gX7_foretell_X7_isHeard : GoodIn wsX7_foretell (wsV RX7 207 RX7 yX7_isHeard wsX7_isHeard) := goodIn_app (goodIn_of _ (by decide +kernel)) ggX7_foretell_X7_isHeard
set_option maxRecDepth 20000 in
theorem ggX7_foretell_X7_in : GoodIn wsX7_foretell wsX7_in := goodIn_r _ [15] (by decide +kernel) (by decide +kernel)
set_option maxRecDepth 20000 in
theorem gX7_foretell_X7_in : GoodIn wsX7_foretell (va_wsS RX7 52 yX7_in wsX7_in) := goodIn_app (goodIn_of _ (by decide +kernel)) ggX7_foretell_X7_in
set_option maxRecDepth 20000 in
theorem ggX7_foretell_X7_tries : GoodIn wsX7_foretell wsX7_tries := goodIn_r _ [24, 25, 26, 27, 6, 28, 29, 30, 31, 32, 33, 2, 34, 35, 36, 37, 38, 39, 40, 41, 42, 43, 44, 45, 46, 47, 48, 49, 50, 51, 52, 53, 58, 59, 60, 61, 62, 63, 64, 65, 66, 67, 68, 69, 70, 71, 72, 73, 74, 75, 76, 77, 78, 79, 80, 81, 82, 83, 84, 85, 86, 87, 88, 89, 90, 91, 92, 93] (by decide +kernel) (by decide +kernel)
set_option maxRecDepth 20000 in
theorem gX7_foretell_X7_tries : GoodIn wsX7_foretell (wsV RX7 225 RX7 yX7_tries wsX7_tries) := goodIn_app (goodIn_of _ (by decide +kernel)) ggX7_foretell_X7_tries
set_option maxRecDepth 20000 in
theorem ggX7_foretell_X7_lengthOf : GoodIn wsX7_foretell wsX7_lengthOf := goodIn_r _ [57, 29, 58, 59, 60, 61, 62, 63, 64, 65, 66, 67, 68, 69, 70, 71, 72, 73, 74, 75, 76, 77, 78, 79, 80, 81, 82, 83, 84, 85, 86, 87, 88, 89, 90, 91, 92, 93] (by decide +kernel) (by decide +kernel)
set_option maxRecDepth 20000 in
theorem gX7_foretell_X7_lengthOf : GoodIn wsX7_foretell (wsV RX7 217 RX7 yX7_lengthOf wsX7_lengthOf) := goodIn_app (goodIn_of _ (by decide +kernel)) ggX7_foretell_X7_lengthOf
set_option maxRecDepth 20000 in
theorem ggX7_docketGoes_X7_copies : GoodIn wsX7_docketGoes wsX7_copies := goodIn_r _ [9, 3, 38, 39, 40, 41, 42, 43, 44, 45, 46, 47, 48, 49, 50, 51, 52, 53, 54, 55, 56, 57, 58, 59, 60, 61, 62, 63, 64, 65, 66, 67, 68, 69, 70, 71, 72, 73] (by decide +kernel) (by decide +kernel)
set_option maxRecDepth 20000 in
theorem gX7_docketGoes_X7_copies : GoodIn wsX7_docketGoes (wsV RX7 220 RX7 yX7_copies wsX7_copies) := goodIn_app (goodIn_of _ (by decide +kernel)) ggX7_docketGoes_X7_copies
set_option maxRecDepth 20000 in
theorem ggX7_docketGoes_X7_judgesOn : GoodIn wsX7_docketGoes wsX7_judgesOn := goodIn_r _ [13, 3, 4, 14, 15, 16, 8, 17, 18, 19, 20, 21, 22, 23, 24, 25, 26, 27, 28, 29, 30, 31, 32, 33, 34, 35, 36, 37, 38, 39, 40, 41, 42, 43, 44, 45, 46, 47, 48, 49, 50, 51, 52, 53, 54, 55, 56, 57, 58, 59, 60, 61, 62, 63, 64, 65, 66, 67, 68, 69, 70, 71, 72, 73] (by decide +kernel) (by decide +kernel)
set_option maxRecDepth 20000 in
theorem gX7_docketGoes_X7_judgesOn : GoodIn wsX7_docketGoes (wsV RX7 211 RX7 yX7_judgesOn wsX7_judgesOn) := goodIn_app (goodIn_of _ (by decide +kernel)) ggX7_docketGoes_X7_judgesOn
set_option maxRecDepth 20000 in
theorem ggX7_runs_X7_in : GoodIn wsX7_runs wsX7_in := goodIn_r _ [7] (by decide +kernel) (by decide +kernel)
set_option maxRecDepth 20000 in
theorem gX7_runs_X7_in : GoodIn wsX7_runs (va_wsS RX7 52 yX7_in wsX7_in) := goodIn_app (goodIn_of _ (by decide +kernel)) ggX7_runs_X7_in
set_option maxRecDepth 20000 in
theorem ggX7_runs_X7_docketGoes : GoodIn wsX7_runs wsX7_docketGoes := goodIn_r _ [11, 2, 3, 12, 13, 14, 15, 16, 6, 17, 18, 19, 20, 21, 22, 23, 24, 25, 26, 27, 28, 29, 30, 31, 32, 33, 34, 35, 36, 37, 38, 39, 40, 41, 42, 43, 44, 45, 51, 52, 53, 54, 55, 56, 57, 58, 59, 60, 61, 62, 63, 64, 65, 66, 67, 68, 69, 70, 71, 72, 73, 74, 75, 76, 77, 78, 79, 80, 81, 82, 83, 84, 85, 86] (by decide +kernel) (by decide +kernel)
set_option maxRecDepth 20000 in
theorem gX7_runs_X7_docketGoes : GoodIn wsX7_runs (wsV RX7 234 RX7 yX7_docketGoes wsX7_docketGoes) := goodIn_app (goodIn_of _ (by decide +kernel)) ggX7_runs_X7_docketGoes
set_option maxRecDepth 20000 in
theorem ggX7_runs_X7_wonOn : GoodIn wsX7_runs wsX7_wonOn := goodIn_r _ [49, 50, 12, 51, 52, 53, 54, 55, 56, 57, 58, 59, 60, 61, 62, 63, 64, 65, 66, 67, 68, 69, 70, 71, 72, 73, 74, 75, 76, 77, 78, 79, 80, 81, 82, 83, 84, 85, 86] (by decide +kernel) (by decide +kernel)
set_option maxRecDepth 20000 in
theorem gX7_runs_X7_wonOn : GoodIn wsX7_runs (wsV RX7 178 RX7 yX7_wonOn wsX7_wonOn) := goodIn_app (goodIn_of _ (by decide +kernel)) ggX7_runs_X7_wonOn
set_option maxRecDepth 20000 in
theorem ggX7_ahead_X7_isCase : GoodIn wsX7_ahead wsX7_isCase := goodIn_r _ [6, 7, 8, 9, 5, 10, 50, 51, 52, 53, 54, 55, 56, 57, 58, 59, 60, 61, 62, 63, 64, 65, 66, 67, 68, 69, 70, 71, 72, 73, 74, 75, 76, 77, 78, 79, 80, 81, 82, 83, 84, 85] (by decide +kernel) (by decide +kernel)
set_option maxRecDepth 20000 in
theorem gX7_ahead_X7_isCase : GoodIn wsX7_ahead (wsV RX7 184 RX7 yX7_isCase wsX7_isCase) := goodIn_app (goodIn_of _ (by decide +kernel)) ggX7_ahead_X7_isCase
set_option maxRecDepth 20000 in
theorem ggX7_ahead_X7_docketGoes : GoodIn wsX7_ahead wsX7_docketGoes := goodIn_r _ [14, 15, 16, 1, 17, 18, 19, 20, 5, 21, 22, 23, 24, 25, 26, 27, 28, 29, 30, 31, 32, 33, 34, 35, 36, 37, 38, 39, 40, 41, 42, 43, 44, 45, 46, 47, 48, 49, 50, 51, 52, 53, 54, 55, 56, 57, 58, 59, 60, 61, 62, 63, 64, 65, 66, 67, 68, 69, 70, 71, 72, 73, 74, 75, 76, 77, 78, 79, 80, 81, 82, 83, 84, 85] (by decide +kernel) (by decide +kernel)
set_option maxRecDepth 20000 in
theorem gX7_ahead_X7_docketGoes : GoodIn wsX7_ahead (wsV RX7 234 RX7 yX7_docketGoes wsX7_docketGoes) := goodIn_app (goodIn_of _ (by decide +kernel)) ggX7_ahead_X7_docketGoes
set_option maxRecDepth 20000 in
theorem ggX7_isWonBy_X7_tries : GoodIn wsX7_isWonBy wsX7_tries := goodIn_r _ [5, 6, 7, 8, 4, 9, 10, 11, 12, 13, 14, 15, 16, 17, 18, 19, 20, 21, 22, 23, 24, 25, 26, 27, 28, 29, 30, 31, 32, 33, 34, 35, 36, 37, 38, 39, 40, 41, 42, 43, 44, 45, 46, 47, 48, 49, 50, 51, 52, 53, 54, 55, 56, 57, 58, 59, 60, 61, 62, 63, 64, 65, 66, 67, 68, 69, 70, 71] (by decide +kernel) (by decide +kernel)
set_option maxRecDepth 20000 in
theorem gX7_isWonBy_X7_tries : GoodIn wsX7_isWonBy (wsV RX7 225 RX7 yX7_tries wsX7_tries) := goodIn_app (goodIn_of _ (by decide +kernel)) ggX7_isWonBy_X7_tries
set_option maxRecDepth 20000 in
theorem ggX7_friends_X7_isCase : GoodIn wsX7_friends wsX7_isCase := goodIn_r _ [6, 7, 8, 9, 5, 10, 52, 53, 54, 55, 56, 57, 58, 59, 60, 61, 62, 63, 64, 65, 66, 67, 68, 69, 70, 71, 72, 73, 74, 75, 76, 77, 78, 79, 80, 81, 82, 83, 84, 85, 86, 87] (by decide +kernel) (by decide +kernel)
set_option maxRecDepth 20000 in
theorem gX7_friends_X7_isCase : GoodIn wsX7_friends (wsV RX7 184 RX7 yX7_isCase wsX7_isCase) := goodIn_app (goodIn_of _ (by decide +kernel)) ggX7_friends_X7_isCase
set_option maxRecDepth 20000 in
theorem ggX7_friends_X7_isSide : GoodIn wsX7_friends wsX7_isSide := goodIn_r _ [13, 8, 9, 5, 10] (by decide +kernel) (by decide +kernel)
set_option maxRecDepth 20000 in
theorem gX7_friends_X7_isSide : GoodIn wsX7_friends (va_wsS RX7 188 yX7_isSide wsX7_isSide) := goodIn_app (goodIn_of _ (by decide +kernel)) ggX7_friends_X7_isSide
set_option maxRecDepth 20000 in
theorem ggX7_friends_X7_isWonBy : GoodIn wsX7_friends wsX7_isWonBy := goodIn_r _ [17, 18, 19, 20, 5, 21, 22, 23, 24, 25, 26, 27, 28, 29, 30, 31, 32, 33, 34, 35, 36, 37, 38, 39, 40, 41, 42, 43, 44, 45, 46, 47, 48, 49, 50, 51, 52, 53, 54, 55, 56, 57, 58, 59, 60, 61, 62, 63, 64, 65, 66, 67, 68, 69, 70, 71, 72, 73, 74, 75, 76, 77, 78, 79, 80, 81, 82, 83, 84, 85, 86, 87] (by decide +kernel) (by decide +kernel)
set_option maxRecDepth 20000 in
theorem gX7_friends_X7_isWonBy : GoodIn wsX7_friends (wsV RX7 237 RX7 yX7_isWonBy wsX7_isWonBy) := goodIn_app (goodIn_of _ (by decide +kernel)) ggX7_friends_X7_isWonBy
set_option maxRecDepth 20000 in
theorem ggX7_leastOf_X7_isHeard : GoodIn wsX7_leastOf wsX7_isHeard := goodIn_r _ [6, 7, 8, 9, 5, 10, 11, 12, 13, 14, 15, 16, 17, 18, 19, 60, 61, 62, 63, 64, 65, 66, 67, 68, 69, 70, 71, 72, 73, 74, 75, 76, 77, 78, 79, 80, 81, 82, 83, 84, 85, 86, 87, 88, 89, 90, 91, 92, 93, 94, 95] (by decide +kernel) (by decide +kernel)
set_option maxRecDepth 20000 in
theorem gX7_leastOf_X7_isHeard : GoodIn wsX7_leastOf (wsV RX7 207 RX7 yX7_isHeard wsX7_isHeard) := goodIn_app (goodIn_of _ (by decide +kernel)) ggX7_leastOf_X7_isHeard
set_option maxRecDepth 20000 in
theorem ggX7_leastOf_X7_isSide : GoodIn wsX7_leastOf wsX7_isSide := goodIn_r _ [22, 12, 13, 5, 14] (by decide +kernel) (by decide +kernel)
set_option maxRecDepth 20000 in
theorem gX7_leastOf_X7_isSide : GoodIn wsX7_leastOf (va_wsS RX7 188 yX7_isSide wsX7_isSide) := goodIn_app (goodIn_of _ (by decide +kernel)) ggX7_leastOf_X7_isSide
set_option maxRecDepth 20000 in
theorem ggX7_leastOf_X7_copies : GoodIn wsX7_leastOf wsX7_copies := goodIn_r _ [26, 1, 60, 61, 62, 63, 64, 65, 66, 67, 68, 69, 70, 71, 72, 73, 74, 75, 76, 77, 78, 79, 80, 81, 82, 83, 84, 85, 86, 87, 88, 89, 90, 91, 92, 93, 94, 95] (by decide +kernel) (by decide +kernel)
set_option maxRecDepth 20000 in
theorem gX7_leastOf_X7_copies : GoodIn wsX7_leastOf (wsV RX7 220 RX7 yX7_copies wsX7_copies) := goodIn_app (goodIn_of _ (by decide +kernel)) ggX7_leastOf_X7_copies
set_option maxRecDepth 20000 in
theorem ggX7_leastOf_X7_isWonBy : GoodIn wsX7_leastOf wsX7_isWonBy := goodIn_r _ [30, 31, 32, 33, 5, 34, 23, 24, 25, 26, 1, 35, 36, 37, 38, 39, 40, 41, 42, 43, 44, 45, 46, 47, 48, 49, 50, 51, 52, 53, 54, 55, 56, 57, 58, 59, 60, 61, 62, 63, 64, 65, 66, 67, 68, 69, 70, 71, 72, 73, 74, 75, 76, 77, 78, 79, 80, 81, 82, 83, 84, 85, 86, 87, 88, 89, 90, 91, 92, 93, 94, 95] (by decide +kernel) (by decide +kernel)
set_option maxRecDepth 20000 in
theorem gX7_leastOf_X7_isWonBy : GoodIn wsX7_leastOf (wsV RX7 237 RX7 yX7_isWonBy wsX7_isWonBy) := goodIn_app (goodIn_of _ (by decide +kernel)) ggX7_leastOf_X7_isWonBy
set_option maxRecDepth 20000 in
theorem ggX7_wax_X7_leastOf : GoodIn wsX7_wax wsX7_leastOf := goodIn_r _ [5, 6, 7, 8, 9, 4, 10, 11, 12, 13, 14, 15, 16, 17, 18, 19, 20, 21, 22, 23, 24, 25, 26, 27, 28, 29, 30, 31, 32, 33, 34, 35, 36, 37, 38, 39, 40, 41, 42, 43, 44, 45, 46, 47, 48, 49, 50, 51, 52, 53, 54, 55, 56, 57, 58, 59, 60, 61, 62, 63, 64, 65, 66, 67, 68, 69, 70, 71, 72, 73, 74, 75, 76, 77, 78, 79, 80, 81, 82, 83, 84, 85, 86, 87, 88, 89, 90, 91, 92, 93, 94, 95, 96, 97, 98, 99] (by decide +kernel) (by decide +kernel)
set_option maxRecDepth 20000 in
theorem gX7_wax_X7_leastOf : GoodIn wsX7_wax (wsV RX7 241 RX7 yX7_leastOf wsX7_leastOf) := goodIn_app (goodIn_of _ (by decide +kernel)) ggX7_wax_X7_leastOf
set_option maxRecDepth 20000 in
theorem ggX7_least_X7_leastOf : GoodIn wsX7_least wsX7_leastOf := goodIn_r _ [5, 6, 7, 8, 9, 4, 10, 11, 12, 13, 14, 15, 16, 17, 18, 19, 20, 21, 22, 23, 24, 25, 26, 27, 28, 29, 30, 31, 32, 33, 34, 35, 36, 37, 38, 39, 40, 41, 42, 43, 44, 45, 46, 47, 48, 49, 50, 51, 52, 53, 54, 55, 56, 57, 58, 59, 60, 61, 62, 63, 64, 65, 66, 67, 68, 69, 70, 71, 72, 73, 74, 75, 76, 77, 78, 79, 80, 81, 82, 83, 84, 85, 86, 87, 88, 89, 90, 91, 92, 93, 94, 95, 96, 97, 98, 99] (by decide +kernel) (by decide +kernel)
set_option maxRecDepth 20000 in
theorem gX7_least_X7_leastOf : GoodIn wsX7_least (wsV RX7 241 RX7 yX7_leastOf wsX7_leastOf) := goodIn_app (goodIn_of _ (by decide +kernel)) ggX7_least_X7_leastOf
set_option maxRecDepth 20000 in
theorem ggX7_hand_X7_leastOf : GoodIn wsX7_hand wsX7_leastOf := goodIn_r _ [5, 6, 7, 8, 9, 4, 10, 11, 12, 13, 14, 15, 16, 17, 18, 19, 20, 21, 22, 23, 24, 25, 26, 27, 28, 29, 30, 31, 32, 33, 34, 35, 36, 37, 38, 39, 40, 41, 42, 43, 44, 45, 46, 47, 48, 49, 50, 51, 52, 53, 54, 55, 56, 57, 58, 59, 60, 61, 62, 63, 64, 65, 66, 67, 68, 69, 70, 71, 72, 73, 74, 75, 76, 77, 78, 79, 80, 81, 82, 83, 84, 85, 86, 87, 88, 89, 90, 91, 92, 93, 94, 95, 96, 97, 98, 99] (by decide +kernel) (by decide +kernel)
set_option maxRecDepth 20000 in
theorem gX7_hand_X7_leastOf : GoodIn wsX7_hand (wsV RX7 241 RX7 yX7_leastOf wsX7_leastOf) := goodIn_app (goodIn_of _ (by decide +kernel)) ggX7_hand_X7_leastOf
set_option maxRecDepth 20000 in
theorem ggX7_turn_X7_isHeard : GoodIn wsX7_turn wsX7_isHeard := goodIn_r _ [8, 9, 10, 11, 7, 12, 13, 14, 15, 16, 17, 18, 19, 20, 21, 54, 55, 56, 57, 58, 59, 60, 61, 62, 63, 64, 65, 66, 67, 68, 69, 70, 71, 72, 73, 74, 75, 76, 77, 78, 79, 80, 81, 82, 83, 84, 85, 86, 87, 88, 89] (by decide +kernel) (by decide +kernel)
set_option maxRecDepth 20000 in
theorem gX7_turn_X7_isHeard : GoodIn wsX7_turn (wsV RX7 207 RX7 yX7_isHeard wsX7_isHeard) := goodIn_app (goodIn_of _ (by decide +kernel)) ggX7_turn_X7_isHeard
set_option maxRecDepth 20000 in
theorem ggX7_turn_X7_in : GoodIn wsX7_turn wsX7_in := goodIn_r _ [16] (by decide +kernel) (by decide +kernel)
set_option maxRecDepth 20000 in
theorem gX7_turn_X7_in : GoodIn wsX7_turn (va_wsS RX7 52 yX7_in wsX7_in) := goodIn_app (goodIn_of _ (by decide +kernel)) ggX7_turn_X7_in
set_option maxRecDepth 20000 in
theorem ggX7_turn_X7_tries : GoodIn wsX7_turn wsX7_tries := goodIn_r _ [25, 26, 27, 28, 7, 29, 30, 31, 32, 33, 34, 35, 36, 37, 38, 39, 40, 41, 42, 43, 3, 2, 44, 45, 46, 47, 48, 49, 50, 51, 52, 53, 54, 55, 56, 57, 58, 59, 60, 61, 62, 63, 64, 65, 66, 67, 68, 69, 70, 71, 72, 73, 74, 75, 76, 77, 78, 79, 80, 81, 82, 83, 84, 85, 86, 87, 88, 89] (by decide +kernel) (by decide +kernel)
set_option maxRecDepth 20000 in
theorem gX7_turn_X7_tries : GoodIn wsX7_turn (wsV RX7 225 RX7 yX7_tries wsX7_tries) := goodIn_app (goodIn_of _ (by decide +kernel)) ggX7_turn_X7_tries
set_option maxRecDepth 20000 in
theorem ggX7_byGuards_X7_copies : GoodIn wsX7_byGuards wsX7_copies := goodIn_r _ [6, 1, 36, 37, 38, 39, 40, 41, 42, 43, 44, 45, 46, 47, 48, 49, 50, 51, 52, 53, 54, 55, 56, 57, 58, 59, 60, 61, 62, 63, 64, 65, 66, 67, 68, 69, 70, 71] (by decide +kernel) (by decide +kernel)
set_option maxRecDepth 20000 in
theorem gX7_byGuards_X7_copies : GoodIn wsX7_byGuards (wsV RX7 220 RX7 yX7_copies wsX7_copies) := goodIn_app (goodIn_of _ (by decide +kernel)) ggX7_byGuards_X7_copies
set_option maxRecDepth 20000 in
theorem ggX7_byGuards_X7_tries : GoodIn wsX7_byGuards wsX7_tries := goodIn_r _ [10, 2, 3, 4, 5, 6, 1, 11, 12, 13, 14, 15, 16, 17, 18, 19, 20, 21, 22, 23, 24, 25, 26, 27, 28, 29, 30, 31, 32, 33, 34, 35, 36, 37, 38, 39, 40, 41, 42, 43, 44, 45, 46, 47, 48, 49, 50, 51, 52, 53, 54, 55, 56, 57, 58, 59, 60, 61, 62, 63, 64, 65, 66, 67, 68, 69, 70, 71] (by decide +kernel) (by decide +kernel)
set_option maxRecDepth 20000 in
theorem gX7_byGuards_X7_tries : GoodIn wsX7_byGuards (wsV RX7 225 RX7 yX7_tries wsX7_tries) := goodIn_app (goodIn_of _ (by decide +kernel)) ggX7_byGuards_X7_tries
set_option maxRecDepth 20000 in
theorem ggX7_sure_X7_isHeard : GoodIn wsX7_sure wsX7_isHeard := goodIn_r _ [5, 6, 7, 8, 4, 9, 10, 11, 12, 13, 14, 15, 16, 17, 18, 60, 61, 62, 63, 64, 65, 66, 67, 68, 69, 70, 71, 72, 73, 74, 75, 76, 77, 78, 79, 80, 81, 82, 83, 84, 85, 86, 87, 88, 89, 90, 91, 92, 93, 94, 95] (by decide +kernel) (by decide +kernel)
set_option maxRecDepth 20000 in
theorem gX7_sure_X7_isHeard : GoodIn wsX7_sure (wsV RX7 207 RX7 yX7_isHeard wsX7_isHeard) := goodIn_app (goodIn_of _ (by decide +kernel)) ggX7_sure_X7_isHeard
set_option maxRecDepth 20000 in
theorem ggX7_sure_X7_isSide : GoodIn wsX7_sure wsX7_isSide := goodIn_r _ [21, 11, 12, 4, 13] (by decide +kernel) (by decide +kernel)
set_option maxRecDepth 20000 in
theorem gX7_sure_X7_isSide : GoodIn wsX7_sure (va_wsS RX7 188 yX7_isSide wsX7_isSide) := goodIn_app (goodIn_of _ (by decide +kernel)) ggX7_sure_X7_isSide
set_option maxRecDepth 20000 in
theorem ggX7_sure_X7_byGuards : GoodIn wsX7_sure wsX7_byGuards := goodIn_r _ [25, 26, 27, 28, 29, 4, 30, 31, 32, 33, 34, 35, 36, 37, 38, 39, 40, 41, 42, 43, 44, 45, 46, 47, 48, 49, 50, 51, 52, 53, 54, 55, 56, 57, 58, 59, 60, 61, 62, 63, 64, 65, 66, 67, 68, 69, 70, 71, 72, 73, 74, 75, 76, 77, 78, 79, 80, 81, 82, 83, 84, 85, 86, 87, 88, 89, 90, 91, 92, 93, 94, 95] (by decide +kernel) (by decide +kernel)
set_option maxRecDepth 20000 in
theorem gX7_sure_X7_byGuards : GoodIn wsX7_sure (wsV RX7 245 RX7 yX7_byGuards wsX7_byGuards) := goodIn_app (goodIn_of _ (by decide +kernel)) ggX7_sure_X7_byGuards
set_option maxRecDepth 20000 in
theorem ggX7_rest_X7_isHeard : GoodIn wsX7_rest wsX7_isHeard := goodIn_r _ [6, 7, 8, 9, 5, 10, 11, 12, 13, 14, 15, 16, 17, 18, 19, 62, 63, 64, 65, 66, 67, 68, 69, 70, 71, 72, 73, 74, 75, 76, 77, 78, 79, 80, 81, 82, 83, 84, 85, 86, 87, 88, 89, 90, 91, 92, 93, 94, 95, 96, 97] (by decide +kernel) (by decide +kernel)
set_option maxRecDepth 20000 in
theorem gX7_rest_X7_isHeard : GoodIn wsX7_rest (wsV RX7 207 RX7 yX7_isHeard wsX7_isHeard) := goodIn_app (goodIn_of _ (by decide +kernel)) ggX7_rest_X7_isHeard
set_option maxRecDepth 20000 in
theorem ggX7_rest_X7_in : GoodIn wsX7_rest wsX7_in := goodIn_r _ [14] (by decide +kernel) (by decide +kernel)
set_option maxRecDepth 20000 in
theorem gX7_rest_X7_in : GoodIn wsX7_rest (va_wsS RX7 52 yX7_in wsX7_in) := goodIn_app (goodIn_of _ (by decide +kernel)) ggX7_rest_X7_in
set_option maxRecDepth 20000 in
theorem ggX7_rest_X7_byGuards : GoodIn wsX7_rest wsX7_byGuards := goodIn_r _ [23, 24, 25, 26, 27, 5, 28, 29, 30, 31, 32, 33, 34, 35, 36, 37, 38, 39, 40, 41, 42, 43, 44, 45, 46, 47, 48, 49, 50, 51, 52, 53, 54, 55, 56, 57, 62, 63, 64, 65, 66, 67, 68, 69, 70, 71, 72, 73, 74, 75, 76, 77, 78, 79, 80, 81, 82, 83, 84, 85, 86, 87, 88, 89, 90, 91, 92, 93, 94, 95, 96, 97] (by decide +kernel) (by decide +kernel)
set_option maxRecDepth 20000 in
theorem gX7_rest_X7_byGuards : GoodIn wsX7_rest (wsV RX7 245 RX7 yX7_byGuards wsX7_byGuards) := goodIn_app (goodIn_of _ (by decide +kernel)) ggX7_rest_X7_byGuards
set_option maxRecDepth 20000 in
theorem ggX7_rest_X7_isRest : GoodIn wsX7_rest wsX7_isRest := goodIn_r _ [61, 1, 62, 63, 64, 65, 66, 67, 68, 69, 70, 71, 72, 73, 74, 75, 76, 77, 78, 79, 80, 81, 82, 83, 84, 85, 86, 87, 88, 89, 90, 91, 92, 93, 94, 95, 96, 97] (by decide +kernel) (by decide +kernel)
set_option maxRecDepth 20000 in
theorem gX7_rest_X7_isRest : GoodIn wsX7_rest (wsV RX7 249 RX7 yX7_isRest wsX7_isRest) := goodIn_app (goodIn_of _ (by decide +kernel)) ggX7_rest_X7_isRest
set_option maxRecDepth 20000 in
theorem ggX7_share_X7_isSide : GoodIn wsX7_share wsX7_isSide := goodIn_r _ [8, 9, 10, 7, 11] (by decide +kernel) (by decide +kernel)
set_option maxRecDepth 20000 in
theorem gX7_share_X7_isSide : GoodIn wsX7_share (va_wsS RX7 188 yX7_isSide wsX7_isSide) := goodIn_app (goodIn_of _ (by decide +kernel)) ggX7_share_X7_isSide
set_option maxRecDepth 20000 in
theorem ggX7_share_X7_in : GoodIn wsX7_share wsX7_in := goodIn_r _ [11] (by decide +kernel) (by decide +kernel)
set_option maxRecDepth 20000 in
theorem gX7_share_X7_in : GoodIn wsX7_share (va_wsS RX7 52 yX7_in wsX7_in) := goodIn_app (goodIn_of _ (by decide +kernel)) ggX7_share_X7_in
set_option maxRecDepth 20000 in
theorem ggX7_share_X7_isWonBy : GoodIn wsX7_share wsX7_isWonBy := goodIn_r _ [15, 16, 17, 18, 7, 19, 20, 21, 22, 23, 4, 24, 25, 26, 27, 28, 29, 30, 31, 32, 33, 34, 35, 36, 37, 38, 39, 40, 41, 42, 43, 44, 45, 46, 47, 48, 49, 50, 51, 52, 53, 54, 55, 56, 57, 58, 59, 60, 61, 62, 63, 64, 65, 66, 67, 68, 69, 70, 71, 72, 73, 74, 75, 76, 77, 78, 79, 80, 81, 82, 83, 84] (by decide +kernel) (by decide +kernel)
set_option maxRecDepth 20000 in
theorem gX7_share_X7_isWonBy : GoodIn wsX7_share (wsV RX7 237 RX7 yX7_isWonBy wsX7_isWonBy) := goodIn_app (goodIn_of _ (by decide +kernel)) ggX7_share_X7_isWonBy
set_option maxRecDepth 20000 in
theorem ggX7_wonThen_X7_docketGoes : GoodIn wsX7_wonThen wsX7_docketGoes := goodIn_r _ [5, 6, 7, 8, 9, 10, 11, 12, 4, 13, 14, 15, 16, 17, 18, 19, 20, 21, 22, 23, 24, 25, 26, 27, 28, 29, 30, 31, 32, 33, 34, 35, 36, 37, 38, 39, 40, 41, 50, 51, 52, 53, 54, 55, 56, 57, 58, 59, 60, 61, 62, 63, 64, 65, 66, 67, 68, 69, 70, 71, 72, 73, 74, 75, 76, 77, 78, 79, 80, 81, 82, 83, 84, 85] (by decide +kernel) (by decide +kernel)
set_option maxRecDepth 20000 in
theorem gX7_wonThen_X7_docketGoes : GoodIn wsX7_wonThen (wsV RX7 234 RX7 yX7_docketGoes wsX7_docketGoes) := goodIn_app (goodIn_of _ (by decide +kernel)) ggX7_wonThen_X7_docketGoes
set_option maxRecDepth 20000 in
theorem ggX7_wonThen_X7_wonOn : GoodIn wsX7_wonThen wsX7_wonOn := goodIn_r _ [45, 46, 8, 50, 51, 52, 53, 54, 55, 56, 57, 58, 59, 60, 61, 62, 63, 64, 65, 66, 67, 68, 69, 70, 71, 72, 73, 74, 75, 76, 77, 78, 79, 80, 81, 82, 83, 84, 85] (by decide +kernel) (by decide +kernel)
set_option maxRecDepth 20000 in
theorem gX7_wonThen_X7_wonOn : GoodIn wsX7_wonThen (wsV RX7 178 RX7 yX7_wonOn wsX7_wonOn) := goodIn_app (goodIn_of _ (by decide +kernel)) ggX7_wonThen_X7_wonOn
set_option maxRecDepth 20000 in
theorem ggX7_wonThen_X7_bitsOf : GoodIn wsX7_wonThen wsX7_bitsOf := goodIn_r _ [49] (by decide +kernel) (by decide +kernel)
set_option maxRecDepth 20000 in
theorem gX7_wonThen_X7_bitsOf : GoodIn wsX7_wonThen (va_wsS RX7 252 yX7_bitsOf wsX7_bitsOf) := goodIn_app (goodIn_of _ (by decide +kernel)) ggX7_wonThen_X7_bitsOf
set_option maxRecDepth 20000 in
theorem ggX7_swap_X7_isSide : GoodIn wsX7_swap wsX7_isSide := goodIn_r _ [5, 6, 7, 4, 8] (by decide +kernel) (by decide +kernel)
set_option maxRecDepth 20000 in
theorem gX7_swap_X7_isSide : GoodIn wsX7_swap (va_wsS RX7 188 yX7_isSide wsX7_isSide) := goodIn_app (goodIn_of _ (by decide +kernel)) ggX7_swap_X7_isSide
set_option maxRecDepth 20000 in
theorem ggX7_swap_X7_in : GoodIn wsX7_swap wsX7_in := goodIn_r _ [8] (by decide +kernel) (by decide +kernel)
set_option maxRecDepth 20000 in
theorem gX7_swap_X7_in : GoodIn wsX7_swap (va_wsS RX7 52 yX7_in wsX7_in) := goodIn_app (goodIn_of _ (by decide +kernel)) ggX7_swap_X7_in
set_option maxRecDepth 20000 in
theorem ggX7_swap_X7_wonThen : GoodIn wsX7_swap wsX7_wonThen := goodIn_r _ [12, 13, 14, 15, 4, 16, 17, 18, 1, 19, 20, 21, 22, 23, 24, 25, 26, 27, 28, 29, 30, 31, 32, 33, 34, 35, 36, 37, 38, 39, 40, 41, 42, 43, 44, 45, 46, 47, 48, 49, 50, 51, 52, 53, 54, 55, 56, 57, 58, 59, 60, 61, 62, 63, 64, 65, 66, 67, 68, 69, 70, 71, 72, 73, 74, 75, 76, 77, 78, 79, 80, 81, 82, 83, 84, 85, 86, 87, 88, 89, 90, 91, 92, 93, 94, 95] (by decide +kernel) (by decide +kernel)
set_option maxRecDepth 20000 in
theorem gX7_swap_X7_wonThen : GoodIn wsX7_swap (wsV RX7 255 RX7 yX7_wonThen wsX7_wonThen) := goodIn_app (goodIn_of _ (by decide +kernel)) ggX7_swap_X7_wonThen
set_option maxRecDepth 20000 in
theorem ggX7_swap_X7_copies : GoodIn wsX7_swap wsX7_copies := goodIn_r _ [23, 1, 60, 61, 62, 63, 64, 65, 66, 67, 68, 69, 70, 71, 72, 73, 74, 75, 76, 77, 78, 79, 80, 81, 82, 83, 84, 85, 86, 87, 88, 89, 90, 91, 92, 93, 94, 95] (by decide +kernel) (by decide +kernel)
set_option maxRecDepth 20000 in
theorem gX7_swap_X7_copies : GoodIn wsX7_swap (wsV RX7 220 RX7 yX7_copies wsX7_copies) := goodIn_app (goodIn_of _ (by decide +kernel)) ggX7_swap_X7_copies
set_option maxRecDepth 20000 in
theorem ggX7_byAway_X7_wonThen : GoodIn wsX7_byAway wsX7_wonThen := goodIn_r _ [8, 9, 10, 11, 7, 12, 13, 14, 1, 15, 16, 17, 18, 19, 20, 21, 22, 23, 24, 25, 26, 27, 28, 29, 30, 31, 32, 33, 34, 35, 36, 37, 3, 38, 39, 40, 41, 42, 43, 44, 45, 46, 47, 48, 49, 50, 51, 52, 53, 54, 66, 67, 68, 69, 70, 71, 72, 73, 74, 75, 76, 77, 78, 79, 80, 81, 82, 83, 84, 85, 86, 87, 88, 89, 90, 91, 92, 93, 94, 95, 96, 97, 98, 99, 100, 101] (by decide +kernel) (by decide +kernel)
set_option maxRecDepth 20000 in
theorem gX7_byAway_X7_wonThen : GoodIn wsX7_byAway (wsV RX7 255 RX7 yX7_wonThen wsX7_wonThen) := goodIn_app (goodIn_of _ (by decide +kernel)) ggX7_byAway_X7_wonThen
set_option maxRecDepth 20000 in
theorem ggX7_byAway_X7_isWonBy : GoodIn wsX7_byAway wsX7_isWonBy := goodIn_r _ [58, 59, 60, 61, 7, 62, 16, 17, 18, 19, 1, 24, 25, 26, 27, 15, 28, 29, 30, 31, 32, 33, 34, 35, 36, 37, 3, 38, 39, 40, 41, 42, 43, 44, 45, 46, 66, 67, 68, 69, 70, 71, 72, 73, 74, 75, 76, 77, 78, 79, 80, 81, 82, 83, 84, 85, 86, 87, 88, 89, 90, 91, 92, 93, 94, 95, 96, 97, 98, 99, 100, 101] (by decide +kernel) (by decide +kernel)
set_option maxRecDepth 20000 in
theorem gX7_byAway_X7_isWonBy : GoodIn wsX7_byAway (wsV RX7 237 RX7 yX7_isWonBy wsX7_isWonBy) := goodIn_app (goodIn_of _ (by decide +kernel)) ggX7_byAway_X7_isWonBy
set_option maxRecDepth 20000 in
theorem ggX7_byAway_X7_lowest : GoodIn wsX7_byAway wsX7_lowest := goodIn_r _ [65] (by decide +kernel) (by decide +kernel)
set_option maxRecDepth 20000 in
theorem gX7_byAway_X7_lowest : GoodIn wsX7_byAway (va_wsS RX7 258 yX7_lowest wsX7_lowest) := goodIn_app (goodIn_of _ (by decide +kernel)) ggX7_byAway_X7_lowest
set_option maxRecDepth 20000 in
theorem ggX7_luck_X7_in : GoodIn wsX7_luck wsX7_in := goodIn_r _ [6] (by decide +kernel) (by decide +kernel)
set_option maxRecDepth 20000 in
theorem gX7_luck_X7_in : GoodIn wsX7_luck (va_wsS RX7 52 yX7_in wsX7_in) := goodIn_app (goodIn_of _ (by decide +kernel)) ggX7_luck_X7_in
set_option maxRecDepth 20000 in
theorem ggX7_luck_X7_isHeard : GoodIn wsX7_luck wsX7_isHeard := goodIn_r _ [10, 11, 12, 13, 5, 14, 15, 3, 4, 6, 16, 17, 18, 19, 20, 90, 91, 92, 93, 94, 95, 96, 97, 98, 99, 100, 101, 102, 103, 104, 105, 106, 107, 108, 109, 110, 111, 112, 113, 114, 115, 116, 117, 118, 119, 120, 121, 122, 123, 124, 125] (by decide +kernel) (by decide +kernel)
set_option maxRecDepth 20000 in
theorem gX7_luck_X7_isHeard : GoodIn wsX7_luck (wsV RX7 207 RX7 yX7_isHeard wsX7_isHeard) := goodIn_app (goodIn_of _ (by decide +kernel)) ggX7_luck_X7_isHeard
set_option maxRecDepth 20000 in
theorem ggX7_luck_X7_isSide : GoodIn wsX7_luck wsX7_isSide := goodIn_r _ [23, 3, 4, 5, 6] (by decide +kernel) (by decide +kernel)
set_option maxRecDepth 20000 in
theorem gX7_luck_X7_isSide : GoodIn wsX7_luck (va_wsS RX7 188 yX7_isSide wsX7_isSide) := goodIn_app (goodIn_of _ (by decide +kernel)) ggX7_luck_X7_isSide
set_option maxRecDepth 20000 in
theorem ggX7_luck_X7_byAway : GoodIn wsX7_luck wsX7_byAway := goodIn_r _ [27, 28, 1, 29, 30, 31, 32, 5, 33, 34, 35, 36, 37, 38, 39, 40, 41, 42, 43, 44, 45, 46, 47, 48, 49, 50, 51, 52, 53, 54, 55, 56, 57, 58, 59, 60, 61, 62, 63, 64, 65, 66, 67, 68, 69, 70, 71, 72, 73, 74, 75, 15, 76, 77, 78, 79, 80, 81, 82, 83, 84, 85, 86, 87, 88, 89, 90, 91, 92, 93, 94, 95, 96, 97, 98, 99, 100, 101, 102, 103, 104, 105, 106, 107, 108, 109, 110, 111, 112, 113, 114, 115, 116, 117, 118, 119, 120, 121, 122, 123, 124, 125] (by decide +kernel) (by decide +kernel)
set_option maxRecDepth 20000 in
theorem gX7_luck_X7_byAway : GoodIn wsX7_luck (wsV RX7 262 RX7 yX7_byAway wsX7_byAway) := goodIn_app (goodIn_of _ (by decide +kernel)) ggX7_luck_X7_byAway
set_option maxRecDepth 20000 in
theorem ggX7_mean_X7_in : GoodIn wsX7_mean wsX7_in := goodIn_r _ [6] (by decide +kernel) (by decide +kernel)
set_option maxRecDepth 20000 in
theorem gX7_mean_X7_in : GoodIn wsX7_mean (va_wsS RX7 52 yX7_in wsX7_in) := goodIn_app (goodIn_of _ (by decide +kernel)) ggX7_mean_X7_in
set_option maxRecDepth 20000 in
theorem ggX7_mean_X7_isSide : GoodIn wsX7_mean wsX7_isSide := goodIn_r _ [9, 3, 4, 5, 6] (by decide +kernel) (by decide +kernel)
set_option maxRecDepth 20000 in
theorem gX7_mean_X7_isSide : GoodIn wsX7_mean (va_wsS RX7 188 yX7_isSide wsX7_isSide) := goodIn_app (goodIn_of _ (by decide +kernel)) ggX7_mean_X7_isSide
set_option maxRecDepth 20000 in
theorem ggX7_mean_X7_byAway : GoodIn wsX7_mean wsX7_byAway := goodIn_r _ [13, 14, 1, 15, 16, 17, 18, 5, 19, 20, 21, 22, 23, 24, 25, 26, 27, 28, 29, 30, 31, 32, 33, 34, 35, 36, 37, 38, 39, 40, 41, 42, 43, 44, 45, 46, 47, 48, 49, 50, 51, 52, 53, 54, 55, 56, 57, 58, 59, 60, 61, 62, 63, 64, 65, 66, 67, 68, 69, 70, 71, 72, 73, 74, 75, 76, 77, 78, 79, 80, 81, 82, 83, 84, 85, 86, 87, 88, 89, 90, 91, 92, 93, 94, 95, 96, 97, 98, 99, 100, 101, 102, 103, 104, 105, 106, 107, 108, 109, 110, 111, 112] (by decide +kernel) (by decide +kernel)
set_option maxRecDepth 20000 in
theorem gX7_mean_X7_byAway : GoodIn wsX7_mean (wsV RX7 262 RX7 yX7_byAway wsX7_byAway) := goodIn_app (goodIn_of _ (by decide +kernel)) ggX7_mean_X7_byAway
set_option maxRecDepth 20000 in
theorem ggX7_see_X7_isHeard : GoodIn wsX7_see wsX7_isHeard := goodIn_r _ [8, 9, 10, 11, 7, 12, 13, 14, 15, 16, 17, 18, 19, 20, 21, 22, 23, 24, 25, 26, 27, 28, 29, 30, 31, 32, 33, 34, 35, 36, 37, 38, 39, 40, 41, 42, 43, 44, 45, 46, 47, 48, 49, 50, 51, 52, 53, 54, 55, 56, 57] (by decide +kernel) (by decide +kernel)
set_option maxRecDepth 20000 in
theorem gX7_see_X7_isHeard : GoodIn wsX7_see (wsV RX7 207 RX7 yX7_isHeard wsX7_isHeard) := goodIn_app (goodIn_of _ (by decide +kernel)) ggX7_see_X7_isHeard
set_option maxRecDepth 20000 in
theorem ggX7_see_X7_in : GoodIn wsX7_see wsX7_in := goodIn_r _ [16] (by decide +kernel) (by decide +kernel)
set_option maxRecDepth 20000 in
theorem gX7_see_X7_in : GoodIn wsX7_see (va_wsS RX7 52 yX7_in wsX7_in) := goodIn_app (goodIn_of _ (by decide +kernel)) ggX7_see_X7_in
set_option maxRecDepth 20000 in
theorem ggX7_forget_X7_in : GoodIn wsX7_forget wsX7_in := goodIn_r _ [5] (by decide +kernel) (by decide +kernel)
set_option maxRecDepth 20000 in
theorem gX7_forget_X7_in : GoodIn wsX7_forget (va_wsS RX7 52 yX7_in wsX7_in) := goodIn_app (goodIn_of _ (by decide +kernel)) ggX7_forget_X7_in
set_option maxRecDepth 20000 in
theorem ggX7_isAsSeen_X7_tries : GoodIn wsX7_isAsSeen wsX7_tries := goodIn_r _ [7, 8, 9, 10, 6, 11, 12, 13, 14, 15, 16, 17, 18, 19, 20, 21, 22, 23, 24, 25, 26, 27, 28, 29, 30, 31, 32, 33, 34, 35, 36, 37, 38, 39, 40, 41, 42, 43, 44, 45, 46, 47, 48, 49, 50, 51, 52, 53, 54, 55, 56, 57, 58, 59, 60, 61, 62, 63, 64, 65, 66, 67, 68, 69, 70, 71, 72, 73] (by decide +kernel) (by decide +kernel)
set_option maxRecDepth 20000 in
theorem gX7_isAsSeen_X7_tries : GoodIn wsX7_isAsSeen (wsV RX7 225 RX7 yX7_tries wsX7_tries) := goodIn_app (goodIn_of _ (by decide +kernel)) ggX7_isAsSeen_X7_tries
set_option maxRecDepth 20000 in
theorem ggX7_habitsOf_X7_isAsSeen : GoodIn wsX7_habitsOf wsX7_isAsSeen := goodIn_r _ [8, 9, 10, 11, 12, 13, 7, 14, 15, 16, 17, 18, 1, 19, 20, 21, 22, 23, 24, 25, 26, 27, 28, 29, 30, 31, 32, 33, 34, 35, 36, 37, 38, 39, 40, 41, 42, 43, 44, 45, 46, 47, 48, 49, 50, 51, 52, 53, 54, 55, 56, 57, 58, 59, 60, 61, 62, 63, 64, 65, 66, 67, 68, 69, 70, 71, 72, 73, 74, 75, 76, 77, 78, 79] (by decide +kernel) (by decide +kernel)
set_option maxRecDepth 20000 in
theorem gX7_habitsOf_X7_isAsSeen : GoodIn wsX7_habitsOf (wsV RX7 268 RX7 yX7_isAsSeen wsX7_isAsSeen) := goodIn_app (goodIn_of _ (by decide +kernel)) ggX7_habitsOf_X7_isAsSeen
set_option maxRecDepth 20000 in
theorem ggX7_habitsOf_X7_tries : GoodIn wsX7_habitsOf wsX7_tries := goodIn_r _ [14, 15, 16, 17, 7, 18, 1, 19, 20, 21, 22, 23, 24, 25, 26, 27, 28, 29, 30, 31, 32, 33, 34, 35, 36, 37, 38, 39, 40, 41, 42, 43, 44, 45, 46, 47, 48, 49, 50, 51, 52, 53, 54, 55, 56, 57, 58, 59, 60, 61, 62, 63, 64, 65, 66, 67, 68, 69, 70, 71, 72, 73, 74, 75, 76, 77, 78, 79] (by decide +kernel) (by decide +kernel)
set_option maxRecDepth 20000 in
theorem gX7_habitsOf_X7_tries : GoodIn wsX7_habitsOf (wsV RX7 225 RX7 yX7_tries wsX7_tries) := goodIn_app (goodIn_of _ (by decide +kernel)) ggX7_habitsOf_X7_tries
set_option maxRecDepth 20000 in
theorem ggX7_habits_X7_isJudge : GoodIn wsX7_habits wsX7_isJudge := goodIn_r _ [5, 6, 7, 8, 4, 9, 56, 57, 58, 59, 60, 61, 62, 63, 64, 65, 66, 67, 68, 69, 70, 71, 72, 73, 74, 75, 76, 77, 78, 79, 80, 81, 82, 83, 84, 85, 86, 87, 88, 89, 90, 91] (by decide +kernel) (by decide +kernel)
set_option maxRecDepth 20000 in
theorem gX7_habits_X7_isJudge : GoodIn wsX7_habits (wsV RX7 191 RX7 yX7_isJudge wsX7_isJudge) := goodIn_app (goodIn_of _ (by decide +kernel)) ggX7_habits_X7_isJudge
set_option maxRecDepth 20000 in
theorem ggX7_habits_X7_habitsOf : GoodIn wsX7_habits wsX7_habitsOf := goodIn_r _ [13, 14, 15, 16, 17, 18, 19, 4, 20, 21, 22, 23, 24, 25, 26, 27, 28, 29, 30, 31, 32, 33, 34, 35, 36, 37, 38, 39, 40, 41, 42, 43, 44, 45, 46, 47, 48, 49, 50, 51, 52, 53, 54, 55, 56, 57, 58, 59, 60, 61, 62, 63, 64, 65, 66, 67, 68, 69, 70, 71, 72, 73, 74, 75, 76, 77, 78, 79, 80, 81, 82, 83, 84, 85, 86, 87, 88, 89, 90, 91] (by decide +kernel) (by decide +kernel)
set_option maxRecDepth 20000 in
theorem gX7_habits_X7_habitsOf : GoodIn wsX7_habits (wsV RX7 272 RX7 yX7_habitsOf wsX7_habitsOf) := goodIn_app (goodIn_of _ (by decide +kernel)) ggX7_habits_X7_habitsOf
set_option maxRecDepth 20000 in
theorem ggX7_slows_X7_isJudge : GoodIn wsX7_slows wsX7_isJudge := goodIn_r _ [6, 7, 8, 9, 5, 10, 50, 51, 52, 53, 54, 55, 56, 57, 58, 59, 60, 61, 62, 63, 64, 65, 66, 67, 68, 69, 70, 71, 72, 73, 74, 75, 76, 77, 78, 79, 80, 81, 82, 83, 84, 85] (by decide +kernel) (by decide +kernel)
set_option maxRecDepth 20000 in
theorem gX7_slows_X7_isJudge : GoodIn wsX7_slows (wsV RX7 191 RX7 yX7_isJudge wsX7_isJudge) := goodIn_app (goodIn_of _ (by decide +kernel)) ggX7_slows_X7_isJudge
set_option maxRecDepth 20000 in
theorem ggX7_slows_X7_isAsSeen : GoodIn wsX7_slows wsX7_isAsSeen := goodIn_r _ [14, 15, 16, 17, 18, 19, 5, 20, 21, 22, 23, 24, 1, 25, 26, 27, 28, 29, 30, 31, 32, 33, 34, 35, 36, 37, 38, 39, 40, 41, 42, 43, 44, 45, 46, 47, 48, 49, 50, 51, 52, 53, 54, 55, 56, 57, 58, 59, 60, 61, 62, 63, 64, 65, 66, 67, 68, 69, 70, 71, 72, 73, 74, 75, 76, 77, 78, 79, 80, 81, 82, 83, 84, 85] (by decide +kernel) (by decide +kernel)
set_option maxRecDepth 20000 in
theorem gX7_slows_X7_isAsSeen : GoodIn wsX7_slows (wsV RX7 268 RX7 yX7_isAsSeen wsX7_isAsSeen) := goodIn_app (goodIn_of _ (by decide +kernel)) ggX7_slows_X7_isAsSeen
set_option maxRecDepth 20000 in
theorem ggX7_ask_X7_isJudge : GoodIn wsX7_ask wsX7_isJudge := goodIn_r _ [7, 8, 9, 10, 6, 11, 59, 60, 61, 62, 63, 64, 65, 66, 67, 68, 69, 70, 71, 72, 73, 74, 75, 76, 77, 78, 79, 80, 81, 82, 83, 84, 85, 86, 87, 88, 89, 90, 91, 92, 93, 94] (by decide +kernel) (by decide +kernel)
set_option maxRecDepth 20000 in
theorem gX7_ask_X7_isJudge : GoodIn wsX7_ask (wsV RX7 191 RX7 yX7_isJudge wsX7_isJudge) := goodIn_app (goodIn_of _ (by decide +kernel)) ggX7_ask_X7_isJudge
set_option maxRecDepth 20000 in
theorem ggX7_ask_X7_in : GoodIn wsX7_ask wsX7_in := goodIn_r _ [11] (by decide +kernel) (by decide +kernel)
set_option maxRecDepth 20000 in
theorem gX7_ask_X7_in : GoodIn wsX7_ask (va_wsS RX7 52 yX7_in wsX7_in) := goodIn_app (goodIn_of _ (by decide +kernel)) ggX7_ask_X7_in
set_option maxRecDepth 20000 in
theorem ggX7_ask_X7_habitsOf : GoodIn wsX7_ask wsX7_habitsOf := goodIn_r _ [15, 16, 1, 2, 17, 18, 19, 6, 20, 21, 22, 23, 24, 25, 26, 27, 28, 29, 30, 31, 32, 33, 34, 35, 36, 37, 38, 39, 40, 41, 42, 43, 44, 45, 46, 47, 48, 49, 50, 51, 52, 53, 54, 55, 59, 60, 61, 62, 63, 64, 65, 66, 67, 68, 69, 70, 71, 72, 73, 74, 75, 76, 77, 78, 79, 80, 81, 82, 83, 84, 85, 86, 87, 88, 89, 90, 91, 92, 93, 94] (by decide +kernel) (by decide +kernel)
set_option maxRecDepth 20000 in
theorem gX7_ask_X7_habitsOf : GoodIn wsX7_ask (wsV RX7 272 RX7 yX7_habitsOf wsX7_habitsOf) := goodIn_app (goodIn_of _ (by decide +kernel)) ggX7_ask_X7_habitsOf
set_option maxRecDepth 20000 in
theorem ggX7_ask_X7_bitsOf : GoodIn wsX7_ask wsX7_bitsOf := goodIn_r _ [58] (by decide +kernel) (by decide +kernel)
set_option maxRecDepth 20000 in
theorem gX7_ask_X7_bitsOf : GoodIn wsX7_ask (va_wsS RX7 252 yX7_bitsOf wsX7_bitsOf) := goodIn_app (goodIn_of _ (by decide +kernel)) ggX7_ask_X7_bitsOf
set_option maxRecDepth 20000 in
theorem ggX7_drift_X7_in : GoodIn wsX7_drift wsX7_in := goodIn_r _ [9] (by decide +kernel) (by decide +kernel)
set_option maxRecDepth 20000 in
theorem gX7_drift_X7_in : GoodIn wsX7_drift (va_wsS RX7 52 yX7_in wsX7_in) := goodIn_app (goodIn_of _ (by decide +kernel)) ggX7_drift_X7_in
set_option maxRecDepth 20000 in
theorem ggX7_drift_X7_copies : GoodIn wsX7_drift wsX7_copies := goodIn_r _ [13, 5, 43, 44, 45, 46, 47, 48, 49, 50, 51, 52, 53, 54, 55, 56, 57, 58, 59, 60, 61, 62, 63, 64, 65, 66, 67, 68, 69, 70, 71, 72, 73, 74, 75, 76, 77, 78] (by decide +kernel) (by decide +kernel)
set_option maxRecDepth 20000 in
theorem gX7_drift_X7_copies : GoodIn wsX7_drift (wsV RX7 220 RX7 yX7_copies wsX7_copies) := goodIn_app (goodIn_of _ (by decide +kernel)) ggX7_drift_X7_copies
set_option maxRecDepth 20000 in
theorem ggX7_drift_X7_hearsOn : GoodIn wsX7_drift wsX7_hearsOn := goodIn_r _ [17, 5, 18, 19, 20, 21, 8, 22, 23, 24, 25, 26, 27, 28, 29, 30, 31, 32, 33, 34, 35, 36, 37, 38, 43, 44, 45, 46, 47, 48, 49, 50, 51, 52, 53, 54, 55, 56, 57, 58, 59, 60, 61, 62, 63, 64, 65, 66, 67, 68, 69, 70, 71, 72, 73, 74, 75, 76, 77, 78] (by decide +kernel) (by decide +kernel)
set_option maxRecDepth 20000 in
theorem gX7_drift_X7_hearsOn : GoodIn wsX7_drift (wsV RX7 204 RX7 yX7_hearsOn wsX7_hearsOn) := goodIn_app (goodIn_of _ (by decide +kernel)) ggX7_drift_X7_hearsOn
set_option maxRecDepth 20000 in
theorem ggX7_drift_X7_lengthsOn : GoodIn wsX7_drift wsX7_lengthsOn := goodIn_r _ [42, 2, 5, 43, 44, 45, 46, 47, 48, 49, 50, 51, 52, 53, 54, 55, 56, 57, 58, 59, 60, 61, 62, 63, 64, 65, 66, 67, 68, 69, 70, 71, 72, 73, 74, 75, 76, 77, 78] (by decide +kernel) (by decide +kernel)
set_option maxRecDepth 20000 in
theorem gX7_drift_X7_lengthsOn : GoodIn wsX7_drift (wsV RX7 181 RX7 yX7_lengthsOn wsX7_lengthsOn) := goodIn_app (goodIn_of _ (by decide +kernel)) ggX7_drift_X7_lengthsOn
set_option maxRecDepth 20000 in
theorem ggX7_keep_X7_in : GoodIn wsX7_keep wsX7_in := goodIn_r _ [5] (by decide +kernel) (by decide +kernel)
set_option maxRecDepth 20000 in
theorem gX7_keep_X7_in : GoodIn wsX7_keep (va_wsS RX7 52 yX7_in wsX7_in) := goodIn_app (goodIn_of _ (by decide +kernel)) ggX7_keep_X7_in
set_option maxRecDepth 20000 in
theorem ggX7_keep_X7_copies : GoodIn wsX7_keep wsX7_copies := goodIn_r _ [9, 10, 11, 12, 13, 14, 15, 16, 17, 18, 19, 20, 21, 22, 23, 24, 25, 26, 27, 28, 29, 30, 31, 32, 33, 34, 35, 36, 37, 38, 39, 40, 41, 42, 43, 44, 45, 46] (by decide +kernel) (by decide +kernel)
set_option maxRecDepth 20000 in
theorem gX7_keep_X7_copies : GoodIn wsX7_keep (wsV RX7 220 RX7 yX7_copies wsX7_copies) := goodIn_app (goodIn_of _ (by decide +kernel)) ggX7_keep_X7_copies
set_option maxRecDepth 20000 in
theorem ggX7_back_X7_in : GoodIn wsX7_back wsX7_in := goodIn_r _ [5] (by decide +kernel) (by decide +kernel)
set_option maxRecDepth 20000 in
theorem gX7_back_X7_in : GoodIn wsX7_back (va_wsS RX7 52 yX7_in wsX7_in) := goodIn_app (goodIn_of _ (by decide +kernel)) ggX7_back_X7_in
set_option maxRecDepth 20000 in
theorem ggX7_back_X7_copies : GoodIn wsX7_back wsX7_copies := goodIn_r _ [9, 10, 16, 17, 18, 19, 20, 21, 22, 23, 24, 25, 26, 27, 28, 29, 30, 31, 32, 33, 34, 35, 36, 37, 38, 39, 40, 41, 42, 43, 44, 45, 46, 47, 48, 49, 50, 51] (by decide +kernel) (by decide +kernel)
set_option maxRecDepth 20000 in
theorem gX7_back_X7_copies : GoodIn wsX7_back (wsV RX7 220 RX7 yX7_copies wsX7_copies) := goodIn_app (goodIn_of _ (by decide +kernel)) ggX7_back_X7_copies
set_option maxRecDepth 20000 in
theorem ggX7_back_X7_lengthsOn : GoodIn wsX7_back wsX7_lengthsOn := goodIn_r _ [14, 15, 10, 16, 17, 18, 19, 20, 21, 22, 23, 24, 25, 26, 27, 28, 29, 30, 31, 32, 33, 34, 35, 36, 37, 38, 39, 40, 41, 42, 43, 44, 45, 46, 47, 48, 49, 50, 51] (by decide +kernel) (by decide +kernel)
set_option maxRecDepth 20000 in
theorem gX7_back_X7_lengthsOn : GoodIn wsX7_back (wsV RX7 181 RX7 yX7_lengthsOn wsX7_lengthsOn) := goodIn_app (goodIn_of _ (by decide +kernel)) ggX7_back_X7_lengthsOn
set_option maxRecDepth 20000 in
theorem ggX7_sheet_X7_in : GoodIn wsX7_sheet wsX7_in := goodIn_r _ [9] (by decide +kernel) (by decide +kernel)
set_option maxRecDepth 20000 in
theorem gX7_sheet_X7_in : GoodIn wsX7_sheet (va_wsS RX7 52 yX7_in wsX7_in) := goodIn_app (goodIn_of _ (by decide +kernel)) ggX7_sheet_X7_in
set_option maxRecDepth 20000 in
theorem ggX7_lay_X7_in : GoodIn wsX7_lay wsX7_in := goodIn_r _ [8] (by decide +kernel) (by decide +kernel)
set_option maxRecDepth 20000 in
theorem gX7_lay_X7_in : GoodIn wsX7_lay (va_wsS RX7 52 yX7_in wsX7_in) := goodIn_app (goodIn_of _ (by decide +kernel)) ggX7_lay_X7_in
set_option maxRecDepth 20000 in
theorem ggX7_read_X7_in : GoodIn wsX7_read wsX7_in := goodIn_r _ [11] (by decide +kernel) (by decide +kernel)
set_option maxRecDepth 20000 in
theorem gX7_read_X7_in : GoodIn wsX7_read (va_wsS RX7 52 yX7_in wsX7_in) := goodIn_app (goodIn_of _ (by decide +kernel)) ggX7_read_X7_in
set_option maxRecDepth 20000 in
theorem ggX7_read_X7_copies : GoodIn wsX7_read wsX7_copies := goodIn_r _ [15, 16, 64, 65, 66, 67, 68, 69, 70, 71, 72, 73, 74, 75, 76, 77, 78, 79, 80, 81, 82, 83, 84, 85, 86, 87, 88, 89, 90, 91, 92, 93, 94, 95, 96, 97, 98, 99] (by decide +kernel) (by decide +kernel)
set_option maxRecDepth 20000 in
theorem gX7_read_X7_copies : GoodIn wsX7_read (wsV RX7 220 RX7 yX7_copies wsX7_copies) := goodIn_app (goodIn_of _ (by decide +kernel)) ggX7_read_X7_copies
set_option maxRecDepth 20000 in
theorem ggX7_read_X7_hears : GoodIn wsX7_read wsX7_hears := goodIn_r _ [20, 16, 21, 22, 23, 10, 24, 25, 26, 27, 28, 29, 8, 9, 11, 30, 31, 32, 33, 34, 35, 36, 37, 38, 39, 40, 41, 42, 43, 44, 45, 46, 47, 48, 49, 50, 51, 52, 53, 54, 55, 56, 57, 58, 59, 60, 61, 62, 63, 64, 65, 66, 67, 68, 69, 70, 71, 72, 73, 74, 75, 76, 77, 78, 79, 80, 81, 82, 83, 84, 85, 86, 87, 88, 89, 90, 91, 92, 93, 94, 95, 96, 97, 98, 99] (by decide +kernel) (by decide +kernel)
set_option maxRecDepth 20000 in
theorem gX7_read_X7_hears : GoodIn wsX7_read (wsV RX7 214 RX7 yX7_hears wsX7_hears) := goodIn_app (goodIn_of _ (by decide +kernel)) ggX7_read_X7_hears
set_option maxRecDepth 20000 in
theorem ggJ0_length_8abf5_J0_coder_7d493 : GoodIn wsJ0_length_8abf5 wsJ0_coder_7d493 := goodIn_r _ [6, 7, 8] (by decide +kernel) (by decide +kernel)
set_option maxRecDepth 20000 in
theorem gJ0_length_8abf5_J0_coder_7d493 : GoodIn wsJ0_length_8abf5 (wsV RJ0 335 RJ0 yJ0_coder_7d493 wsJ0_coder_7d493) := goodIn_app (goodIn_of _ (by decide +kernel)) ggJ0_length_8abf5_J0_coder_7d493
set_option maxRecDepth 20000 in
theorem ggJ0_charAt_5068e_J0_isLatin1_aae02 : GoodIn wsJ0_charAt_5068e wsJ0_isLatin1_aae02 := goodIn_r _ [6, 7, 8] (by decide +kernel) (by decide +kernel)
set_option maxRecDepth 20000 in
theorem gJ0_charAt_5068e_J0_isLatin1_aae02 : GoodIn wsJ0_charAt_5068e (wsV RJ0 492 RJ0 yJ0_isLatin1_aae02 wsJ0_isLatin1_aae02) := goodIn_app (goodIn_of _ (by decide +kernel)) ggJ0_charAt_5068e_J0_isLatin1_aae02
set_option maxRecDepth 20000 in
theorem ggJ0_charAt_5068e_J1_charAt_3b067 : GoodIn wsJ0_charAt_5068e wsJ1_charAt_3b067 := goodIn_r _ [12, 13, 14, 5, 15, 16, 17, 18, 19, 20] (by decide +kernel) (by decide +kernel)
set_option maxRecDepth 20000 in
theorem gJ0_charAt_5068e_J1_charAt_3b067 : GoodIn wsJ0_charAt_5068e (va_wsS RJ0 495 yJ1_charAt_3b067 wsJ1_charAt_3b067) := goodIn_app (goodIn_of _ (by decide +kernel)) ggJ0_charAt_5068e_J1_charAt_3b067
set_option maxRecDepth 20000 in
theorem ggJ0_charAt_5068e_J2_charAt_3b067 : GoodIn wsJ0_charAt_5068e wsJ2_charAt_3b067 := goodIn_r _ [24, 25, 26, 23, 27, 28, 29, 30, 31, 14, 5, 15, 16, 17, 18, 19, 20, 32, 33, 34, 35, 36, 37] (by decide +kernel) (by decide +kernel)
set_option maxRecDepth 20000 in
theorem gJ0_charAt_5068e_J2_charAt_3b067 : GoodIn wsJ0_charAt_5068e (va_wsS RJ0 498 yJ2_charAt_3b067 wsJ2_charAt_3b067) := goodIn_app (goodIn_of _ (by decide +kernel)) ggJ0_charAt_5068e_J2_charAt_3b067
set_option maxRecDepth 20000 in
theorem ggJ0_checkIndex_df160_J3_checkIndex_8e157 : GoodIn wsJ0_checkIndex_df160 wsJ3_checkIndex_8e157 := goodIn_r _ [5] (by decide +kernel) (by decide +kernel)
set_option maxRecDepth 20000 in
theorem gJ0_checkIndex_df160_J3_checkIndex_8e157 : GoodIn wsJ0_checkIndex_df160 (va_wsS RJ0 1059 yJ3_checkIndex_8e157 wsJ3_checkIndex_8e157) := goodIn_app (goodIn_of _ (by decide +kernel)) ggJ0_checkIndex_df160_J3_checkIndex_8e157
set_option maxRecDepth 20000 in
theorem ggJ1_charAt_3b067_J0_checkIndex_df160 : GoodIn wsJ1_charAt_3b067 wsJ0_checkIndex_df160 := goodIn_r _ [4, 5, 6, 7, 8, 9] (by decide +kernel) (by decide +kernel)
set_option maxRecDepth 20000 in
theorem gJ1_charAt_3b067_J0_checkIndex_df160 : GoodIn wsJ1_charAt_3b067 (va_wsS RJ1 9 yJ0_checkIndex_df160 wsJ0_checkIndex_df160) := goodIn_app (goodIn_of _ (by decide +kernel)) ggJ1_charAt_3b067_J0_checkIndex_df160
set_option maxRecDepth 20000 in
theorem ggJ2_getChar_3b067_J2_length_9d52b : GoodIn wsJ2_getChar_3b067 wsJ2_length_9d52b := goodIn_r _ [7] (by decide +kernel) (by decide +kernel)
set_option maxRecDepth 20000 in
theorem gJ2_getChar_3b067_J2_length_9d52b : GoodIn wsJ2_getChar_3b067 (va_wsS RJ2 48 yJ2_length_9d52b wsJ2_length_9d52b) := goodIn_app (goodIn_of _ (by decide +kernel)) ggJ2_getChar_3b067_J2_length_9d52b
set_option maxRecDepth 20000 in
theorem ggJ2_charAt_3b067_J2_checkIndex_2214a : GoodIn wsJ2_charAt_3b067 wsJ2_checkIndex_2214a := goodIn_r _ [4, 5, 6, 3, 7, 8, 9, 10, 11, 12, 13, 14, 15, 16] (by decide +kernel) (by decide +kernel)
set_option maxRecDepth 20000 in
theorem gJ2_charAt_3b067_J2_checkIndex_2214a : GoodIn wsJ2_charAt_3b067 (va_wsS RJ2 67 yJ2_checkIndex_2214a wsJ2_checkIndex_2214a) := goodIn_app (goodIn_of _ (by decide +kernel)) ggJ2_charAt_3b067_J2_checkIndex_2214a
set_option maxRecDepth 20000 in
theorem ggJ2_charAt_3b067_J2_getChar_3b067 : GoodIn wsJ2_charAt_3b067 wsJ2_getChar_3b067 := goodIn_r _ [19, 20, 21, 22, 5, 6, 3, 7] (by decide +kernel) (by decide +kernel)
set_option maxRecDepth 20000 in
theorem gJ2_charAt_3b067_J2_getChar_3b067 : GoodIn wsJ2_charAt_3b067 (va_wsS RJ2 71 yJ2_getChar_3b067 wsJ2_getChar_3b067) := goodIn_app (goodIn_of _ (by decide +kernel)) ggJ2_charAt_3b067_J2_getChar_3b067
set_option maxRecDepth 20000 in
theorem ggJ2_checkIndex_2214a_J2_length_9d52b : GoodIn wsJ2_checkIndex_2214a wsJ2_length_9d52b := goodIn_r _ [4] (by decide +kernel) (by decide +kernel)
set_option maxRecDepth 20000 in
theorem gJ2_checkIndex_2214a_J2_length_9d52b : GoodIn wsJ2_checkIndex_2214a (va_wsS RJ2 48 yJ2_length_9d52b wsJ2_length_9d52b) := goodIn_app (goodIn_of _ (by decide +kernel)) ggJ2_checkIndex_2214a_J2_length_9d52b
set_option maxRecDepth 20000 in
theorem ggJ2_checkIndex_2214a_J0_checkIndex_df160 : GoodIn wsJ2_checkIndex_2214a wsJ0_checkIndex_df160 := goodIn_r _ [8, 9, 10, 11, 12, 13] (by decide +kernel) (by decide +kernel)
set_option maxRecDepth 20000 in
theorem gJ2_checkIndex_2214a_J0_checkIndex_df160 : GoodIn wsJ2_checkIndex_2214a (va_wsS RJ2 414 yJ0_checkIndex_df160 wsJ0_checkIndex_df160) := goodIn_app (goodIn_of _ (by decide +kernel)) ggJ2_checkIndex_2214a_J0_checkIndex_df160
