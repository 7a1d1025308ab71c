set_option maxRecDepth 20000 in
theorem ggX8_take_X8_isSmall : GoodIn wsX8_take wsX8_isSmall := goodIn_r _ [12, 2, 3, 22, 23, 24, 25, 26, 27, 28, 29, 30, 31, 32, 33, 34, 35, 36, 37, 38, 39, 40, 41, 42, 43, 44, 45, 46, 47, 48, 49, 50, 51, 52, 53, 54, 55, 56, 57, 58, 59, 60, 61, 62, 63, 64, 65, 66, 67, 68, 69, 70, 71, 72, 73] (by decide +kernel) (by decide +kernel)
set_option maxRecDepth 20000 in
theorem gX8_take_X8_isSmall : GoodIn wsX8_take (wsV RX8 133 RX8 yX8_isSmall wsX8_isSmall) := goodIn_app (goodIn_of _ (by decide +kernel)) ggX8_take_X8_isSmall
set_option maxRecDepth 20000 in
theorem ggX8_take_X8_wordAt : GoodIn wsX8_take wsX8_wordAt := goodIn_r _ [16, 17, 3, 22, 23, 24, 25, 26, 27, 28, 29, 30, 31, 32, 33, 34, 35, 36, 37, 38, 39, 40, 41, 42, 43, 44, 45, 46, 47, 48, 49, 50, 51, 52, 53, 54, 55, 56, 57, 58, 59, 60, 61, 62, 63, 64, 65, 66, 67, 68, 69, 70, 71, 72, 73] (by decide +kernel) (by decide +kernel)
set_option maxRecDepth 20000 in
theorem gX8_take_X8_wordAt : GoodIn wsX8_take (wsV RX8 137 RX8 yX8_wordAt wsX8_wordAt) := goodIn_app (goodIn_of _ (by decide +kernel)) ggX8_take_X8_wordAt
set_option maxRecDepth 20000 in
theorem ggX8_take_X8_isDigit : GoodIn wsX8_take wsX8_isDigit := goodIn_r _ [21, 2, 3, 22, 23, 24, 25, 26, 27, 28, 29, 30, 31, 32, 33, 34, 35, 36, 37, 38, 39, 40, 41, 42, 43, 44, 45, 46, 47, 48, 49, 50, 51, 52, 53, 54, 55, 56, 57, 58, 59, 60, 61, 62, 63, 64, 65, 66, 67, 68, 69, 70, 71, 72, 73] (by decide +kernel) (by decide +kernel)
set_option maxRecDepth 20000 in
theorem gX8_take_X8_isDigit : GoodIn wsX8_take (wsV RX8 144 RX8 yX8_isDigit wsX8_isDigit) := goodIn_app (goodIn_of _ (by decide +kernel)) ggX8_take_X8_isDigit
set_option maxRecDepth 20000 in
theorem ggX8_number_X8_wrong : GoodIn wsX8_number wsX8_wrong := goodIn_r _ [9, 10, 11, 33, 34, 35, 36, 37, 38, 39, 40, 41, 42, 43, 44, 45, 46, 47, 48, 49, 50, 51, 52, 53, 54, 55, 56, 57, 58, 59, 60, 61, 62, 63, 64, 65, 66, 67, 68, 69, 70, 71, 72, 73, 74, 75, 76, 77, 78, 79, 80, 81, 82, 83, 84] (by decide +kernel) (by decide +kernel)
set_option maxRecDepth 20000 in
theorem gX8_number_X8_wrong : GoodIn wsX8_number (wsV RX8 148 RX8 yX8_wrong wsX8_wrong) := goodIn_app (goodIn_of _ (by decide +kernel)) ggX8_number_X8_wrong
set_option maxRecDepth 20000 in
theorem ggX8_number_X8_take : GoodIn wsX8_number wsX8_take := goodIn_r _ [15, 16, 17, 18, 2, 1, 3, 19, 20, 21, 22, 8, 23, 24, 25, 26, 27, 28, 29, 30, 31, 32, 33, 34, 35, 36, 37, 38, 39, 40, 41, 42, 43, 44, 45, 46, 47, 48, 49, 50, 51, 52, 53, 54, 55, 56, 57, 58, 59, 60, 61, 62, 63, 64, 65, 66, 67, 68, 69, 70, 71, 72, 73, 74, 75, 76, 77, 78, 79, 80, 81, 82, 83, 84] (by decide +kernel) (by decide +kernel)
set_option maxRecDepth 20000 in
theorem gX8_number_X8_take : GoodIn wsX8_number (wsV RX8 155 RX8 yX8_take wsX8_take) := goodIn_app (goodIn_of _ (by decide +kernel)) ggX8_number_X8_take
set_option maxRecDepth 20000 in
theorem ggX8_cycleLine_X8_wrong : GoodIn wsX8_cycleLine wsX8_wrong := goodIn_r _ [10, 11, 12, 34, 35, 36, 37, 38, 39, 40, 41, 42, 43, 44, 45, 46, 47, 48, 49, 50, 51, 52, 53, 54, 55, 56, 57, 58, 59, 60, 61, 62, 63, 64, 65, 66, 67, 68, 69, 70, 71, 72, 73, 74, 75, 76, 77, 78, 79, 80, 81, 82, 83, 84, 85] (by decide +kernel) (by decide +kernel)
set_option maxRecDepth 20000 in
theorem gX8_cycleLine_X8_wrong : GoodIn wsX8_cycleLine (wsV RX8 148 RX8 yX8_wrong wsX8_wrong) := goodIn_app (goodIn_of _ (by decide +kernel)) ggX8_cycleLine_X8_wrong
set_option maxRecDepth 20000 in
theorem ggX8_cycleLine_X8_take : GoodIn wsX8_cycleLine wsX8_take := goodIn_r _ [16, 17, 18, 19, 4, 2, 3, 20, 21, 22, 23, 9, 24, 25, 26, 27, 28, 29, 30, 31, 32, 33, 34, 35, 36, 37, 38, 39, 40, 41, 42, 43, 44, 45, 46, 47, 48, 49, 50, 51, 52, 53, 54, 55, 56, 57, 58, 59, 60, 61, 62, 63, 64, 65, 66, 67, 68, 69, 70, 71, 72, 73, 74, 75, 76, 77, 78, 79, 80, 81, 82, 83, 84, 85] (by decide +kernel) (by decide +kernel)
set_option maxRecDepth 20000 in
theorem gX8_cycleLine_X8_take : GoodIn wsX8_cycleLine (wsV RX8 155 RX8 yX8_take wsX8_take) := goodIn_app (goodIn_of _ (by decide +kernel)) ggX8_cycleLine_X8_take
set_option maxRecDepth 20000 in
theorem ggX8_line_X8_wrong : GoodIn wsX8_line wsX8_wrong := goodIn_r _ [12, 13, 14, 46, 47, 48, 49, 50, 51, 52, 53, 54, 55, 56, 57, 58, 59, 60, 61, 62, 63, 64, 65, 66, 67, 68, 69, 70, 71, 72, 73, 74, 75, 76, 77, 78, 79, 80, 81, 82, 83, 84, 85, 86, 87, 88, 89, 90, 91, 92, 93, 94, 95, 96, 97] (by decide +kernel) (by decide +kernel)
set_option maxRecDepth 20000 in
theorem gX8_line_X8_wrong : GoodIn wsX8_line (wsV RX8 148 RX8 yX8_wrong wsX8_wrong) := goodIn_app (goodIn_of _ (by decide +kernel)) ggX8_line_X8_wrong
set_option maxRecDepth 20000 in
theorem ggX8_line_X8_take : GoodIn wsX8_line wsX8_take := goodIn_r _ [18, 19, 20, 21, 3, 1, 2, 22, 23, 24, 25, 11, 26, 27, 28, 29, 30, 31, 32, 33, 34, 35, 46, 47, 48, 49, 50, 51, 52, 53, 54, 55, 56, 57, 58, 59, 60, 61, 62, 63, 64, 65, 66, 67, 68, 69, 70, 71, 72, 73, 74, 75, 76, 77, 78, 79, 80, 81, 82, 83, 84, 85, 86, 87, 88, 89, 90, 91, 92, 93, 94, 95, 96, 97] (by decide +kernel) (by decide +kernel)
set_option maxRecDepth 20000 in
theorem gX8_line_X8_take : GoodIn wsX8_line (wsV RX8 155 RX8 yX8_take wsX8_take) := goodIn_app (goodIn_of _ (by decide +kernel)) ggX8_line_X8_take
set_option maxRecDepth 20000 in
theorem ggX8_line_X8_cycleLine : GoodIn wsX8_line wsX8_cycleLine := goodIn_r _ [39, 40, 1, 2, 3, 41, 8, 9, 10, 11, 12, 13, 14, 15, 16, 17, 18, 19, 20, 21, 22, 23, 24, 25, 26, 27, 28, 29, 30, 31, 32, 33, 34, 35, 46, 47, 48, 49, 50, 51, 52, 53, 54, 55, 56, 57, 58, 59, 60, 61, 62, 63, 64, 65, 66, 67, 68, 69, 70, 71, 72, 73, 74, 75, 76, 77, 78, 79, 80, 81, 82, 83, 84, 85, 86, 87, 88, 89, 90, 91, 92, 93, 94, 95, 96, 97] (by decide +kernel) (by decide +kernel)
set_option maxRecDepth 20000 in
theorem gX8_line_X8_cycleLine : GoodIn wsX8_line (wsV RX8 161 RX8 yX8_cycleLine wsX8_cycleLine) := goodIn_app (goodIn_of _ (by decide +kernel)) ggX8_line_X8_cycleLine
set_option maxRecDepth 20000 in
theorem ggX8_line_X8_number : GoodIn wsX8_line wsX8_number := goodIn_r _ [45, 1, 3, 2, 6, 8, 9, 10, 11, 12, 13, 14, 15, 16, 17, 18, 19, 20, 21, 22, 23, 24, 25, 26, 27, 28, 29, 30, 31, 32, 33, 34, 35, 46, 47, 48, 49, 50, 51, 52, 53, 54, 55, 56, 57, 58, 59, 60, 61, 62, 63, 64, 65, 66, 67, 68, 69, 70, 71, 72, 73, 74, 75, 76, 77, 78, 79, 80, 81, 82, 83, 84, 85, 86, 87, 88, 89, 90, 91, 92, 93, 94, 95, 96, 97] (by decide +kernel) (by decide +kernel)
set_option maxRecDepth 20000 in
theorem gX8_line_X8_number : GoodIn wsX8_line (wsV RX8 165 RX8 yX8_number wsX8_number) := goodIn_app (goodIn_of _ (by decide +kernel)) ggX8_line_X8_number
set_option maxRecDepth 20000 in
theorem ggX8_statutes_X8_take : GoodIn wsX8_statutes wsX8_take := goodIn_r _ [26, 11, 3, 27, 13, 12, 28, 29, 30, 31, 32, 25, 33, 34, 35, 36, 37, 38, 39, 40, 41, 42, 60, 61, 62, 63, 64, 65, 66, 67, 68, 69, 70, 71, 72, 73, 74, 75, 76, 77, 78, 79, 80, 81, 82, 83, 84, 85, 86, 87, 88, 89, 90, 91, 92, 93, 94, 95, 96, 97, 98, 99, 100, 101, 102, 103, 104, 105, 106, 107, 108, 109, 110, 111] (by decide +kernel) (by decide +kernel)
set_option maxRecDepth 20000 in
theorem gX8_statutes_X8_take : GoodIn wsX8_statutes (wsV RX8 155 RX8 yX8_take wsX8_take) := goodIn_app (goodIn_of _ (by decide +kernel)) ggX8_statutes_X8_take
set_option maxRecDepth 20000 in
theorem ggX8_statutes_X8_line : GoodIn wsX8_statutes wsX8_line := goodIn_r _ [46, 12, 28, 13, 6, 7, 47, 8, 48, 49, 50, 25, 51, 4, 5, 22, 23, 24, 26, 11, 3, 27, 29, 30, 31, 32, 33, 34, 35, 36, 37, 38, 39, 40, 41, 42, 52, 53, 54, 55, 9, 10, 56, 57, 58, 59, 60, 61, 62, 63, 64, 65, 66, 67, 68, 69, 70, 71, 72, 73, 74, 75, 76, 77, 78, 79, 80, 81, 82, 83, 84, 85, 86, 87, 88, 89, 90, 91, 92, 93, 94, 95, 96, 97, 98, 99, 100, 101, 102, 103, 104, 105, 106, 107, 108, 109, 110, 111] (by decide +kernel) (by decide +kernel)
set_option maxRecDepth 20000 in
theorem gX8_statutes_X8_line : GoodIn wsX8_statutes (wsV RX8 171 RX8 yX8_line wsX8_line) := goodIn_app (goodIn_of _ (by decide +kernel)) ggX8_statutes_X8_line
set_option maxRecDepth 20000 in
theorem ggX8_statutes_X8_wrong : GoodIn wsX8_statutes wsX8_wrong := goodIn_r _ [51, 4, 5, 60, 61, 62, 63, 64, 65, 66, 67, 68, 69, 70, 71, 72, 73, 74, 75, 76, 77, 78, 79, 80, 81, 82, 83, 84, 85, 86, 87, 88, 89, 90, 91, 92, 93, 94, 95, 96, 97, 98, 99, 100, 101, 102, 103, 104, 105, 106, 107, 108, 109, 110, 111] (by decide +kernel) (by decide +kernel)
set_option maxRecDepth 20000 in
theorem gX8_statutes_X8_wrong : GoodIn wsX8_statutes (wsV RX8 148 RX8 yX8_wrong wsX8_wrong) := goodIn_app (goodIn_of _ (by decide +kernel)) ggX8_statutes_X8_wrong
set_option maxRecDepth 20000 in
theorem ggX8_support_X8_isChild : GoodIn wsX8_support wsX8_isChild := goodIn_r _ [8, 9, 10, 11, 12, 13, 14, 15, 16, 17, 18, 19, 20, 21, 22, 23, 24, 25, 26, 27, 28, 29, 30, 31, 32, 33, 34, 35, 36, 37, 38, 39, 40, 41, 42, 43, 44, 45, 46, 47, 48, 49, 50, 51, 52, 53, 54, 55, 56, 57, 58, 59, 60, 61] (by decide +kernel) (by decide +kernel)
set_option maxRecDepth 20000 in
theorem gX8_support_X8_isChild : GoodIn wsX8_support (wsV RX8 183 RX8 yX8_isChild wsX8_isChild) := goodIn_app (goodIn_of _ (by decide +kernel)) ggX8_support_X8_isChild
set_option maxRecDepth 20000 in
theorem ggX8_isAhead_X8_votes : GoodIn wsX8_isAhead wsX8_votes := goodIn_r _ [6, 7, 8, 9, 10, 11, 12, 13, 14, 15, 16, 17, 18, 19, 20, 21, 22, 23, 24, 25, 26, 27, 28, 29, 30, 31, 32, 33, 34, 35, 36, 37, 38, 39, 40, 41, 42, 43, 44, 45, 46, 47, 48, 49, 50, 51, 52, 53, 54, 55, 56, 57, 58, 59, 60, 61, 62] (by decide +kernel) (by decide +kernel)
set_option maxRecDepth 20000 in
theorem gX8_isAhead_X8_votes : GoodIn wsX8_isAhead (wsV RX8 186 RX8 yX8_votes wsX8_votes) := goodIn_app (goodIn_of _ (by decide +kernel)) ggX8_isAhead_X8_votes
set_option maxRecDepth 20000 in
theorem ggX8_comes_X8_mayCome : GoodIn wsX8_comes wsX8_mayCome := goodIn_r _ [11, 12, 13, 14, 15, 27, 28, 29, 30, 31, 32, 33, 34, 35, 36, 37, 38, 39, 40, 41, 42, 43, 44, 45, 46, 47, 48, 49, 50, 51, 52, 53, 54, 55, 56, 57, 58, 59, 60, 61, 62, 63, 64, 65, 66, 67, 68, 69, 70, 71, 72, 73, 74, 75, 76, 77, 78] (by decide +kernel) (by decide +kernel)
set_option maxRecDepth 20000 in
theorem gX8_comes_X8_mayCome : GoodIn wsX8_comes (wsV RX8 193 RX8 yX8_mayCome wsX8_mayCome) := goodIn_app (goodIn_of _ (by decide +kernel)) ggX8_comes_X8_mayCome
set_option maxRecDepth 20000 in
theorem ggX8_comes_X8_votes : GoodIn wsX8_comes wsX8_votes := goodIn_r _ [19, 3, 5, 20, 21, 27, 28, 29, 30, 31, 32, 33, 34, 35, 36, 37, 38, 39, 40, 41, 42, 43, 44, 45, 46, 47, 48, 49, 50, 51, 52, 53, 54, 55, 56, 57, 58, 59, 60, 61, 62, 63, 64, 65, 66, 67, 68, 69, 70, 71, 72, 73, 74, 75, 76, 77, 78] (by decide +kernel) (by decide +kernel)
set_option maxRecDepth 20000 in
theorem gX8_comes_X8_votes : GoodIn wsX8_comes (wsV RX8 186 RX8 yX8_votes wsX8_votes) := goodIn_app (goodIn_of _ (by decide +kernel)) ggX8_comes_X8_votes
set_option maxRecDepth 20000 in
theorem ggX8_comes_X8_isAhead : GoodIn wsX8_comes wsX8_isAhead := goodIn_r _ [25, 26, 16, 17, 18, 10, 19, 3, 5, 20, 21, 27, 28, 29, 30, 31, 32, 33, 34, 35, 36, 37, 38, 39, 40, 41, 42, 43, 44, 45, 46, 47, 48, 49, 50, 51, 52, 53, 54, 55, 56, 57, 58, 59, 60, 61, 62, 63, 64, 65, 66, 67, 68, 69, 70, 71, 72, 73, 74, 75, 76, 77, 78] (by decide +kernel) (by decide +kernel)
set_option maxRecDepth 20000 in
theorem gX8_comes_X8_isAhead : GoodIn wsX8_comes (wsV RX8 196 RX8 yX8_isAhead wsX8_isAhead) := goodIn_app (goodIn_of _ (by decide +kernel)) ggX8_comes_X8_isAhead
set_option maxRecDepth 20000 in
theorem ggX8_fill_X8_inMany : GoodIn wsX8_fill wsX8_inMany := goodIn_r _ [10, 11, 3, 38, 39, 40, 41, 42, 43, 44, 45, 46, 47, 48, 49, 50, 51, 52, 53, 54, 55, 56, 57, 58, 59, 60, 61, 62, 63, 64, 65, 66, 67, 68, 69, 70, 71, 72, 73, 74, 75, 76, 77, 78, 79, 80, 81, 82, 83, 84, 85, 86, 87, 88, 89] (by decide +kernel) (by decide +kernel)
set_option maxRecDepth 20000 in
theorem gX8_fill_X8_inMany : GoodIn wsX8_fill (wsV RX8 200 RX8 yX8_inMany wsX8_inMany) := goodIn_app (goodIn_of _ (by decide +kernel)) ggX8_fill_X8_inMany
set_option maxRecDepth 20000 in
theorem ggX8_fill_X8_comes : GoodIn wsX8_fill wsX8_comes := goodIn_r _ [15, 16, 4, 17, 18, 19, 11, 20, 21, 22, 9, 23, 3, 24, 25, 26, 27, 28, 29, 30, 31, 32, 33, 34, 35, 36, 37, 38, 39, 40, 41, 42, 43, 44, 45, 46, 47, 48, 49, 50, 51, 52, 53, 54, 55, 56, 57, 58, 59, 60, 61, 62, 63, 64, 65, 66, 67, 68, 69, 70, 71, 72, 73, 74, 75, 76, 77, 78, 79, 80, 81, 82, 83, 84, 85, 86, 87, 88, 89] (by decide +kernel) (by decide +kernel)
set_option maxRecDepth 20000 in
theorem gX8_fill_X8_comes : GoodIn wsX8_fill (wsV RX8 204 RX8 yX8_comes wsX8_comes) := goodIn_app (goodIn_of _ (by decide +kernel)) ggX8_fill_X8_comes
set_option maxRecDepth 20000 in
theorem ggX8_sets_X8_suits : GoodIn wsX8_sets wsX8_suits := goodIn_r _ [11, 12, 13, 14, 15, 16, 17, 18, 19, 20, 21, 22, 23, 24, 25, 26, 27, 28, 29, 30, 31, 32, 33, 34, 35, 36, 37, 38, 39, 40, 41, 42, 43, 44, 45, 46, 47, 48, 49, 50, 51, 52, 53, 54, 55, 56, 57, 58, 59, 60, 61, 62, 63, 64, 65, 66] (by decide +kernel) (by decide +kernel)
set_option maxRecDepth 20000 in
theorem gX8_sets_X8_suits : GoodIn wsX8_sets (wsV RX8 216 RX8 yX8_suits wsX8_suits) := goodIn_app (goodIn_of _ (by decide +kernel)) ggX8_sets_X8_suits
set_option maxRecDepth 20000 in
theorem ggX8_feast_X8_sets : GoodIn wsX8_feast wsX8_sets := goodIn_r _ [19, 2, 7, 8, 10, 6, 5, 20, 21, 22, 18, 23, 12, 13, 24, 33, 34, 35, 36, 37, 38, 39, 40, 41, 42, 43, 44, 45, 46, 47, 48, 49, 50, 51, 52, 53, 54, 55, 56, 57, 58, 59, 60, 61, 62, 63, 64, 65, 66, 67, 68, 69, 70, 71, 72, 73, 74, 75, 76, 77, 78, 79, 80, 81, 82, 83, 84] (by decide +kernel) (by decide +kernel)
set_option maxRecDepth 20000 in
theorem gX8_feast_X8_sets : GoodIn wsX8_feast (wsV RX8 219 RX8 yX8_sets wsX8_sets) := goodIn_app (goodIn_of _ (by decide +kernel)) ggX8_feast_X8_sets
set_option maxRecDepth 20000 in
theorem ggX8_feast_X8_clothOf : GoodIn wsX8_feast wsX8_clothOf := goodIn_r _ [28, 2, 13, 5, 33, 34, 35, 36, 37, 38, 39, 40, 41, 42, 43, 44, 45, 46, 47, 48, 49, 50, 51, 52, 53, 54, 55, 56, 57, 58, 59, 60, 61, 62, 63, 64, 65, 66, 67, 68, 69, 70, 71, 72, 73, 74, 75, 76, 77, 78, 79, 80, 81, 82, 83, 84] (by decide +kernel) (by decide +kernel)
set_option maxRecDepth 20000 in
theorem gX8_feast_X8_clothOf : GoodIn wsX8_feast (wsV RX8 223 RX8 yX8_clothOf wsX8_clothOf) := goodIn_app (goodIn_of _ (by decide +kernel)) ggX8_feast_X8_clothOf
set_option maxRecDepth 20000 in
theorem ggX8_feast_X8_isFirst : GoodIn wsX8_feast wsX8_isFirst := goodIn_r _ [32, 2, 33, 34, 35, 36, 37, 38, 39, 40, 41, 42, 43, 44, 45, 46, 47, 48, 49, 50, 51, 52, 53, 54, 55, 56, 57, 58, 59, 60, 61, 62, 63, 64, 65, 66, 67, 68, 69, 70, 71, 72, 73, 74, 75, 76, 77, 78, 79, 80, 81, 82, 83, 84] (by decide +kernel) (by decide +kernel)
set_option maxRecDepth 20000 in
theorem gX8_feast_X8_isFirst : GoodIn wsX8_feast (wsV RX8 226 RX8 yX8_isFirst wsX8_isFirst) := goodIn_app (goodIn_of _ (by decide +kernel)) ggX8_feast_X8_isFirst
set_option maxRecDepth 20000 in
theorem ggX8_feast_X8_suits : GoodIn wsX8_feast wsX8_suits := goodIn_r _ [23, 12, 13, 24, 33, 34, 35, 36, 37, 38, 39, 40, 41, 42, 43, 44, 45, 46, 47, 48, 49, 50, 51, 52, 53, 54, 55, 56, 57, 58, 59, 60, 61, 62, 63, 64, 65, 66, 67, 68, 69, 70, 71, 72, 73, 74, 75, 76, 77, 78, 79, 80, 81, 82, 83, 84] (by decide +kernel) (by decide +kernel)
set_option maxRecDepth 20000 in
theorem gX8_feast_X8_suits : GoodIn wsX8_feast (wsV RX8 216 RX8 yX8_suits wsX8_suits) := goodIn_app (goodIn_of _ (by decide +kernel)) ggX8_feast_X8_suits
set_option maxRecDepth 20000 in
theorem ggX8_deal_X8_coinsFor : GoodIn wsX8_deal wsX8_coinsFor := goodIn_r _ [11, 3, 5, 4, 12, 13, 14, 15, 16, 17, 18, 19, 20, 21, 22, 23, 24, 25, 26, 27, 28, 29, 30, 31, 32, 33, 34, 35, 36, 37, 38, 39, 40, 41, 42, 43, 44, 45, 46, 47, 48, 49, 50, 51, 52, 53, 54, 55, 56, 57, 58, 59, 60, 61, 62, 63] (by decide +kernel) (by decide +kernel)
set_option maxRecDepth 20000 in
theorem gX8_deal_X8_coinsFor : GoodIn wsX8_deal (wsV RX8 232 RX8 yX8_coinsFor wsX8_coinsFor) := goodIn_app (goodIn_of _ (by decide +kernel)) ggX8_deal_X8_coinsFor
set_option maxRecDepth 20000 in
theorem ggX8_shortage_X8_needOf : GoodIn wsX8_shortage wsX8_needOf := goodIn_r _ [5, 6, 14, 15, 16, 17, 18, 19, 20, 21, 22, 23, 24, 25, 26, 27, 28, 29, 30, 31, 32, 33, 34, 35, 36, 37, 38, 39, 40, 41, 42, 43, 44, 45, 46, 47, 48, 49, 50, 51, 52, 53, 54, 55, 56, 57, 58, 59, 60, 61, 62, 63, 64, 65] (by decide +kernel) (by decide +kernel)
set_option maxRecDepth 20000 in
theorem gX8_shortage_X8_needOf : GoodIn wsX8_shortage (wsV RX8 235 RX8 yX8_needOf wsX8_needOf) := goodIn_app (goodIn_of _ (by decide +kernel)) ggX8_shortage_X8_needOf
set_option maxRecDepth 20000 in
theorem ggX8_shortage_X8_coinsFor : GoodIn wsX8_shortage wsX8_coinsFor := goodIn_r _ [10, 11, 12, 13, 14, 15, 16, 17, 18, 19, 20, 21, 22, 23, 24, 25, 26, 27, 28, 29, 30, 31, 32, 33, 34, 35, 36, 37, 38, 39, 40, 41, 42, 43, 44, 45, 46, 47, 48, 49, 50, 51, 52, 53, 54, 55, 56, 57, 58, 59, 60, 61, 62, 63, 64, 65] (by decide +kernel) (by decide +kernel)
set_option maxRecDepth 20000 in
theorem gX8_shortage_X8_coinsFor : GoodIn wsX8_shortage (wsV RX8 232 RX8 yX8_coinsFor wsX8_coinsFor) := goodIn_app (goodIn_of _ (by decide +kernel)) ggX8_shortage_X8_coinsFor
set_option maxRecDepth 20000 in
theorem ggX8_owed_X8_deal : GoodIn wsX8_owed wsX8_deal := goodIn_r _ [9, 10, 2, 3, 11, 12, 4, 13, 14, 15, 8, 16, 25, 26, 27, 28, 29, 30, 31, 32, 33, 34, 35, 36, 37, 38, 39, 40, 41, 42, 43, 44, 45, 46, 47, 48, 49, 50, 51, 52, 53, 54, 55, 56, 57, 58, 59, 60, 61, 62, 63, 64, 65, 66, 67, 68, 69, 70, 71, 72, 73, 74, 75, 76] (by decide +kernel) (by decide +kernel)
set_option maxRecDepth 20000 in
theorem gX8_owed_X8_deal : GoodIn wsX8_owed (wsV RX8 238 RX8 yX8_deal wsX8_deal) := goodIn_app (goodIn_of _ (by decide +kernel)) ggX8_owed_X8_deal
set_option maxRecDepth 20000 in
theorem ggX8_owed_X8_shortage : GoodIn wsX8_owed wsX8_shortage := goodIn_r _ [20, 21, 22, 23, 8, 24, 10, 13, 14, 15, 16, 3, 12, 11, 25, 26, 27, 28, 29, 30, 31, 32, 33, 34, 35, 36, 37, 38, 39, 40, 41, 42, 43, 44, 45, 46, 47, 48, 49, 50, 51, 52, 53, 54, 55, 56, 57, 58, 59, 60, 61, 62, 63, 64, 65, 66, 67, 68, 69, 70, 71, 72, 73, 74, 75, 76] (by decide +kernel) (by decide +kernel)
set_option maxRecDepth 20000 in
theorem gX8_owed_X8_shortage : GoodIn wsX8_owed (wsV RX8 241 RX8 yX8_shortage wsX8_shortage) := goodIn_app (goodIn_of _ (by decide +kernel)) ggX8_owed_X8_shortage
set_option maxRecDepth 20000 in
theorem ggX8_owed_X8_needOf : GoodIn wsX8_owed wsX8_needOf := goodIn_r _ [24, 10, 25, 26, 27, 28, 29, 30, 31, 32, 33, 34, 35, 36, 37, 38, 39, 40, 41, 42, 43, 44, 45, 46, 47, 48, 49, 50, 51, 52, 53, 54, 55, 56, 57, 58, 59, 60, 61, 62, 63, 64, 65, 66, 67, 68, 69, 70, 71, 72, 73, 74, 75, 76] (by decide +kernel) (by decide +kernel)
set_option maxRecDepth 20000 in
theorem gX8_owed_X8_needOf : GoodIn wsX8_owed (wsV RX8 235 RX8 yX8_needOf wsX8_needOf) := goodIn_app (goodIn_of _ (by decide +kernel)) ggX8_owed_X8_needOf
set_option maxRecDepth 20000 in
theorem ggX8_owed_X8_coinsFor : GoodIn wsX8_owed wsX8_coinsFor := goodIn_r _ [16, 3, 12, 11, 25, 26, 27, 28, 29, 30, 31, 32, 33, 34, 35, 36, 37, 38, 39, 40, 41, 42, 43, 44, 45, 46, 47, 48, 49, 50, 51, 52, 53, 54, 55, 56, 57, 58, 59, 60, 61, 62, 63, 64, 65, 66, 67, 68, 69, 70, 71, 72, 73, 74, 75, 76] (by decide +kernel) (by decide +kernel)
set_option maxRecDepth 20000 in
theorem gX8_owed_X8_coinsFor : GoodIn wsX8_owed (wsV RX8 232 RX8 yX8_coinsFor wsX8_coinsFor) := goodIn_app (goodIn_of _ (by decide +kernel)) ggX8_owed_X8_coinsFor
set_option maxRecDepth 20000 in
theorem ggX8_pay_X8_deal : GoodIn wsX8_pay wsX8_deal := goodIn_r _ [11, 2, 3, 4, 5, 12, 6, 13, 14, 15, 10, 16, 17, 18, 19, 20, 21, 22, 23, 24, 25, 26, 27, 28, 29, 30, 31, 32, 33, 34, 35, 36, 37, 38, 39, 40, 41, 42, 43, 44, 45, 46, 47, 48, 49, 50, 51, 52, 53, 54, 55, 56, 57, 58, 59, 60, 61, 62, 63, 64, 65, 66, 67, 68] (by decide +kernel) (by decide +kernel)
set_option maxRecDepth 20000 in
theorem gX8_pay_X8_deal : GoodIn wsX8_pay (wsV RX8 238 RX8 yX8_deal wsX8_deal) := goodIn_app (goodIn_of _ (by decide +kernel)) ggX8_pay_X8_deal
set_option maxRecDepth 20000 in
theorem ggX8_look_X8_isChild : GoodIn wsX8_look wsX8_isChild := goodIn_r _ [10, 11, 30, 31, 32, 33, 34, 35, 36, 37, 38, 39, 40, 41, 42, 43, 44, 45, 46, 47, 48, 49, 50, 51, 52, 53, 54, 55, 56, 57, 58, 59, 60, 61, 62, 63, 64, 65, 66, 67, 68, 69, 70, 71, 72, 73, 74, 75, 76, 77, 78, 79, 80, 81] (by decide +kernel) (by decide +kernel)
set_option maxRecDepth 20000 in
theorem gX8_look_X8_isChild : GoodIn wsX8_look (wsV RX8 183 RX8 yX8_isChild wsX8_isChild) := goodIn_app (goodIn_of _ (by decide +kernel)) ggX8_look_X8_isChild
set_option maxRecDepth 20000 in
theorem ggX8_look_X8_fails : GoodIn wsX8_look wsX8_fails := goodIn_r _ [15, 1, 30, 31, 32, 33, 34, 35, 36, 37, 38, 39, 40, 41, 42, 43, 44, 45, 46, 47, 48, 49, 50, 51, 52, 53, 54, 55, 56, 57, 58, 59, 60, 61, 62, 63, 64, 65, 66, 67, 68, 69, 70, 71, 72, 73, 74, 75, 76, 77, 78, 79, 80, 81] (by decide +kernel) (by decide +kernel)
set_option maxRecDepth 20000 in
theorem gX8_look_X8_fails : GoodIn wsX8_look (wsV RX8 244 RX8 yX8_fails wsX8_fails) := goodIn_app (goodIn_of _ (by decide +kernel)) ggX8_look_X8_fails
set_option maxRecDepth 20000 in
theorem ggX8_look_X8_coatOf : GoodIn wsX8_look wsX8_coatOf := goodIn_r _ [19, 20, 21, 30, 31, 32, 33, 34, 35, 36, 37, 38, 39, 40, 41, 42, 43, 44, 45, 46, 47, 48, 49, 50, 51, 52, 53, 54, 55, 56, 57, 58, 59, 60, 61, 62, 63, 64, 65, 66, 67, 68, 69, 70, 71, 72, 73, 74, 75, 76, 77, 78, 79, 80, 81] (by decide +kernel) (by decide +kernel)
set_option maxRecDepth 20000 in
theorem gX8_look_X8_coatOf : GoodIn wsX8_look (wsV RX8 247 RX8 yX8_coatOf wsX8_coatOf) := goodIn_app (goodIn_of _ (by decide +kernel)) ggX8_look_X8_coatOf
set_option maxRecDepth 20000 in
theorem ggX8_look_X8_votes : GoodIn wsX8_look wsX8_votes := goodIn_r _ [25, 26, 27, 28, 29, 30, 31, 32, 33, 34, 35, 36, 37, 38, 39, 40, 41, 42, 43, 44, 45, 46, 47, 48, 49, 50, 51, 52, 53, 54, 55, 56, 57, 58, 59, 60, 61, 62, 63, 64, 65, 66, 67, 68, 69, 70, 71, 72, 73, 74, 75, 76, 77, 78, 79, 80, 81] (by decide +kernel) (by decide +kernel)
set_option maxRecDepth 20000 in
theorem gX8_look_X8_votes : GoodIn wsX8_look (wsV RX8 186 RX8 yX8_votes wsX8_votes) := goodIn_app (goodIn_of _ (by decide +kernel)) ggX8_look_X8_votes
set_option maxRecDepth 20000 in
theorem ggX8_count_X8_inMany : GoodIn wsX8_count wsX8_inMany := goodIn_r _ [14, 3, 15, 16, 17, 18, 19, 20, 21, 22, 23, 24, 25, 26, 27, 28, 29, 30, 31, 32, 33, 34, 35, 36, 37, 38, 39, 40, 41, 42, 43, 44, 45, 46, 47, 48, 49, 50, 51, 52, 53, 54, 55, 56, 57, 58, 59, 60, 61, 62, 63, 64, 65, 66, 67] (by decide +kernel) (by decide +kernel)
set_option maxRecDepth 20000 in
theorem gX8_count_X8_inMany : GoodIn wsX8_count (wsV RX8 200 RX8 yX8_inMany wsX8_inMany) := goodIn_app (goodIn_of _ (by decide +kernel)) ggX8_count_X8_inMany
