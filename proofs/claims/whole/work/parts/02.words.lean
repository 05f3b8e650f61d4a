set_option maxRecDepth 20000 in
theorem ggX0_init_X4_init : GoodIn wsX0_init wsX4_init := goodIn_r _ [12, 13, 2, 3, 14, 15, 16, 17, 18, 19, 20] (by decide +kernel) (by decide +kernel)
set_option maxRecDepth 20000 in
theorem gX0_init_X4_init : GoodIn wsX0_init (wsX4_init) := ggX0_init_X4_init
set_option maxRecDepth 20000 in
theorem ggX0_play_J6_bitCount_0f7a4 : GoodIn wsX0_play wsJ6_bitCount_0f7a4 := goodIn_r _ [4, 5, 6, 7] (by decide +kernel) (by decide +kernel)
set_option maxRecDepth 20000 in
theorem gX0_play_J6_bitCount_0f7a4 : GoodIn wsX0_play (va_wsS RX0 26 yJ6_bitCount_0f7a4 wsJ6_bitCount_0f7a4) := goodIn_app (goodIn_of _ (by decide +kernel)) ggX0_play_J6_bitCount_0f7a4
set_option maxRecDepth 20000 in
theorem ggX0_play_X0_chooseBest : GoodIn wsX0_play wsX0_chooseBest := goodIn_r _ [12, 13, 14, 15, 16, 17, 11, 18, 19, 20, 21, 22, 23, 24, 25, 26, 27, 28, 29, 30, 31, 32, 33, 34, 35, 36, 37, 38, 39, 40, 41, 42, 43, 44, 45, 46, 47, 48, 49, 50, 51, 52, 53, 54, 55, 56] (by decide +kernel) (by decide +kernel)
set_option maxRecDepth 20000 in
theorem gX0_play_X0_chooseBest : GoodIn wsX0_play (wsV RX0 38 RX0 yX0_chooseBest wsX0_chooseBest) := goodIn_app (goodIn_of _ (by decide +kernel)) ggX0_play_X0_chooseBest
set_option maxRecDepth 20000 in
theorem ggX0_sentFrom_X4_at : GoodIn wsX0_sentFrom wsX4_at := goodIn_r _ [6, 7, 11] (by decide +kernel) (by decide +kernel)
set_option maxRecDepth 20000 in
theorem gX0_sentFrom_X4_at : GoodIn wsX0_sentFrom (wsV RX0 42 RX4 yX4_at wsX4_at) := goodIn_app (goodIn_of _ (by decide +kernel)) ggX0_sentFrom_X4_at
set_option maxRecDepth 20000 in
theorem ggX0_aboveFrom_X4_at : GoodIn wsX0_aboveFrom wsX4_at := goodIn_r _ [6, 7, 11] (by decide +kernel) (by decide +kernel)
set_option maxRecDepth 20000 in
theorem gX0_aboveFrom_X4_at : GoodIn wsX0_aboveFrom (wsV RX0 42 RX4 yX4_at wsX4_at) := goodIn_app (goodIn_of _ (by decide +kernel)) ggX0_aboveFrom_X4_at
set_option maxRecDepth 20000 in
theorem ggX0_belowFrom_X4_at : GoodIn wsX0_belowFrom wsX4_at := goodIn_r _ [6, 7, 11] (by decide +kernel) (by decide +kernel)
set_option maxRecDepth 20000 in
theorem gX0_belowFrom_X4_at : GoodIn wsX0_belowFrom (wsV RX0 42 RX4 yX4_at wsX4_at) := goodIn_app (goodIn_of _ (by decide +kernel)) ggX0_belowFrom_X4_at
set_option maxRecDepth 20000 in
theorem ggX0_chooseBest_X0_settle : GoodIn wsX0_chooseBest wsX0_settle := goodIn_r _ [7, 8, 1, 2, 9, 10, 11, 12, 13, 14, 42, 43, 44, 45] (by decide +kernel) (by decide +kernel)
set_option maxRecDepth 20000 in
theorem gX0_chooseBest_X0_settle : GoodIn wsX0_chooseBest (wsV RX0 45 RX0 yX0_settle wsX0_settle) := goodIn_app (goodIn_of _ (by decide +kernel)) ggX0_chooseBest_X0_settle
set_option maxRecDepth 20000 in
theorem ggX0_chooseBest_X4_at : GoodIn wsX0_chooseBest wsX4_at := goodIn_r _ [18, 14, 45] (by decide +kernel) (by decide +kernel)
set_option maxRecDepth 20000 in
theorem gX0_chooseBest_X4_at : GoodIn wsX0_chooseBest (wsV RX0 42 RX4 yX4_at wsX4_at) := goodIn_app (goodIn_of _ (by decide +kernel)) ggX0_chooseBest_X4_at
set_option maxRecDepth 20000 in
theorem ggX0_chooseBest_X0_isBetter : GoodIn wsX0_chooseBest wsX0_isBetter := goodIn_r _ [22, 2, 1, 15, 16, 17, 12, 18, 14, 42, 43, 44, 45] (by decide +kernel) (by decide +kernel)
set_option maxRecDepth 20000 in
theorem gX0_chooseBest_X0_isBetter : GoodIn wsX0_chooseBest (wsV RX0 49 RX0 yX0_isBetter wsX0_isBetter) := goodIn_app (goodIn_of _ (by decide +kernel)) ggX0_chooseBest_X0_isBetter
set_option maxRecDepth 20000 in
theorem ggX0_chooseBest_X6_numberOf : GoodIn wsX0_chooseBest wsX6_numberOf := goodIn_r _ [27, 28, 29, 30, 31, 26, 32, 33, 34, 16, 17, 12, 18, 14, 39, 40, 41, 45] (by decide +kernel) (by decide +kernel)
set_option maxRecDepth 20000 in
theorem gX0_chooseBest_X6_numberOf : GoodIn wsX0_chooseBest (wsV RX0 53 RX6 yX6_numberOf wsX6_numberOf) := goodIn_app (goodIn_of _ (by decide +kernel)) ggX0_chooseBest_X6_numberOf
set_option maxRecDepth 20000 in
theorem ggX0_chooseBest_X6_sumOf : GoodIn wsX0_chooseBest wsX6_sumOf := goodIn_r _ [38, 28, 33, 29, 30, 31, 26, 32, 34, 16, 17, 12, 18, 14, 39, 40, 41, 45] (by decide +kernel) (by decide +kernel)
set_option maxRecDepth 20000 in
theorem gX0_chooseBest_X6_sumOf : GoodIn wsX0_chooseBest (wsV RX0 59 RX6 yX6_sumOf wsX6_sumOf) := goodIn_app (goodIn_of _ (by decide +kernel)) ggX0_chooseBest_X6_sumOf
set_option maxRecDepth 20000 in
theorem ggX0_settle_X4_put : GoodIn wsX0_settle wsX4_put := goodIn_r _ [8, 9, 13] (by decide +kernel) (by decide +kernel)
set_option maxRecDepth 20000 in
theorem gX0_settle_X4_put : GoodIn wsX0_settle (wsV RX0 62 RX4 yX4_put wsX4_put) := goodIn_app (goodIn_of _ (by decide +kernel)) ggX0_settle_X4_put
set_option maxRecDepth 20000 in
theorem ggX0_isBetter_X4_at : GoodIn wsX0_isBetter wsX4_at := goodIn_r _ [7, 8, 12] (by decide +kernel) (by decide +kernel)
set_option maxRecDepth 20000 in
theorem gX0_isBetter_X4_at : GoodIn wsX0_isBetter (wsV RX0 42 RX4 yX4_at wsX4_at) := goodIn_app (goodIn_of _ (by decide +kernel)) ggX0_isBetter_X4_at
set_option maxRecDepth 20000 in
theorem ggX1_init_X4_init : GoodIn wsX1_init wsX4_init := goodIn_r _ [12, 13, 2, 3, 14, 15, 16, 17, 18, 19, 20] (by decide +kernel) (by decide +kernel)
set_option maxRecDepth 20000 in
theorem gX1_init_X4_init : GoodIn wsX1_init (wsX4_init) := ggX1_init_X4_init
set_option maxRecDepth 20000 in
theorem ggX1_add_X4_shift : GoodIn wsX1_add wsX4_shift := goodIn_r _ [9, 10, 19] (by decide +kernel) (by decide +kernel)
set_option maxRecDepth 20000 in
theorem gX1_add_X4_shift : GoodIn wsX1_add (wsV RX1 30 RX4 yX4_shift wsX4_shift) := goodIn_app (goodIn_of _ (by decide +kernel)) ggX1_add_X4_shift
set_option maxRecDepth 20000 in
theorem ggX1_add_X4_put : GoodIn wsX1_add wsX4_put := goodIn_r _ [14, 10, 19] (by decide +kernel) (by decide +kernel)
set_option maxRecDepth 20000 in
theorem gX1_add_X4_put : GoodIn wsX1_add (wsV RX1 33 RX4 yX4_put wsX4_put) := goodIn_app (goodIn_of _ (by decide +kernel)) ggX1_add_X4_put
set_option maxRecDepth 20000 in
theorem ggX1_undoLatest_X4_at : GoodIn wsX1_undoLatest wsX4_at := goodIn_r _ [9, 10, 32] (by decide +kernel) (by decide +kernel)
set_option maxRecDepth 20000 in
theorem gX1_undoLatest_X4_at : GoodIn wsX1_undoLatest (wsV RX1 37 RX4 yX4_at wsX4_at) := goodIn_app (goodIn_of _ (by decide +kernel)) ggX1_undoLatest_X4_at
set_option maxRecDepth 20000 in
theorem ggX1_undoLatest_X3_setWalked : GoodIn wsX1_undoLatest wsX3_setWalked := goodIn_r _ [15, 16, 25, 26, 27, 28, 29, 30, 31] (by decide +kernel) (by decide +kernel)
set_option maxRecDepth 20000 in
theorem gX1_undoLatest_X3_setWalked : GoodIn wsX1_undoLatest (wsV RX1 41 RX3 yX3_setWalked wsX3_setWalked) := goodIn_app (goodIn_of _ (by decide +kernel)) ggX1_undoLatest_X3_setWalked
set_option maxRecDepth 20000 in
theorem ggX1_undoLatest_X4_put : GoodIn wsX1_undoLatest wsX4_put := goodIn_r _ [20, 10, 32] (by decide +kernel) (by decide +kernel)
set_option maxRecDepth 20000 in
theorem gX1_undoLatest_X4_put : GoodIn wsX1_undoLatest (wsV RX1 33 RX4 yX4_put wsX4_put) := goodIn_app (goodIn_of _ (by decide +kernel)) ggX1_undoLatest_X4_put
set_option maxRecDepth 20000 in
theorem ggX2_init_X3_init : GoodIn wsX2_init wsX3_init := goodIn_r _ [11, 12, 2, 3, 13, 14, 15, 16, 17, 18, 19, 20, 21, 22, 23, 24, 25, 26, 27, 28, 29, 30, 31, 6, 32, 33, 34, 35, 36, 37, 38, 39, 40, 41, 42, 43, 44, 45, 46, 47, 48, 60, 49, 50, 51, 52, 53, 54, 55] (by decide +kernel) (by decide +kernel)
set_option maxRecDepth 20000 in
theorem gX2_init_X3_init : GoodIn wsX2_init (wsX3_init) := ggX2_init_X3_init
set_option maxRecDepth 20000 in
theorem ggX2_read_X3_take : GoodIn wsX2_read wsX3_take := goodIn_r _ [9, 10, 11, 12, 13, 14, 15, 16, 17, 18, 19, 20, 21, 22, 23, 24, 25, 26, 173, 174, 175, 176, 177, 178, 179, 180] (by decide +kernel) (by decide +kernel)
set_option maxRecDepth 20000 in
theorem gX2_read_X3_take : GoodIn wsX2_read (wsV RX2 22 RX3 yX3_take wsX3_take) := goodIn_app (goodIn_of _ (by decide +kernel)) ggX2_read_X3_take
set_option maxRecDepth 20000 in
theorem ggX2_read_X7_readFirst : GoodIn wsX2_read wsX7_readFirst := goodIn_r _ [31, 32, 33, 34, 35, 30, 36, 37, 38, 39, 40, 41, 42, 43, 44, 24, 25, 20, 26, 22, 45, 46, 47, 169, 170, 171, 172, 180] (by decide +kernel) (by decide +kernel)
set_option maxRecDepth 20000 in
theorem gX2_read_X7_readFirst : GoodIn wsX2_read (wsV RX2 33 RX7 yX7_readFirst wsX7_readFirst) := goodIn_app (goodIn_of _ (by decide +kernel)) ggX2_read_X7_readFirst
set_option maxRecDepth 20000 in
theorem ggX2_read_X2_readClause : GoodIn wsX2_read wsX2_readClause := goodIn_r _ [52, 4, 1, 53, 54, 55, 30, 56, 32, 37, 39, 57, 58, 59, 60, 61, 62, 63, 64, 65, 66, 67, 68, 44, 24, 25, 20, 26, 22, 69, 70, 71, 72, 73, 74, 75, 76, 77, 78, 79, 80, 81, 82, 83, 84, 85, 86, 87, 88, 89, 90, 91, 92, 93, 94, 95, 96, 97, 98, 99, 100, 101, 102, 103, 104, 105, 106, 107, 108, 51, 109, 110, 34, 35, 36, 38, 40, 41, 42, 43, 45, 46, 47, 111, 112, 113, 114, 3, 115, 116, 117, 118, 119, 120, 121, 122, 123, 124, 125, 126, 127, 128, 8, 129, 10, 11, 130, 131, 132, 133, 12, 13, 134, 135, 136, 137, 14, 138, 139, 140, 141, 142, 143, 144, 145, 146, 147, 148, 149, 150, 151, 152, 153, 154, 155, 156, 157, 158, 159, 160, 161, 162, 163, 15, 16, 165, 166, 167, 168, 169, 170, 171, 172, 180, 173, 174, 175, 176, 177, 178, 179] (by decide +kernel) (by decide +kernel)
set_option maxRecDepth 20000 in
theorem gX2_read_X2_readClause : GoodIn wsX2_read (wsV RX2 38 RX2 yX2_readClause wsX2_readClause) := goodIn_app (goodIn_of _ (by decide +kernel)) ggX2_read_X2_readClause
set_option maxRecDepth 20000 in
theorem ggX2_read_X7_isAtEnd : GoodIn wsX2_read wsX7_isAtEnd := goodIn_r _ [122, 37, 38, 169, 170, 171, 172] (by decide +kernel) (by decide +kernel)
set_option maxRecDepth 20000 in
theorem gX2_read_X7_isAtEnd : GoodIn wsX2_read (wsV RX2 41 RX7 yX7_isAtEnd wsX7_isAtEnd) := goodIn_app (goodIn_of _ (by decide +kernel)) ggX2_read_X7_isAtEnd
set_option maxRecDepth 20000 in
theorem ggX2_read_X7_isAt : GoodIn wsX2_read wsX7_isAt := goodIn_r _ [56, 32, 37, 39, 57, 58, 59, 60, 61, 62, 63, 64, 65, 66, 67, 68, 44, 24, 25, 20, 26, 22, 69, 70, 71, 72, 73, 74, 75, 76, 77, 78, 79, 80, 81, 82, 83, 84, 85, 86, 87, 88, 89, 90, 91, 92, 93, 94, 95, 96, 97, 98, 99, 100, 101, 102, 103, 104, 105, 169, 170, 171, 172, 180] (by decide +kernel) (by decide +kernel)
set_option maxRecDepth 20000 in
theorem gX2_read_X7_isAt : GoodIn wsX2_read (wsV RX2 47 RX7 yX7_isAt wsX7_isAt) := goodIn_app (goodIn_of _ (by decide +kernel)) ggX2_read_X7_isAt
set_option maxRecDepth 20000 in
theorem ggX2_read_X7_readNext : GoodIn wsX2_read wsX7_readNext := goodIn_r _ [36, 32, 37, 38, 39, 40, 41, 42, 43, 44, 24, 25, 20, 26, 22, 45, 46, 30, 47, 169, 170, 171, 172, 180] (by decide +kernel) (by decide +kernel)
set_option maxRecDepth 20000 in
theorem gX2_read_X7_readNext : GoodIn wsX2_read (wsV RX2 54 RX7 yX7_readNext wsX7_readNext) := goodIn_app (goodIn_of _ (by decide +kernel)) ggX2_read_X7_readNext
set_option maxRecDepth 20000 in
theorem ggX2_readClause_X7_isAt : GoodIn wsX2_readClause wsX7_isAt := goodIn_r _ [7, 8, 9, 10, 11, 12, 13, 14, 15, 16, 17, 18, 19, 20, 21, 22, 23, 24, 25, 26, 27, 28, 29, 30, 31, 32, 33, 34, 35, 36, 37, 38, 39, 40, 41, 42, 43, 44, 45, 46, 47, 48, 49, 50, 51, 52, 53, 54, 55, 56, 57, 58, 59, 60, 61, 62, 63, 64, 65, 149, 150, 151, 152, 153] (by decide +kernel) (by decide +kernel)
set_option maxRecDepth 20000 in
theorem gX2_readClause_X7_isAt : GoodIn wsX2_readClause (wsV RX2 47 RX7 yX7_isAt wsX7_isAt) := goodIn_app (goodIn_of _ (by decide +kernel)) ggX2_readClause_X7_isAt
set_option maxRecDepth 20000 in
theorem ggX2_readClause_X2_readRoad : GoodIn wsX2_readClause wsX2_readRoad := goodIn_r _ [70, 1, 2, 71, 72, 73, 6, 74, 8, 9, 75, 10, 76, 77, 78, 79, 23, 24, 25, 26, 27, 28, 80, 81, 82, 83, 84, 85, 69, 86, 87, 88, 89, 90, 91, 92, 93, 94, 95, 96, 97, 98, 99, 100, 101, 102, 103, 104, 105, 106, 107, 108, 109, 110, 111, 112, 113, 114, 115, 116, 117, 118, 119, 120, 145, 146, 147, 148, 149, 150, 151, 152, 153, 154, 155, 156, 157, 158, 159, 160] (by decide +kernel) (by decide +kernel)
set_option maxRecDepth 20000 in
theorem gX2_readClause_X2_readRoad : GoodIn wsX2_readClause (wsV RX2 59 RX2 yX2_readRoad wsX2_readRoad) := goodIn_app (goodIn_of _ (by decide +kernel)) ggX2_readClause_X2_readRoad
set_option maxRecDepth 20000 in
theorem ggX2_readClause_X2_readHill : GoodIn wsX2_readClause wsX2_readHill := goodIn_r _ [124, 1, 2, 71, 72, 73, 6, 74, 8, 9, 75, 10, 76, 77, 78, 79, 23, 24, 25, 26, 27, 28, 80, 81, 82, 83, 84, 85, 69, 86, 87, 88, 89, 90, 91, 92, 93, 94, 95, 96, 97, 98, 125, 113, 114, 102, 115, 116, 117, 118, 119, 120, 145, 146, 147, 148, 154, 155, 156, 157, 158, 159, 160, 149, 150, 151, 152, 153] (by decide +kernel) (by decide +kernel)
set_option maxRecDepth 20000 in
theorem gX2_readClause_X2_readHill : GoodIn wsX2_readClause (wsV RX2 64 RX2 yX2_readHill wsX2_readHill) := goodIn_app (goodIn_of _ (by decide +kernel)) ggX2_readClause_X2_readHill
set_option maxRecDepth 20000 in
theorem ggX2_readClause_X2_readMile : GoodIn wsX2_readClause wsX2_readMile := goodIn_r _ [129, 1, 2, 71, 72, 73, 6, 74, 8, 9, 75, 10, 76, 77, 78, 79, 23, 24, 25, 26, 27, 28, 80, 81, 82, 83, 84, 85, 69, 86, 87, 88, 89, 90, 91, 92, 93, 94, 95, 96, 97, 98, 145, 146, 147, 148, 154, 155, 156, 157, 158, 159, 160, 149, 150, 151, 152, 153] (by decide +kernel) (by decide +kernel)
set_option maxRecDepth 20000 in
theorem gX2_readClause_X2_readMile : GoodIn wsX2_readClause (wsV RX2 69 RX2 yX2_readMile wsX2_readMile) := goodIn_app (goodIn_of _ (by decide +kernel)) ggX2_readClause_X2_readMile
set_option maxRecDepth 20000 in
theorem ggX2_readClause_X7_readNext : GoodIn wsX2_readClause wsX7_readNext := goodIn_r _ [74, 8, 9, 75, 10, 76, 77, 78, 79, 23, 24, 25, 26, 27, 28, 80, 81, 6, 82, 149, 150, 151, 152, 153] (by decide +kernel) (by decide +kernel)
set_option maxRecDepth 20000 in
theorem gX2_readClause_X7_readNext : GoodIn wsX2_readClause (wsV RX2 54 RX7 yX7_readNext wsX7_readNext) := goodIn_app (goodIn_of _ (by decide +kernel)) ggX2_readClause_X7_readNext
set_option maxRecDepth 20000 in
theorem ggX2_readClause_X3_leaveNobody : GoodIn wsX2_readClause wsX3_leaveNobody := goodIn_r _ [109, 110, 111, 154, 155, 156, 157, 158, 159, 160] (by decide +kernel) (by decide +kernel)
set_option maxRecDepth 20000 in
theorem gX2_readClause_X3_leaveNobody : GoodIn wsX2_readClause (wsV RX2 74 RX3 yX3_leaveNobody wsX3_leaveNobody) := goodIn_app (goodIn_of _ (by decide +kernel)) ggX2_readClause_X3_leaveNobody
set_option maxRecDepth 20000 in
theorem ggX2_readClause_X2_kindAtToken : GoodIn wsX2_readClause wsX2_kindAtToken := goodIn_r _ [134, 1, 3, 4, 5, 6, 7, 8, 9, 10, 11, 12, 13, 14, 15, 16, 17, 18, 19, 20, 21, 22, 23, 24, 25, 26, 27, 28, 29, 30, 31, 32, 33, 34, 35, 36, 37, 38, 39, 40, 41, 42, 43, 44, 45, 46, 47, 48, 49, 50, 51, 52, 53, 54, 55, 56, 57, 58, 59, 60, 61, 62, 63, 64, 65, 145, 146, 147, 148, 149, 150, 151, 152, 153] (by decide +kernel) (by decide +kernel)
set_option maxRecDepth 20000 in
theorem gX2_readClause_X2_kindAtToken : GoodIn wsX2_readClause (wsV RX2 77 RX2 yX2_kindAtToken wsX2_kindAtToken) := goodIn_app (goodIn_of _ (by decide +kernel)) ggX2_readClause_X2_kindAtToken
set_option maxRecDepth 20000 in
theorem ggX2_readClause_X2_readWalker : GoodIn wsX2_readClause wsX2_readWalker := goodIn_r _ [138, 2, 1, 87, 71, 72, 73, 6, 74, 8, 9, 75, 10, 76, 77, 78, 79, 23, 24, 25, 26, 27, 28, 80, 81, 82, 83, 84, 85, 69, 86, 88, 89, 90, 91, 92, 93, 94, 95, 96, 97, 98, 139, 140, 141, 102, 142, 143, 110, 144, 117, 118, 119, 120, 145, 146, 147, 148, 154, 155, 156, 157, 158, 159, 160, 149, 150, 151, 152, 153] (by decide +kernel) (by decide +kernel)
set_option maxRecDepth 20000 in
theorem gX2_readClause_X2_readWalker : GoodIn wsX2_readClause (wsV RX2 81 RX2 yX2_readWalker wsX2_readWalker) := goodIn_app (goodIn_of _ (by decide +kernel)) ggX2_readClause_X2_readWalker
set_option maxRecDepth 20000 in
theorem ggX2_readRoad_X7_readNext : GoodIn wsX2_readRoad wsX7_readNext := goodIn_r _ [7, 8, 9, 10, 11, 12, 13, 14, 15, 16, 17, 18, 19, 20, 21, 22, 23, 6, 24, 68, 69, 70, 71, 72] (by decide +kernel) (by decide +kernel)
set_option maxRecDepth 20000 in
theorem gX2_readRoad_X7_readNext : GoodIn wsX2_readRoad (wsV RX2 54 RX7 yX7_readNext wsX7_readNext) := goodIn_app (goodIn_of _ (by decide +kernel)) ggX2_readRoad_X7_readNext
set_option maxRecDepth 20000 in
theorem ggX2_readRoad_X2_readNumber : GoodIn wsX2_readRoad wsX2_readNumber := goodIn_r _ [29, 1, 30, 31, 32, 33, 6, 34, 11, 9, 8, 35, 36, 37, 38, 10, 16, 17, 18, 19, 20, 21, 22, 23, 24, 39, 40, 41, 3, 4, 5, 7, 12, 13, 14, 15, 64, 65, 66, 67, 68, 69, 70, 71, 72] (by decide +kernel) (by decide +kernel)
set_option maxRecDepth 20000 in
theorem gX2_readRoad_X2_readNumber : GoodIn wsX2_readRoad (wsV RX2 85 RX2 yX2_readNumber wsX2_readNumber) := goodIn_app (goodIn_of _ (by decide +kernel)) ggX2_readRoad_X2_readNumber
set_option maxRecDepth 20000 in
theorem ggX2_readRoad_X3_lay : GoodIn wsX2_readRoad wsX3_lay := goodIn_r _ [46, 47, 48, 49, 50, 51, 45, 52, 53, 54, 55, 56, 57, 58, 59, 60, 61, 62, 19, 63, 21, 73, 74, 75, 76, 77, 78, 79, 72] (by decide +kernel) (by decide +kernel)
set_option maxRecDepth 20000 in
theorem gX2_readRoad_X3_lay : GoodIn wsX2_readRoad (wsV RX2 89 RX3 yX3_lay wsX3_lay) := goodIn_app (goodIn_of _ (by decide +kernel)) ggX2_readRoad_X3_lay
set_option maxRecDepth 20000 in
theorem ggX2_readHill_X7_readNext : GoodIn wsX2_readHill wsX7_readNext := goodIn_r _ [7, 8, 9, 10, 11, 12, 13, 14, 15, 16, 17, 18, 19, 20, 21, 22, 23, 6, 24, 63, 64, 65, 66, 67] (by decide +kernel) (by decide +kernel)
set_option maxRecDepth 20000 in
theorem gX2_readHill_X7_readNext : GoodIn wsX2_readHill (wsV RX2 54 RX7 yX7_readNext wsX7_readNext) := goodIn_app (goodIn_of _ (by decide +kernel)) ggX2_readHill_X7_readNext
set_option maxRecDepth 20000 in
theorem ggX2_readHill_X2_readNumber : GoodIn wsX2_readHill wsX2_readNumber := goodIn_r _ [29, 1, 30, 31, 32, 33, 6, 34, 11, 9, 8, 35, 36, 37, 38, 10, 16, 17, 18, 19, 20, 21, 22, 23, 24, 39, 40, 41, 3, 4, 5, 7, 12, 13, 14, 15, 52, 53, 54, 55, 63, 64, 65, 66, 67] (by decide +kernel) (by decide +kernel)
set_option maxRecDepth 20000 in
theorem gX2_readHill_X2_readNumber : GoodIn wsX2_readHill (wsV RX2 85 RX2 yX2_readNumber wsX2_readNumber) := goodIn_app (goodIn_of _ (by decide +kernel)) ggX2_readHill_X2_readNumber
set_option maxRecDepth 20000 in
theorem ggX2_readHill_X3_raise : GoodIn wsX2_readHill wsX3_raise := goodIn_r _ [46, 47, 48, 49, 50, 19, 51, 21, 56, 57, 58, 59, 60, 61, 62, 67] (by decide +kernel) (by decide +kernel)
set_option maxRecDepth 20000 in
theorem gX2_readHill_X3_raise : GoodIn wsX2_readHill (wsV RX2 95 RX3 yX3_raise wsX3_raise) := goodIn_app (goodIn_of _ (by decide +kernel)) ggX2_readHill_X3_raise
set_option maxRecDepth 20000 in
theorem ggX2_readMile_X7_readNext : GoodIn wsX2_readMile wsX7_readNext := goodIn_r _ [7, 8, 9, 10, 11, 12, 13, 14, 15, 16, 17, 18, 19, 20, 21, 22, 23, 6, 24, 53, 54, 55, 56, 57] (by decide +kernel) (by decide +kernel)
set_option maxRecDepth 20000 in
theorem gX2_readMile_X7_readNext : GoodIn wsX2_readMile (wsV RX2 54 RX7 yX7_readNext wsX7_readNext) := goodIn_app (goodIn_of _ (by decide +kernel)) ggX2_readMile_X7_readNext
set_option maxRecDepth 20000 in
theorem ggX2_readMile_X2_readNumber : GoodIn wsX2_readMile wsX2_readNumber := goodIn_r _ [29, 1, 30, 31, 32, 33, 6, 34, 11, 9, 8, 35, 36, 37, 38, 10, 16, 17, 18, 19, 20, 21, 22, 23, 24, 39, 40, 41, 3, 4, 5, 7, 12, 13, 14, 15, 42, 43, 44, 45, 53, 54, 55, 56, 57] (by decide +kernel) (by decide +kernel)
set_option maxRecDepth 20000 in
theorem gX2_readMile_X2_readNumber : GoodIn wsX2_readMile (wsV RX2 85 RX2 yX2_readNumber wsX2_readNumber) := goodIn_app (goodIn_of _ (by decide +kernel)) ggX2_readMile_X2_readNumber
set_option maxRecDepth 20000 in
theorem ggX2_readWalker_X7_readNext : GoodIn wsX2_readWalker wsX7_readNext := goodIn_r _ [8, 9, 10, 11, 12, 13, 14, 15, 16, 17, 18, 19, 20, 21, 22, 23, 24, 7, 25, 65, 66, 67, 68, 69] (by decide +kernel) (by decide +kernel)
set_option maxRecDepth 20000 in
theorem gX2_readWalker_X7_readNext : GoodIn wsX2_readWalker (wsV RX2 54 RX7 yX7_readNext wsX7_readNext) := goodIn_app (goodIn_of _ (by decide +kernel)) ggX2_readWalker_X7_readNext
set_option maxRecDepth 20000 in
theorem ggX2_readWalker_X2_readNumber : GoodIn wsX2_readWalker wsX2_readNumber := goodIn_r _ [30, 2, 3, 31, 32, 33, 7, 34, 12, 10, 9, 35, 36, 37, 38, 11, 17, 18, 19, 20, 21, 22, 23, 24, 25, 39, 40, 41, 4, 5, 6, 8, 13, 14, 15, 16, 54, 55, 56, 57, 65, 66, 67, 68, 69] (by decide +kernel) (by decide +kernel)
set_option maxRecDepth 20000 in
theorem gX2_readWalker_X2_readNumber : GoodIn wsX2_readWalker (wsV RX2 85 RX2 yX2_readNumber wsX2_readNumber) := goodIn_app (goodIn_of _ (by decide +kernel)) ggX2_readWalker_X2_readNumber
set_option maxRecDepth 20000 in
theorem ggX2_readWalker_X3_hire : GoodIn wsX2_readWalker wsX3_hire := goodIn_r _ [46, 47, 48, 49, 50, 51, 52, 20, 53, 22, 58, 59, 60, 61, 62, 63, 64, 69] (by decide +kernel) (by decide +kernel)
set_option maxRecDepth 20000 in
theorem gX2_readWalker_X3_hire : GoodIn wsX2_readWalker (wsV RX2 104 RX3 yX3_hire wsX3_hire) := goodIn_app (goodIn_of _ (by decide +kernel)) ggX2_readWalker_X3_hire
set_option maxRecDepth 20000 in
theorem ggX2_kindAtToken_X7_isAt : GoodIn wsX2_kindAtToken wsX7_isAt := goodIn_r _ [6, 7, 8, 9, 10, 11, 12, 13, 14, 15, 16, 17, 18, 19, 20, 21, 22, 23, 24, 25, 26, 27, 28, 29, 30, 31, 32, 33, 34, 35, 36, 37, 38, 39, 40, 41, 42, 43, 44, 45, 46, 47, 48, 49, 50, 51, 52, 53, 54, 55, 56, 57, 58, 59, 60, 61, 62, 63, 64, 69, 70, 71, 72, 73] (by decide +kernel) (by decide +kernel)
set_option maxRecDepth 20000 in
theorem gX2_kindAtToken_X7_isAt : GoodIn wsX2_kindAtToken (wsV RX2 47 RX7 yX7_isAt wsX7_isAt) := goodIn_app (goodIn_of _ (by decide +kernel)) ggX2_kindAtToken_X7_isAt
set_option maxRecDepth 20000 in
theorem ggX2_readNumber_X7_number : GoodIn wsX2_readNumber wsX7_number := goodIn_r _ [7, 8, 9, 10, 11, 12, 13, 6, 14, 15, 16, 17, 18, 19, 20, 21, 22, 23, 24, 40, 41, 42, 43, 44] (by decide +kernel) (by decide +kernel)
set_option maxRecDepth 20000 in
theorem gX2_readNumber_X7_number : GoodIn wsX2_readNumber (wsV RX2 116 RX7 yX7_number wsX7_number) := goodIn_app (goodIn_of _ (by decide +kernel)) ggX2_readNumber_X7_number
set_option maxRecDepth 20000 in
theorem ggX2_readNumber_X8_within : GoodIn wsX2_readNumber wsX8_within := goodIn_r _ [27] (by decide +kernel) (by decide +kernel)
set_option maxRecDepth 20000 in
theorem gX2_readNumber_X8_within_n119 : GoodIn wsX2_readNumber (wsX8_within) := ggX2_readNumber_X8_within
set_option maxRecDepth 20000 in
theorem ggX2_readNumber_X7_readNext : GoodIn wsX2_readNumber wsX7_readNext := goodIn_r _ [31, 10, 9, 15, 8, 32, 33, 34, 35, 16, 17, 18, 19, 20, 21, 22, 23, 6, 24, 40, 41, 42, 43, 44] (by decide +kernel) (by decide +kernel)
set_option maxRecDepth 20000 in
theorem gX2_readNumber_X7_readNext : GoodIn wsX2_readNumber (wsV RX2 54 RX7 yX7_readNext wsX7_readNext) := goodIn_app (goodIn_of _ (by decide +kernel)) ggX2_readNumber_X7_readNext
set_option maxRecDepth 20000 in
theorem ggX3_init_X4_init : GoodIn wsX3_init wsX4_init := goodIn_r _ [12, 13, 2, 3, 14, 15, 16, 17, 18, 19, 41] (by decide +kernel) (by decide +kernel)
set_option maxRecDepth 20000 in
theorem gX3_init_X4_init : GoodIn wsX3_init (wsX4_init) := ggX3_init_X4_init
set_option maxRecDepth 20000 in
theorem ggX3_init_X3_lay : GoodIn wsX3_init wsX3_lay := goodIn_r _ [24, 25, 26, 27, 28, 29, 23, 30, 31, 32, 33, 34, 35, 36, 7, 37, 38, 39, 6, 40, 19, 42, 43, 44, 45, 46, 47, 48, 41] (by decide +kernel) (by decide +kernel)
set_option maxRecDepth 20000 in
theorem gX3_init_X3_lay : GoodIn wsX3_init (wsV RX3 26 RX3 yX3_lay wsX3_lay) := goodIn_app (goodIn_of _ (by decide +kernel)) ggX3_init_X3_lay
set_option maxRecDepth 20000 in
theorem ggX3_lay_X3_leaveNobody : GoodIn wsX3_lay wsX3_leaveNobody := goodIn_r _ [7, 8, 9, 21, 22, 23, 24, 25, 26, 27] (by decide +kernel) (by decide +kernel)
set_option maxRecDepth 20000 in
theorem gX3_lay_X3_leaveNobody : GoodIn wsX3_lay (wsV RX3 36 RX3 yX3_leaveNobody wsX3_leaveNobody) := goodIn_app (goodIn_of _ (by decide +kernel)) ggX3_lay_X3_leaveNobody
set_option maxRecDepth 20000 in
theorem ggX3_lay_X3_raise : GoodIn wsX3_lay wsX3_raise := goodIn_r _ [13, 14, 15, 16, 17, 18, 19, 20, 21, 22, 23, 24, 25, 26, 27, 28] (by decide +kernel) (by decide +kernel)
set_option maxRecDepth 20000 in
theorem gX3_lay_X3_raise : GoodIn wsX3_lay (wsV RX3 39 RX3 yX3_raise wsX3_raise) := goodIn_app (goodIn_of _ (by decide +kernel)) ggX3_lay_X3_raise
set_option maxRecDepth 20000 in
theorem ggX3_raise_X4_put : GoodIn wsX3_raise wsX4_put := goodIn_r _ [6, 7, 15] (by decide +kernel) (by decide +kernel)
set_option maxRecDepth 20000 in
theorem gX3_raise_X4_put : GoodIn wsX3_raise (wsV RX3 43 RX4 yX4_put wsX4_put) := goodIn_app (goodIn_of _ (by decide +kernel)) ggX3_raise_X4_put
set_option maxRecDepth 20000 in
theorem ggX3_hire_X4_put : GoodIn wsX3_hire wsX4_put := goodIn_r _ [8, 9, 17] (by decide +kernel) (by decide +kernel)
set_option maxRecDepth 20000 in
theorem gX3_hire_X4_put : GoodIn wsX3_hire (wsV RX3 43 RX4 yX4_put wsX4_put) := goodIn_app (goodIn_of _ (by decide +kernel)) ggX3_hire_X4_put
set_option maxRecDepth 20000 in
theorem ggX3_take_X4_take : GoodIn wsX3_take wsX4_take := goodIn_r _ [12, 13, 14, 15, 16, 11, 17, 25] (by decide +kernel) (by decide +kernel)
set_option maxRecDepth 20000 in
theorem gX3_take_X4_take : GoodIn wsX3_take (wsV RX3 53 RX4 yX4_take wsX4_take) := goodIn_app (goodIn_of _ (by decide +kernel)) ggX3_take_X4_take
set_option maxRecDepth 20000 in
theorem ggX3_has_X8_within : GoodIn wsX3_has wsX8_within := goodIn_r _ [4] (by decide +kernel) (by decide +kernel)
set_option maxRecDepth 20000 in
theorem gX3_has_X8_within_n57 : GoodIn wsX3_has (wsX8_within) := ggX3_has_X8_within
set_option maxRecDepth 20000 in
theorem ggX3_allHard_X4_at : GoodIn wsX3_allHard wsX4_at := goodIn_r _ [7, 8, 16] (by decide +kernel) (by decide +kernel)
set_option maxRecDepth 20000 in
theorem gX3_allHard_X4_at : GoodIn wsX3_allHard (wsV RX3 61 RX4 yX4_at wsX4_at) := goodIn_app (goodIn_of _ (by decide +kernel)) ggX3_allHard_X4_at
set_option maxRecDepth 20000 in
theorem ggX3_felt_X4_at : GoodIn wsX3_felt wsX4_at := goodIn_r _ [7, 8, 16] (by decide +kernel) (by decide +kernel)
set_option maxRecDepth 20000 in
theorem gX3_felt_X4_at : GoodIn wsX3_felt (wsV RX3 61 RX4 yX4_at wsX4_at) := goodIn_app (goodIn_of _ (by decide +kernel)) ggX3_felt_X4_at
set_option maxRecDepth 20000 in
theorem ggX3_allFeltBy_X4_at : GoodIn wsX3_allFeltBy wsX4_at := goodIn_r _ [8, 9, 23] (by decide +kernel) (by decide +kernel)
set_option maxRecDepth 20000 in
theorem gX3_allFeltBy_X4_at : GoodIn wsX3_allFeltBy (wsV RX3 61 RX4 yX4_at wsX4_at) := goodIn_app (goodIn_of _ (by decide +kernel)) ggX3_allFeltBy_X4_at
set_option maxRecDepth 20000 in
theorem ggX3_allFeltBy_X3_felt : GoodIn wsX3_allFeltBy wsX3_felt := goodIn_r _ [14, 15, 1, 4, 5, 6, 7, 8, 9, 16, 17, 18, 19, 20, 21, 22, 23] (by decide +kernel) (by decide +kernel)
set_option maxRecDepth 20000 in
theorem gX3_allFeltBy_X3_felt : GoodIn wsX3_allFeltBy (wsV RX3 65 RX3 yX3_felt wsX3_felt) := goodIn_app (goodIn_of _ (by decide +kernel)) ggX3_allFeltBy_X3_felt
set_option maxRecDepth 20000 in
theorem ggX3_placeFelt_X3_felt : GoodIn wsX3_placeFelt wsX3_felt := goodIn_r _ [6, 7, 1, 8, 9, 10, 11, 12, 13, 14, 15, 16, 17, 18, 19, 20, 21] (by decide +kernel) (by decide +kernel)
set_option maxRecDepth 20000 in
theorem gX3_placeFelt_X3_felt : GoodIn wsX3_placeFelt (wsV RX3 65 RX3 yX3_felt wsX3_felt) := goodIn_app (goodIn_of _ (by decide +kernel)) ggX3_placeFelt_X3_felt
set_option maxRecDepth 20000 in
theorem ggX3_stoneOf_X4_at : GoodIn wsX3_stoneOf wsX4_at := goodIn_r _ [8, 9, 28] (by decide +kernel) (by decide +kernel)
set_option maxRecDepth 20000 in
theorem gX3_stoneOf_X4_at : GoodIn wsX3_stoneOf (wsV RX3 61 RX4 yX4_at wsX4_at) := goodIn_app (goodIn_of _ (by decide +kernel)) ggX3_stoneOf_X4_at
set_option maxRecDepth 20000 in
theorem ggX3_stoneOf_X3_placeFelt : GoodIn wsX3_stoneOf wsX3_placeFelt := goodIn_r _ [14, 15, 16, 17, 18, 13, 19, 20, 4, 5, 6, 7, 8, 9, 21, 22, 23, 24, 25, 26, 27, 28] (by decide +kernel) (by decide +kernel)
set_option maxRecDepth 20000 in
theorem gX3_stoneOf_X3_placeFelt : GoodIn wsX3_stoneOf (wsV RX3 69 RX3 yX3_placeFelt wsX3_placeFelt) := goodIn_app (goodIn_of _ (by decide +kernel)) ggX3_stoneOf_X3_placeFelt
set_option maxRecDepth 20000 in
theorem ggX3_stonesOf_X3_allFeltBy : GoodIn wsX3_stonesOf wsX3_allFeltBy := goodIn_r _ [10, 11, 12, 13, 14, 15, 16, 17, 18, 19, 20, 21, 22, 9, 23, 24, 25, 26, 27, 28, 29, 30, 31, 32] (by decide +kernel) (by decide +kernel)
set_option maxRecDepth 20000 in
theorem gX3_stonesOf_X3_allFeltBy : GoodIn wsX3_stonesOf (wsV RX3 72 RX3 yX3_allFeltBy wsX3_allFeltBy) := goodIn_app (goodIn_of _ (by decide +kernel)) ggX3_stonesOf_X3_allFeltBy
set_option maxRecDepth 20000 in
theorem ggX4_take_X4_at : GoodIn wsX4_take wsX4_at := goodIn_r _ [6, 1, 7] (by decide +kernel) (by decide +kernel)
set_option maxRecDepth 20000 in
theorem gX4_take_X4_at : GoodIn wsX4_take (wsV RX4 19 RX4 yX4_at wsX4_at) := goodIn_app (goodIn_of _ (by decide +kernel)) ggX4_take_X4_at
set_option maxRecDepth 20000 in
theorem ggX5_init_X4_init : GoodIn wsX5_init wsX4_init := goodIn_r _ [12, 13, 2, 3, 14, 15, 16, 17, 18, 19, 20] (by decide +kernel) (by decide +kernel)
set_option maxRecDepth 20000 in
theorem gX5_init_X4_init : GoodIn wsX5_init (wsX4_init) := ggX5_init_X4_init
set_option maxRecDepth 20000 in
theorem ggX5_add_X4_put : GoodIn wsX5_add wsX4_put := goodIn_r _ [9, 10, 15] (by decide +kernel) (by decide +kernel)
set_option maxRecDepth 20000 in
theorem gX5_add_X4_put : GoodIn wsX5_add (wsV RX5 30 RX4 yX4_put wsX4_put) := goodIn_app (goodIn_of _ (by decide +kernel)) ggX5_add_X4_put
set_option maxRecDepth 20000 in
theorem ggX5_fitKind_X4_at : GoodIn wsX5_fitKind wsX4_at := goodIn_r _ [7, 8, 39] (by decide +kernel) (by decide +kernel)
set_option maxRecDepth 20000 in
theorem gX5_fitKind_X4_at : GoodIn wsX5_fitKind (wsV RX5 34 RX4 yX4_at wsX4_at) := goodIn_app (goodIn_of _ (by decide +kernel)) ggX5_fitKind_X4_at
set_option maxRecDepth 20000 in
theorem ggX5_fitKind_X5_fits : GoodIn wsX5_fitKind wsX5_fits := goodIn_r _ [13, 2, 14, 15, 3, 4, 5, 6, 7, 8, 16, 17, 18, 19, 20, 21, 22, 23, 24, 25, 26, 27, 32, 33, 34, 35, 36, 37, 38, 28, 29, 30, 31, 39] (by decide +kernel) (by decide +kernel)
set_option maxRecDepth 20000 in
theorem gX5_fitKind_X5_fits : GoodIn wsX5_fitKind (wsV RX5 43 RX5 yX5_fits wsX5_fits) := goodIn_app (goodIn_of _ (by decide +kernel)) ggX5_fitKind_X5_fits
set_option maxRecDepth 20000 in
theorem ggX5_fitMile_X4_at : GoodIn wsX5_fitMile wsX4_at := goodIn_r _ [7, 8, 39] (by decide +kernel) (by decide +kernel)
set_option maxRecDepth 20000 in
theorem gX5_fitMile_X4_at : GoodIn wsX5_fitMile (wsV RX5 34 RX4 yX4_at wsX4_at) := goodIn_app (goodIn_of _ (by decide +kernel)) ggX5_fitMile_X4_at
set_option maxRecDepth 20000 in
theorem ggX5_fitMile_X5_fits : GoodIn wsX5_fitMile wsX5_fits := goodIn_r _ [13, 2, 14, 15, 3, 4, 5, 6, 7, 8, 16, 17, 18, 19, 20, 21, 22, 23, 24, 25, 26, 27, 32, 33, 34, 35, 36, 37, 38, 28, 29, 30, 31, 39] (by decide +kernel) (by decide +kernel)
set_option maxRecDepth 20000 in
theorem gX5_fitMile_X5_fits : GoodIn wsX5_fitMile (wsV RX5 43 RX5 yX5_fits wsX5_fits) := goodIn_app (goodIn_of _ (by decide +kernel)) ggX5_fitMile_X5_fits
set_option maxRecDepth 20000 in
theorem ggX5_fits_X4_at : GoodIn wsX5_fits wsX4_at := goodIn_r _ [8, 9, 33] (by decide +kernel) (by decide +kernel)
set_option maxRecDepth 20000 in
theorem gX5_fits_X4_at : GoodIn wsX5_fits (wsV RX5 34 RX4 yX4_at wsX4_at) := goodIn_app (goodIn_of _ (by decide +kernel)) ggX5_fits_X4_at
set_option maxRecDepth 20000 in
theorem ggX5_fits_X3_placeFelt : GoodIn wsX5_fits wsX3_placeFelt := goodIn_r _ [14, 15, 16, 17, 18, 13, 19, 20, 21, 5, 6, 7, 8, 9, 22, 23, 24, 25, 26, 27, 28, 33] (by decide +kernel) (by decide +kernel)
set_option maxRecDepth 20000 in
theorem gX5_fits_X3_placeFelt : GoodIn wsX5_fits (wsV RX5 53 RX3 yX3_placeFelt wsX3_placeFelt) := goodIn_app (goodIn_of _ (by decide +kernel)) ggX5_fits_X3_placeFelt
set_option maxRecDepth 20000 in
theorem ggX6_init_X4_init : GoodIn wsX6_init wsX4_init := goodIn_r _ [10, 11, 2, 3, 12, 13, 14, 15, 16, 17, 18] (by decide +kernel) (by decide +kernel)
set_option maxRecDepth 20000 in
theorem gX6_init_X4_init : GoodIn wsX6_init (wsX4_init) := ggX6_init_X4_init
set_option maxRecDepth 20000 in
theorem ggX6_find_X3_stoneOf : GoodIn wsX6_find wsX3_stoneOf := goodIn_r _ [8, 9, 10, 11, 12, 13, 14, 15, 16, 17, 18, 19, 20, 7, 21, 22, 23, 24, 25, 26, 27, 32, 33, 34, 35, 36, 37, 38, 42] (by decide +kernel) (by decide +kernel)
set_option maxRecDepth 20000 in
theorem gX6_find_X3_stoneOf : GoodIn wsX6_find (wsV RX6 31 RX3 yX3_stoneOf wsX3_stoneOf) := goodIn_app (goodIn_of _ (by decide +kernel)) ggX6_find_X3_stoneOf
set_option maxRecDepth 20000 in
theorem ggX6_find_X4_put : GoodIn wsX6_find wsX4_put := goodIn_r _ [31, 17, 42] (by decide +kernel) (by decide +kernel)
set_option maxRecDepth 20000 in
theorem gX6_find_X4_put : GoodIn wsX6_find (wsV RX6 35 RX4 yX4_put wsX4_put) := goodIn_app (goodIn_of _ (by decide +kernel)) ggX6_find_X4_put
set_option maxRecDepth 20000 in
theorem ggX6_sumOf_X6_counts : GoodIn wsX6_sumOf wsX6_counts := goodIn_r _ [7, 2, 8, 9, 10, 11, 12, 13, 14, 15, 16, 17] (by decide +kernel) (by decide +kernel)
set_option maxRecDepth 20000 in
theorem gX6_sumOf_X6_counts : GoodIn wsX6_sumOf (wsV RX6 39 RX6 yX6_counts wsX6_counts) := goodIn_app (goodIn_of _ (by decide +kernel)) ggX6_sumOf_X6_counts
set_option maxRecDepth 20000 in
theorem ggX6_sumOf_X4_at : GoodIn wsX6_sumOf wsX4_at := goodIn_r _ [12, 13, 17] (by decide +kernel) (by decide +kernel)
set_option maxRecDepth 20000 in
theorem gX6_sumOf_X4_at : GoodIn wsX6_sumOf (wsV RX6 43 RX4 yX4_at wsX4_at) := goodIn_app (goodIn_of _ (by decide +kernel)) ggX6_sumOf_X4_at
set_option maxRecDepth 20000 in
theorem ggX6_numberOf_X6_counts : GoodIn wsX6_numberOf wsX6_counts := goodIn_r _ [6, 7, 8, 9, 10, 11, 12, 13, 14, 15, 16, 17] (by decide +kernel) (by decide +kernel)
set_option maxRecDepth 20000 in
theorem gX6_numberOf_X6_counts : GoodIn wsX6_numberOf (wsV RX6 39 RX6 yX6_counts wsX6_counts) := goodIn_app (goodIn_of _ (by decide +kernel)) ggX6_numberOf_X6_counts
set_option maxRecDepth 20000 in
theorem ggX6_counts_X4_at : GoodIn wsX6_counts wsX4_at := goodIn_r _ [6, 7, 11] (by decide +kernel) (by decide +kernel)
set_option maxRecDepth 20000 in
theorem gX6_counts_X4_at : GoodIn wsX6_counts (wsV RX6 43 RX4 yX4_at wsX4_at) := goodIn_app (goodIn_of _ (by decide +kernel)) ggX6_counts_X4_at
set_option maxRecDepth 20000 in
theorem ggX7_init_X4_init : GoodIn wsX7_init wsX4_init := goodIn_r _ [10, 11, 2, 3, 12, 13, 14, 15, 16, 17, 18] (by decide +kernel) (by decide +kernel)
set_option maxRecDepth 20000 in
theorem gX7_init_X4_init : GoodIn wsX7_init (wsX4_init) := ggX7_init_X4_init
set_option maxRecDepth 20000 in
theorem ggX7_add_X4_put : GoodIn wsX7_add wsX4_put := goodIn_r _ [7, 8, 13] (by decide +kernel) (by decide +kernel)
set_option maxRecDepth 20000 in
theorem gX7_add_X4_put : GoodIn wsX7_add (wsV RX7 24 RX4 yX4_put wsX4_put) := goodIn_app (goodIn_of _ (by decide +kernel)) ggX7_add_X4_put
set_option maxRecDepth 20000 in
theorem ggX7_readFirst_X7_readNext : GoodIn wsX7_readFirst wsX7_readNext := goodIn_r _ [6, 1, 7, 8, 9, 10, 11, 12, 13, 14, 15, 16, 17, 18, 19, 20, 21, 5, 22, 23, 24, 25, 26, 27] (by decide +kernel) (by decide +kernel)
set_option maxRecDepth 20000 in
theorem gX7_readFirst_X7_readNext : GoodIn wsX7_readFirst (wsV RX7 31 RX7 yX7_readNext wsX7_readNext) := goodIn_app (goodIn_of _ (by decide +kernel)) ggX7_readFirst_X7_readNext
set_option maxRecDepth 20000 in
theorem ggX7_readNext_X4_at : GoodIn wsX7_readNext wsX4_at := goodIn_r _ [13, 14, 23] (by decide +kernel) (by decide +kernel)
set_option maxRecDepth 20000 in
theorem gX7_readNext_X4_at : GoodIn wsX7_readNext (wsV RX7 37 RX4 yX4_at wsX4_at) := goodIn_app (goodIn_of _ (by decide +kernel)) ggX7_readNext_X4_at
set_option maxRecDepth 20000 in
theorem ggX7_readNext_X7_sortOf : GoodIn wsX7_readNext wsX7_sortOf := goodIn_r _ [18] (by decide +kernel) (by decide +kernel)
set_option maxRecDepth 20000 in
theorem gX7_readNext_X7_sortOf : GoodIn wsX7_readNext (va_wsS RX7 41 yX7_sortOf wsX7_sortOf) := goodIn_app (goodIn_of _ (by decide +kernel)) ggX7_readNext_X7_sortOf
set_option maxRecDepth 20000 in
theorem ggX7_isAt_J0_length_8abf5 : GoodIn wsX7_isAt wsJ0_length_8abf5 := goodIn_r _ [8, 9, 10, 11, 12, 7, 13, 14, 15] (by decide +kernel) (by decide +kernel)
set_option maxRecDepth 20000 in
theorem gX7_isAt_J0_length_8abf5 : GoodIn wsX7_isAt (wsV RX7 50 RJ0 yJ0_length_8abf5 wsJ0_length_8abf5) := goodIn_app (goodIn_of _ (by decide +kernel)) ggX7_isAt_J0_length_8abf5
set_option maxRecDepth 20000 in
theorem ggX7_isAt_X4_at : GoodIn wsX7_isAt wsX4_at := goodIn_r _ [20, 21, 63] (by decide +kernel) (by decide +kernel)
set_option maxRecDepth 20000 in
theorem gX7_isAt_X4_at : GoodIn wsX7_isAt (wsV RX7 37 RX4 yX4_at wsX4_at) := goodIn_app (goodIn_of _ (by decide +kernel)) ggX7_isAt_X4_at
set_option maxRecDepth 20000 in
theorem ggX7_isAt_J0_charAt_5068e : GoodIn wsX7_isAt wsJ0_charAt_5068e := goodIn_r _ [25, 9, 26, 27, 28, 7, 29, 14, 15, 30, 31, 32, 33, 34, 35, 36, 37, 38, 39, 40, 41, 42, 43, 44, 45, 46, 47, 48, 49, 50, 51, 52, 53, 54, 55, 56, 57, 58] (by decide +kernel) (by decide +kernel)
set_option maxRecDepth 20000 in
theorem gX7_isAt_J0_charAt_5068e : GoodIn wsX7_isAt (wsV RX7 55 RJ0 yJ0_charAt_5068e wsJ0_charAt_5068e) := goodIn_app (goodIn_of _ (by decide +kernel)) ggX7_isAt_J0_charAt_5068e
set_option maxRecDepth 20000 in
theorem ggX7_number_X7_isAtEnd : GoodIn wsX7_number wsX7_isAtEnd := goodIn_r _ [8, 2, 9, 19, 20, 21, 22] (by decide +kernel) (by decide +kernel)
set_option maxRecDepth 20000 in
theorem gX7_number_X7_isAtEnd : GoodIn wsX7_number (wsV RX7 59 RX7 yX7_isAtEnd wsX7_isAtEnd) := goodIn_app (goodIn_of _ (by decide +kernel)) ggX7_number_X7_isAtEnd
set_option maxRecDepth 20000 in
theorem ggX7_number_X4_at : GoodIn wsX7_number wsX4_at := goodIn_r _ [14, 15, 23] (by decide +kernel) (by decide +kernel)
set_option maxRecDepth 20000 in
theorem gX7_number_X4_at : GoodIn wsX7_number (wsV RX7 37 RX4 yX4_at wsX4_at) := goodIn_app (goodIn_of _ (by decide +kernel)) ggX7_number_X4_at
set_option maxRecDepth 20000 in
theorem ggX7_number_X7_sortOf : GoodIn wsX7_number wsX7_sortOf := goodIn_r _ [18] (by decide +kernel) (by decide +kernel)
set_option maxRecDepth 20000 in
theorem gX7_number_X7_sortOf : GoodIn wsX7_number (va_wsS RX7 41 yX7_sortOf wsX7_sortOf) := goodIn_app (goodIn_of _ (by decide +kernel)) ggX7_number_X7_sortOf
set_option maxRecDepth 20000 in
theorem ggX8_init_X7_init : GoodIn wsX8_init wsX7_init := goodIn_r _ [36, 37, 2, 3, 38, 39, 40, 41, 42, 43, 44, 45, 46, 47, 48, 49, 50, 51, 159, 119, 120, 121, 122] (by decide +kernel) (by decide +kernel)
set_option maxRecDepth 20000 in
theorem gX8_init_X7_init_n9 : GoodIn wsX8_init (wsX7_init) := ggX8_init_X7_init
set_option maxRecDepth 20000 in
theorem ggX8_init_X2_init : GoodIn wsX8_init wsX2_init := goodIn_r _ [54, 55, 2, 3, 56, 13, 14, 57, 58, 59, 60, 61, 62, 63, 39, 40, 64, 65, 66, 67, 43, 44, 45, 46, 47, 48, 49, 50, 51, 68, 69, 70, 71, 72, 73, 74, 75, 76, 77, 78, 79, 80, 81, 82, 83, 84, 85, 86, 87, 138, 139, 140, 141, 142, 143, 144, 134, 135, 136, 137, 159] (by decide +kernel) (by decide +kernel)
set_option maxRecDepth 20000 in
theorem gX8_init_X2_init : GoodIn wsX8_init (wsX2_init) := ggX8_init_X2_init
set_option maxRecDepth 20000 in
theorem ggX8_init_X3_init : GoodIn wsX8_init wsX3_init := goodIn_r _ [61, 62, 2, 3, 63, 39, 40, 64, 65, 66, 67, 43, 44, 45, 46, 47, 48, 49, 50, 51, 68, 69, 70, 14, 71, 72, 73, 74, 75, 76, 77, 78, 79, 80, 81, 82, 83, 84, 85, 86, 87, 159, 138, 139, 140, 141, 142, 143, 144] (by decide +kernel) (by decide +kernel)
set_option maxRecDepth 20000 in
theorem gX8_init_X3_init : GoodIn wsX8_init (wsX3_init) := ggX8_init_X3_init
set_option maxRecDepth 20000 in
theorem ggX8_init_X1_init : GoodIn wsX8_init wsX1_init := goodIn_r _ [90, 91, 2, 3, 92, 39, 40, 93, 94, 95, 96, 43, 44, 45, 46, 47, 48, 49, 50, 51, 159, 145, 146, 147, 148] (by decide +kernel) (by decide +kernel)
set_option maxRecDepth 20000 in
theorem gX8_init_X1_init_n43 : GoodIn wsX8_init (wsX1_init) := ggX8_init_X1_init
set_option maxRecDepth 20000 in
theorem ggX8_init_X5_init : GoodIn wsX8_init wsX5_init := goodIn_r _ [98, 99, 2, 3, 100, 39, 40, 101, 102, 103, 104, 43, 44, 45, 46, 47, 48, 49, 50, 51, 159, 149, 150, 151, 152] (by decide +kernel) (by decide +kernel)
set_option maxRecDepth 20000 in
theorem gX8_init_X5_init_n50 : GoodIn wsX8_init (wsX5_init) := ggX8_init_X5_init
set_option maxRecDepth 20000 in
theorem ggX8_init_X6_init : GoodIn wsX8_init wsX6_init := goodIn_r _ [106, 107, 2, 3, 108, 39, 40, 109, 110, 43, 44, 45, 46, 47, 48, 49, 50, 51, 159, 153, 154, 155] (by decide +kernel) (by decide +kernel)
set_option maxRecDepth 20000 in
theorem gX8_init_X6_init_n57 : GoodIn wsX8_init (wsX6_init) := ggX8_init_X6_init
set_option maxRecDepth 20000 in
theorem ggX8_init_X0_init : GoodIn wsX8_init wsX0_init := goodIn_r _ [112, 113, 2, 3, 114, 39, 40, 115, 116, 117, 118, 43, 44, 45, 46, 47, 48, 49, 50, 51, 159, 156, 157, 158] (by decide +kernel) (by decide +kernel)
set_option maxRecDepth 20000 in
theorem gX8_init_X0_init_n64 : GoodIn wsX8_init (wsX0_init) := ggX8_init_X0_init
set_option maxRecDepth 20000 in
theorem ggX8_write_X8_within : GoodIn wsX8_write wsX8_within := goodIn_r _ [5] (by decide +kernel) (by decide +kernel)
set_option maxRecDepth 20000 in
theorem gX8_write_X8_within : GoodIn wsX8_write (va_wsS RX8 69 yX8_within wsX8_within) := goodIn_app (goodIn_of _ (by decide +kernel)) ggX8_write_X8_within
set_option maxRecDepth 20000 in
theorem ggX8_write_X7_add : GoodIn wsX8_write wsX7_add := goodIn_r _ [10, 11, 12, 13, 14, 15, 16, 17, 18, 30, 31, 32, 33, 34] (by decide +kernel) (by decide +kernel)
set_option maxRecDepth 20000 in
theorem gX8_write_X7_add : GoodIn wsX8_write (wsV RX8 77 RX7 yX7_add wsX7_add) := goodIn_app (goodIn_of _ (by decide +kernel)) ggX8_write_X7_add
set_option maxRecDepth 20000 in
theorem ggX8_erase_X7_clear : GoodIn wsX8_erase wsX7_clear := goodIn_r _ [6, 7, 19, 20, 21, 22] (by decide +kernel) (by decide +kernel)
set_option maxRecDepth 20000 in
theorem gX8_erase_X7_clear : GoodIn wsX8_erase (wsV RX8 81 RX7 yX7_clear wsX7_clear) := goodIn_app (goodIn_of _ (by decide +kernel)) ggX8_erase_X7_clear
set_option maxRecDepth 20000 in
theorem ggX8_fault_X2_read : GoodIn wsX8_fault wsX2_read := goodIn_r _ [7, 8, 9, 10, 11, 12, 13, 14, 15, 16, 17, 18, 19, 20, 21, 22, 23, 24, 25, 26, 27, 28, 29, 30, 31, 32, 33, 34, 35, 36, 37, 38, 39, 40, 41, 42, 43, 44, 45, 46, 47, 48, 49, 50, 51, 52, 53, 54, 55, 56, 57, 6, 58, 59, 60, 61, 62, 63, 64, 65, 66, 67, 68, 69, 70, 71, 72, 73, 74, 75, 76, 77, 78, 79, 80, 81, 82, 83, 84, 85, 86, 87, 88, 89, 90, 91, 92, 93, 94, 95, 96, 97, 98, 99, 100, 101, 102, 103, 104, 105, 106, 107, 108, 109, 110, 111, 112, 113, 114, 115, 116, 117, 118, 119, 120, 121, 122, 123, 124, 125, 126, 127, 128, 129, 130, 131, 132, 133, 134, 135, 136, 137, 138, 139, 140, 141, 142, 143, 144, 145, 146, 147, 148, 149, 150, 151, 152, 153, 154, 155, 156, 157, 158, 159, 160, 161, 162, 163, 164, 165, 166, 167, 168, 169, 170, 182, 183, 184, 185, 186, 187, 188, 189, 190, 191, 192, 193, 194, 195, 196, 197] (by decide +kernel) (by decide +kernel)
set_option maxRecDepth 20000 in
theorem gX8_fault_X2_read : GoodIn wsX8_fault (wsV RX8 84 RX2 yX2_read wsX2_read) := goodIn_app (goodIn_of _ (by decide +kernel)) ggX8_fault_X2_read
set_option maxRecDepth 20000 in
theorem ggX8_road_X2_read : GoodIn wsX8_road wsX2_read := goodIn_r _ [12, 13, 14, 15, 16, 17, 18, 19, 20, 21, 22, 23, 24, 25, 26, 27, 28, 29, 30, 31, 32, 33, 34, 35, 36, 37, 38, 39, 40, 41, 42, 43, 44, 45, 46, 47, 48, 49, 50, 51, 52, 53, 54, 55, 56, 57, 58, 59, 60, 61, 62, 11, 63, 64, 65, 66, 67, 68, 69, 70, 71, 72, 73, 74, 75, 76, 77, 78, 79, 80, 81, 82, 83, 84, 85, 86, 87, 88, 89, 90, 91, 92, 93, 94, 95, 96, 97, 98, 99, 100, 101, 102, 103, 104, 105, 106, 107, 108, 109, 110, 111, 112, 113, 114, 115, 116, 117, 118, 119, 120, 121, 122, 123, 124, 125, 126, 127, 128, 129, 130, 131, 132, 133, 134, 135, 136, 137, 138, 139, 140, 141, 142, 143, 144, 145, 146, 147, 148, 149, 150, 151, 152, 153, 154, 155, 156, 157, 158, 159, 160, 161, 162, 163, 164, 165, 166, 167, 168, 169, 170, 171, 172, 173, 174, 175, 192, 193, 194, 195, 204, 205, 206, 207, 208, 209, 210, 211, 212, 213, 214, 215] (by decide +kernel) (by decide +kernel)
set_option maxRecDepth 20000 in
theorem gX8_road_X2_read : GoodIn wsX8_road (wsV RX8 84 RX2 yX2_read wsX2_read) := goodIn_app (goodIn_of _ (by decide +kernel)) ggX8_road_X2_read
set_option maxRecDepth 20000 in
theorem ggX8_road_X3_take : GoodIn wsX8_road wsX3_take := goodIn_r _ [21, 22, 23, 24, 25, 26, 27, 28, 29, 30, 31, 32, 33, 34, 35, 36, 37, 38, 208, 209, 210, 211, 212, 213, 214, 215] (by decide +kernel) (by decide +kernel)
set_option maxRecDepth 20000 in
theorem gX8_road_X3_take : GoodIn wsX8_road (wsV RX8 94 RX3 yX3_take wsX3_take) := goodIn_app (goodIn_of _ (by decide +kernel)) ggX8_road_X3_take
set_option maxRecDepth 20000 in
theorem ggX8_road_X7_clear : GoodIn wsX8_road wsX7_clear := goodIn_r _ [180, 50, 204, 205, 206, 207] (by decide +kernel) (by decide +kernel)
set_option maxRecDepth 20000 in
theorem gX8_road_X7_clear : GoodIn wsX8_road (wsV RX8 81 RX7 yX7_clear wsX7_clear) := goodIn_app (goodIn_of _ (by decide +kernel)) ggX8_road_X7_clear
set_option maxRecDepth 20000 in
theorem ggX8_walker_X3_has : GoodIn wsX8_walker wsX3_has := goodIn_r _ [6, 7, 8, 9, 10, 56, 57, 58, 59, 60, 61, 62] (by decide +kernel) (by decide +kernel)
set_option maxRecDepth 20000 in
theorem gX8_walker_X3_has : GoodIn wsX8_walker (wsV RX8 107 RX3 yX3_has wsX3_has) := goodIn_app (goodIn_of _ (by decide +kernel)) ggX8_walker_X3_has
set_option maxRecDepth 20000 in
theorem ggX8_walker_X4_at : GoodIn wsX8_walker wsX4_at := goodIn_r _ [15, 16, 63] (by decide +kernel) (by decide +kernel)
set_option maxRecDepth 20000 in
theorem gX8_walker_X4_at : GoodIn wsX8_walker (wsV RX8 115 RX4 yX4_at wsX4_at) := goodIn_app (goodIn_of _ (by decide +kernel)) ggX8_walker_X4_at
set_option maxRecDepth 20000 in
theorem ggX8_walker_X3_hasWalked : GoodIn wsX8_walker wsX3_hasWalked := goodIn_r _ [20, 21, 56, 57, 58, 59, 60, 61, 62] (by decide +kernel) (by decide +kernel)
set_option maxRecDepth 20000 in
theorem gX8_walker_X3_hasWalked : GoodIn wsX8_walker (wsV RX8 124 RX3 yX3_hasWalked wsX3_hasWalked) := goodIn_app (goodIn_of _ (by decide +kernel)) ggX8_walker_X3_hasWalked
set_option maxRecDepth 20000 in
theorem ggX8_walker_X3_stonesOf : GoodIn wsX8_walker wsX3_stonesOf := goodIn_r _ [25, 26, 27, 28, 29, 30, 31, 32, 33, 5, 34, 35, 36, 37, 38, 12, 13, 14, 15, 16, 39, 40, 41, 42, 43, 56, 57, 58, 59, 60, 61, 62, 63] (by decide +kernel) (by decide +kernel)
set_option maxRecDepth 20000 in
theorem gX8_walker_X3_stonesOf : GoodIn wsX8_walker (wsV RX8 127 RX3 yX3_stonesOf wsX3_stonesOf) := goodIn_app (goodIn_of _ (by decide +kernel)) ggX8_walker_X3_stonesOf
set_option maxRecDepth 20000 in
theorem ggX8_walker_X3_allFeltBy : GoodIn wsX8_walker wsX3_allFeltBy := goodIn_r _ [34, 35, 36, 37, 38, 12, 13, 14, 15, 16, 39, 40, 41, 5, 42, 43, 56, 57, 58, 59, 60, 61, 62, 63] (by decide +kernel) (by decide +kernel)
set_option maxRecDepth 20000 in
theorem gX8_walker_X3_allFeltBy : GoodIn wsX8_walker (wsV RX8 130 RX3 yX3_allFeltBy wsX3_allFeltBy) := goodIn_app (goodIn_of _ (by decide +kernel)) ggX8_walker_X3_allFeltBy
set_option maxRecDepth 20000 in
theorem ggX8_as_X3_has : GoodIn wsX8_as wsX3_has := goodIn_r _ [6, 7, 8, 9, 10, 39, 40, 41, 42, 43, 44, 45] (by decide +kernel) (by decide +kernel)
set_option maxRecDepth 20000 in
theorem gX8_as_X3_has : GoodIn wsX8_as (wsV RX8 107 RX3 yX3_has wsX3_has) := goodIn_app (goodIn_of _ (by decide +kernel)) ggX8_as_X3_has
set_option maxRecDepth 20000 in
theorem ggX8_as_X8_within : GoodIn wsX8_as wsX8_within := goodIn_r _ [10] (by decide +kernel) (by decide +kernel)
set_option maxRecDepth 20000 in
theorem gX8_as_X8_within : GoodIn wsX8_as (va_wsS RX8 69 yX8_within wsX8_within) := goodIn_app (goodIn_of _ (by decide +kernel)) ggX8_as_X8_within
set_option maxRecDepth 20000 in
theorem ggX8_as_X4_at : GoodIn wsX8_as wsX4_at := goodIn_r _ [16, 17, 46] (by decide +kernel) (by decide +kernel)
set_option maxRecDepth 20000 in
theorem gX8_as_X4_at : GoodIn wsX8_as (wsV RX8 115 RX4 yX4_at wsX4_at) := goodIn_app (goodIn_of _ (by decide +kernel)) ggX8_as_X4_at
set_option maxRecDepth 20000 in
theorem ggX8_as_X8_canBeTakenAs : GoodIn wsX8_as wsX8_canBeTakenAs := goodIn_r _ [20] (by decide +kernel) (by decide +kernel)
set_option maxRecDepth 20000 in
theorem gX8_as_X8_canBeTakenAs : GoodIn wsX8_as (va_wsS RX8 133 yX8_canBeTakenAs wsX8_canBeTakenAs) := goodIn_app (goodIn_of _ (by decide +kernel)) ggX8_as_X8_canBeTakenAs
set_option maxRecDepth 20000 in
theorem ggX8_as_X3_felt : GoodIn wsX8_as wsX3_felt := goodIn_r _ [24, 25, 26, 27, 13, 14, 15, 16, 17, 39, 40, 41, 42, 43, 44, 45, 46] (by decide +kernel) (by decide +kernel)
set_option maxRecDepth 20000 in
theorem gX8_as_X3_felt : GoodIn wsX8_as (wsV RX8 140 RX3 yX3_felt wsX3_felt) := goodIn_app (goodIn_of _ (by decide +kernel)) ggX8_as_X3_felt
set_option maxRecDepth 20000 in
theorem ggX8_step_X8_within : GoodIn wsX8_step wsX8_within := goodIn_r _ [5] (by decide +kernel) (by decide +kernel)
set_option maxRecDepth 20000 in
theorem gX8_step_X8_within : GoodIn wsX8_step (va_wsS RX8 69 yX8_within wsX8_within) := goodIn_app (goodIn_of _ (by decide +kernel)) ggX8_step_X8_within
set_option maxRecDepth 20000 in
theorem ggX8_step_X4_at : GoodIn wsX8_step wsX4_at := goodIn_r _ [10, 11, 30] (by decide +kernel) (by decide +kernel)
set_option maxRecDepth 20000 in
theorem gX8_step_X4_at : GoodIn wsX8_step (wsV RX8 115 RX4 yX4_at wsX4_at) := goodIn_app (goodIn_of _ (by decide +kernel)) ggX8_step_X4_at
set_option maxRecDepth 20000 in
theorem ggX8_walks_X3_has : GoodIn wsX8_walks wsX3_has := goodIn_r _ [7, 8, 9, 10, 11, 52, 53, 54, 55, 56, 57, 58] (by decide +kernel) (by decide +kernel)
set_option maxRecDepth 20000 in
theorem gX8_walks_X3_has : GoodIn wsX8_walks (wsV RX8 107 RX3 yX3_has wsX3_has) := goodIn_app (goodIn_of _ (by decide +kernel)) ggX8_walks_X3_has
set_option maxRecDepth 20000 in
theorem ggX8_walks_X8_within : GoodIn wsX8_walks wsX8_within := goodIn_r _ [11] (by decide +kernel) (by decide +kernel)
set_option maxRecDepth 20000 in
theorem gX8_walks_X8_within : GoodIn wsX8_walks (va_wsS RX8 69 yX8_within wsX8_within) := goodIn_app (goodIn_of _ (by decide +kernel)) ggX8_walks_X8_within
set_option maxRecDepth 20000 in
theorem ggX8_walks_X3_hasWalked : GoodIn wsX8_walks wsX3_hasWalked := goodIn_r _ [16, 17, 52, 53, 54, 55, 56, 57, 58] (by decide +kernel) (by decide +kernel)
set_option maxRecDepth 20000 in
theorem gX8_walks_X3_hasWalked : GoodIn wsX8_walks (wsV RX8 124 RX3 yX3_hasWalked wsX3_hasWalked) := goodIn_app (goodIn_of _ (by decide +kernel)) ggX8_walks_X3_hasWalked
set_option maxRecDepth 20000 in
theorem ggX8_walks_X1_add : GoodIn wsX8_walks wsX1_add := goodIn_r _ [22, 23, 24, 25, 26, 27, 28, 29, 30, 31, 32, 33, 34, 35, 36, 59, 60, 61, 62, 63] (by decide +kernel) (by decide +kernel)
set_option maxRecDepth 20000 in
theorem gX8_walks_X1_add : GoodIn wsX8_walks (wsV RX8 147 RX1 yX1_add wsX1_add) := goodIn_app (goodIn_of _ (by decide +kernel)) ggX8_walks_X1_add
set_option maxRecDepth 20000 in
theorem ggX8_walks_X3_setWalked : GoodIn wsX8_walks wsX3_setWalked := goodIn_r _ [40, 17, 52, 53, 54, 55, 56, 57, 58] (by decide +kernel) (by decide +kernel)
set_option maxRecDepth 20000 in
theorem gX8_walks_X3_setWalked : GoodIn wsX8_walks (wsV RX8 150 RX3 yX3_setWalked wsX3_setWalked) := goodIn_app (goodIn_of _ (by decide +kernel)) ggX8_walks_X3_setWalked
set_option maxRecDepth 20000 in
theorem ggX8_flatten_X8_within : GoodIn wsX8_flatten wsX8_within := goodIn_r _ [6] (by decide +kernel) (by decide +kernel)
set_option maxRecDepth 20000 in
theorem gX8_flatten_X8_within : GoodIn wsX8_flatten (va_wsS RX8 69 yX8_within wsX8_within) := goodIn_app (goodIn_of _ (by decide +kernel)) ggX8_flatten_X8_within
set_option maxRecDepth 20000 in
theorem ggX8_flatten_X4_at : GoodIn wsX8_flatten wsX4_at := goodIn_r _ [11, 12, 49] (by decide +kernel) (by decide +kernel)
set_option maxRecDepth 20000 in
theorem gX8_flatten_X4_at : GoodIn wsX8_flatten (wsV RX8 115 RX4 yX4_at wsX4_at) := goodIn_app (goodIn_of _ (by decide +kernel)) ggX8_flatten_X4_at
set_option maxRecDepth 20000 in
theorem ggX8_flatten_X1_add : GoodIn wsX8_flatten wsX1_add := goodIn_r _ [17, 18, 19, 20, 21, 22, 23, 24, 10, 25, 12, 26, 27, 28, 29, 50, 51, 52, 53, 49] (by decide +kernel) (by decide +kernel)
set_option maxRecDepth 20000 in
theorem gX8_flatten_X1_add : GoodIn wsX8_flatten (wsV RX8 147 RX1 yX1_add wsX1_add) := goodIn_app (goodIn_of _ (by decide +kernel)) ggX8_flatten_X1_add
set_option maxRecDepth 20000 in
theorem ggX8_flatten_X4_put : GoodIn wsX8_flatten wsX4_put := goodIn_r _ [29, 12, 49] (by decide +kernel) (by decide +kernel)
set_option maxRecDepth 20000 in
theorem gX8_flatten_X4_put : GoodIn wsX8_flatten (wsV RX8 154 RX4 yX4_put wsX4_put) := goodIn_app (goodIn_of _ (by decide +kernel)) ggX8_flatten_X4_put
set_option maxRecDepth 20000 in
theorem ggX8_mile_X8_within : GoodIn wsX8_mile wsX8_within := goodIn_r _ [6] (by decide +kernel) (by decide +kernel)
set_option maxRecDepth 20000 in
theorem gX8_mile_X8_within : GoodIn wsX8_mile (va_wsS RX8 69 yX8_within wsX8_within) := goodIn_app (goodIn_of _ (by decide +kernel)) ggX8_mile_X8_within
set_option maxRecDepth 20000 in
theorem ggX8_mile_X1_add : GoodIn wsX8_mile wsX1_add := goodIn_r _ [11, 12, 13, 14, 15, 16, 17, 18, 19, 20, 21, 22, 23, 24, 25, 44, 45, 46, 47, 48] (by decide +kernel) (by decide +kernel)
set_option maxRecDepth 20000 in
theorem gX8_mile_X1_add : GoodIn wsX8_mile (wsV RX8 147 RX1 yX1_add wsX1_add) := goodIn_app (goodIn_of _ (by decide +kernel)) ggX8_mile_X1_add
set_option maxRecDepth 20000 in
theorem ggX8_undo_X1_undoLatest : GoodIn wsX8_undo wsX1_undoLatest := goodIn_r _ [7, 8, 9, 10, 11, 12, 13, 14, 15, 16, 17, 18, 19, 20, 21, 22, 23, 24, 25, 26, 27, 39, 40, 41, 42, 43, 44, 45, 46, 47, 48, 49, 50] (by decide +kernel) (by decide +kernel)
set_option maxRecDepth 20000 in
theorem gX8_undo_X1_undoLatest : GoodIn wsX8_undo (wsV RX8 160 RX1 yX1_undoLatest wsX1_undoLatest) := goodIn_app (goodIn_of _ (by decide +kernel)) ggX8_undo_X1_undoLatest
set_option maxRecDepth 20000 in
theorem ggX8_keep_X8_within : GoodIn wsX8_keep wsX8_within := goodIn_r _ [6] (by decide +kernel) (by decide +kernel)
set_option maxRecDepth 20000 in
theorem gX8_keep_X8_within : GoodIn wsX8_keep (va_wsS RX8 69 yX8_within wsX8_within) := goodIn_app (goodIn_of _ (by decide +kernel)) ggX8_keep_X8_within
set_option maxRecDepth 20000 in
theorem ggX8_keep_X8_keptAs : GoodIn wsX8_keep wsX8_keptAs := goodIn_r _ [10, 11, 12, 42, 43, 44, 45, 46, 47, 48, 49, 50, 51, 52] (by decide +kernel) (by decide +kernel)
set_option maxRecDepth 20000 in
theorem gX8_keep_X8_keptAs : GoodIn wsX8_keep (wsV RX8 163 RX8 yX8_keptAs wsX8_keptAs) := goodIn_app (goodIn_of _ (by decide +kernel)) ggX8_keep_X8_keptAs
set_option maxRecDepth 20000 in
theorem ggX8_keep_X3_take : GoodIn wsX8_keep wsX3_take := goodIn_r _ [17, 18, 19, 20, 21, 22, 23, 24, 25, 26, 27, 28, 29, 30, 31, 32, 33, 34, 53, 54, 55, 56, 57, 58, 59, 60] (by decide +kernel) (by decide +kernel)
set_option maxRecDepth 20000 in
theorem gX8_keep_X3_take : GoodIn wsX8_keep (wsV RX8 94 RX3 yX3_take wsX3_take) := goodIn_app (goodIn_of _ (by decide +kernel)) ggX8_keep_X3_take
set_option maxRecDepth 20000 in
theorem ggX8_keep_J6_bitCount_0f7a4 : GoodIn wsX8_keep wsJ6_bitCount_0f7a4 := goodIn_r _ [38, 39, 40, 41] (by decide +kernel) (by decide +kernel)
set_option maxRecDepth 20000 in
theorem gX8_keep_J6_bitCount_0f7a4 : GoodIn wsX8_keep (va_wsS RX8 170 yJ6_bitCount_0f7a4 wsJ6_bitCount_0f7a4) := goodIn_app (goodIn_of _ (by decide +kernel)) ggX8_keep_J6_bitCount_0f7a4
set_option maxRecDepth 20000 in
theorem ggX8_back_X8_within : GoodIn wsX8_back wsX8_within := goodIn_r _ [7] (by decide +kernel) (by decide +kernel)
set_option maxRecDepth 20000 in
theorem gX8_back_X8_within : GoodIn wsX8_back (va_wsS RX8 69 yX8_within wsX8_within) := goodIn_app (goodIn_of _ (by decide +kernel)) ggX8_back_X8_within
set_option maxRecDepth 20000 in
theorem ggX8_back_X8_keptAs : GoodIn wsX8_back wsX8_keptAs := goodIn_r _ [11, 12, 13, 43, 44, 45, 46, 47, 48, 49, 50, 51, 52, 53] (by decide +kernel) (by decide +kernel)
set_option maxRecDepth 20000 in
theorem gX8_back_X8_keptAs : GoodIn wsX8_back (wsV RX8 163 RX8 yX8_keptAs wsX8_keptAs) := goodIn_app (goodIn_of _ (by decide +kernel)) ggX8_back_X8_keptAs
set_option maxRecDepth 20000 in
theorem ggX8_back_X3_take : GoodIn wsX8_back wsX3_take := goodIn_r _ [18, 19, 20, 21, 22, 23, 24, 25, 26, 27, 28, 29, 30, 31, 32, 33, 34, 35, 58, 59, 60, 61, 62, 63, 64, 65] (by decide +kernel) (by decide +kernel)
set_option maxRecDepth 20000 in
theorem gX8_back_X3_take : GoodIn wsX8_back (wsV RX8 94 RX3 yX3_take wsX3_take) := goodIn_app (goodIn_of _ (by decide +kernel)) ggX8_back_X3_take
set_option maxRecDepth 20000 in
theorem ggX8_back_J6_bitCount_0f7a4 : GoodIn wsX8_back wsJ6_bitCount_0f7a4 := goodIn_r _ [39, 40, 41, 42] (by decide +kernel) (by decide +kernel)
set_option maxRecDepth 20000 in
theorem gX8_back_J6_bitCount_0f7a4 : GoodIn wsX8_back (va_wsS RX8 170 yJ6_bitCount_0f7a4 wsJ6_bitCount_0f7a4) := goodIn_app (goodIn_of _ (by decide +kernel)) ggX8_back_J6_bitCount_0f7a4
set_option maxRecDepth 20000 in
theorem ggX8_stone_X3_has : GoodIn wsX8_stone wsX3_has := goodIn_r _ [6, 7, 8, 9, 10, 46, 47, 48, 49, 50, 51, 52] (by decide +kernel) (by decide +kernel)
set_option maxRecDepth 20000 in
theorem gX8_stone_X3_has : GoodIn wsX8_stone (wsV RX8 107 RX3 yX3_has wsX3_has) := goodIn_app (goodIn_of _ (by decide +kernel)) ggX8_stone_X3_has
set_option maxRecDepth 20000 in
theorem ggX8_stone_X8_within : GoodIn wsX8_stone wsX8_within := goodIn_r _ [10] (by decide +kernel) (by decide +kernel)
set_option maxRecDepth 20000 in
theorem gX8_stone_X8_within : GoodIn wsX8_stone (va_wsS RX8 69 yX8_within wsX8_within) := goodIn_app (goodIn_of _ (by decide +kernel)) ggX8_stone_X8_within
set_option maxRecDepth 20000 in
theorem ggX8_stone_X3_stoneOf : GoodIn wsX8_stone wsX3_stoneOf := goodIn_r _ [15, 16, 17, 18, 19, 20, 21, 22, 23, 24, 25, 26, 27, 5, 28, 29, 30, 31, 32, 33, 34, 46, 47, 48, 49, 50, 51, 52, 53] (by decide +kernel) (by decide +kernel)
set_option maxRecDepth 20000 in
theorem gX8_stone_X3_stoneOf : GoodIn wsX8_stone (wsV RX8 175 RX3 yX3_stoneOf wsX3_stoneOf) := goodIn_app (goodIn_of _ (by decide +kernel)) ggX8_stone_X3_stoneOf
set_option maxRecDepth 20000 in
theorem ggX8_law_X8_within : GoodIn wsX8_law wsX8_within := goodIn_r _ [6] (by decide +kernel) (by decide +kernel)
set_option maxRecDepth 20000 in
theorem gX8_law_X8_within : GoodIn wsX8_law (va_wsS RX8 69 yX8_within wsX8_within) := goodIn_app (goodIn_of _ (by decide +kernel)) ggX8_law_X8_within
set_option maxRecDepth 20000 in
theorem ggX8_law_X6_find : GoodIn wsX8_law wsX6_find := goodIn_r _ [11, 12, 13, 14, 15, 16, 17, 18, 19, 20, 21, 22, 23, 24, 25, 26, 27, 28, 29, 30, 31, 32, 33, 34, 35, 36, 37, 38, 39, 40, 41, 42, 73, 74, 75, 76, 77, 78, 79, 80, 81, 82, 83] (by decide +kernel) (by decide +kernel)
set_option maxRecDepth 20000 in
theorem gX8_law_X6_find : GoodIn wsX8_law (wsV RX8 179 RX6 yX6_find wsX6_find) := goodIn_app (goodIn_of _ (by decide +kernel)) ggX8_law_X6_find
set_option maxRecDepth 20000 in
theorem ggX8_law_X6_numberOf : GoodIn wsX8_law wsX6_numberOf := goodIn_r _ [46, 12, 47, 48, 49, 10, 50, 14, 51, 24, 25, 26, 27, 28, 80, 81, 82, 83] (by decide +kernel) (by decide +kernel)
set_option maxRecDepth 20000 in
theorem gX8_law_X6_numberOf : GoodIn wsX8_law (wsV RX8 183 RX6 yX6_numberOf wsX6_numberOf) := goodIn_app (goodIn_of _ (by decide +kernel)) ggX8_law_X6_numberOf
set_option maxRecDepth 20000 in
theorem ggX8_law_X6_sumOf : GoodIn wsX8_law wsX6_sumOf := goodIn_r _ [55, 12, 14, 47, 48, 49, 10, 50, 51, 24, 25, 26, 27, 28, 80, 81, 82, 83] (by decide +kernel) (by decide +kernel)
set_option maxRecDepth 20000 in
theorem gX8_law_X6_sumOf : GoodIn wsX8_law (wsV RX8 186 RX6 yX6_sumOf wsX6_sumOf) := goodIn_app (goodIn_of _ (by decide +kernel)) ggX8_law_X6_sumOf
set_option maxRecDepth 20000 in
theorem ggX8_law_X8_partOf : GoodIn wsX8_law wsX8_partOf := goodIn_r _ [58, 59, 60, 5, 61] (by decide +kernel) (by decide +kernel)
set_option maxRecDepth 20000 in
theorem gX8_law_X8_partOf : GoodIn wsX8_law (va_wsS RX8 189 yX8_partOf wsX8_partOf) := goodIn_app (goodIn_of _ (by decide +kernel)) ggX8_law_X8_partOf
set_option maxRecDepth 20000 in
theorem ggX8_crossed_X8_crossesNext : GoodIn wsX8_crossed wsX8_crossesNext := goodIn_r _ [5, 6, 7, 8, 9, 10, 11, 12, 13, 14, 15, 16, 17, 18, 19, 20, 21, 22, 23, 24, 25, 26, 27, 28, 29, 30, 31, 32, 33, 34, 35, 36, 37, 38, 39, 40, 41, 42, 43, 44, 45, 46, 47, 48, 49, 50, 51, 52, 53, 54, 55, 56, 57, 58, 59, 60, 61, 62, 63, 64, 65, 66, 67, 68, 69, 70, 71, 72, 73, 74, 75, 76, 77, 78] (by decide +kernel) (by decide +kernel)
set_option maxRecDepth 20000 in
theorem gX8_crossed_X8_crossesNext : GoodIn wsX8_crossed (wsV RX8 192 RX8 yX8_crossesNext wsX8_crossesNext) := goodIn_app (goodIn_of _ (by decide +kernel)) ggX8_crossed_X8_crossesNext
set_option maxRecDepth 20000 in
theorem ggX8_books_X8_within : GoodIn wsX8_books wsX8_within := goodIn_r _ [12] (by decide +kernel) (by decide +kernel)
set_option maxRecDepth 20000 in
theorem gX8_books_X8_within : GoodIn wsX8_books (va_wsS RX8 69 yX8_within wsX8_within) := goodIn_app (goodIn_of _ (by decide +kernel)) ggX8_books_X8_within
set_option maxRecDepth 20000 in
theorem ggX8_books_X8_lawStonesBetween : GoodIn wsX8_books wsX8_lawStonesBetween := goodIn_r _ [16, 17, 1, 18, 19, 20, 21, 22, 23, 24, 25, 26, 27, 28, 29, 30, 31, 32, 33, 34, 35, 36, 37, 38, 39, 40, 41, 42, 43, 44, 45, 46, 47, 48, 49, 50, 51, 52, 53, 54, 55, 56, 57, 58, 59, 60, 61, 62, 63, 64, 65, 66, 67, 68, 69, 70, 71, 72, 73, 74, 75, 76, 77, 78, 79, 80, 81, 82, 83, 84, 85, 86, 87, 88] (by decide +kernel) (by decide +kernel)
set_option maxRecDepth 20000 in
theorem gX8_books_X8_lawStonesBetween : GoodIn wsX8_books (wsV RX8 203 RX8 yX8_lawStonesBetween wsX8_lawStonesBetween) := goodIn_app (goodIn_of _ (by decide +kernel)) ggX8_books_X8_lawStonesBetween
set_option maxRecDepth 20000 in
theorem ggX8_send_X8_within : GoodIn wsX8_send wsX8_within := goodIn_r _ [6] (by decide +kernel) (by decide +kernel)
set_option maxRecDepth 20000 in
theorem gX8_send_X8_within : GoodIn wsX8_send (va_wsS RX8 69 yX8_within wsX8_within) := goodIn_app (goodIn_of _ (by decide +kernel)) ggX8_send_X8_within
set_option maxRecDepth 20000 in
theorem ggX8_send_X6_find : GoodIn wsX8_send wsX6_find := goodIn_r _ [11, 12, 13, 14, 15, 16, 17, 18, 19, 20, 21, 22, 23, 24, 25, 26, 27, 28, 29, 30, 31, 32, 33, 34, 35, 36, 37, 38, 39, 40, 41, 42, 82, 83, 84, 85, 86, 87, 88, 89, 90, 91, 92] (by decide +kernel) (by decide +kernel)
set_option maxRecDepth 20000 in
theorem gX8_send_X6_find : GoodIn wsX8_send (wsV RX8 179 RX6 yX6_find wsX6_find) := goodIn_app (goodIn_of _ (by decide +kernel)) ggX8_send_X6_find
set_option maxRecDepth 20000 in
theorem ggX8_send_X8_fewestToSend : GoodIn wsX8_send wsX8_fewestToSend := goodIn_r _ [46, 1, 47, 48, 49, 50, 51, 52, 53, 54, 55, 56, 5, 57, 2, 58, 59, 60, 10, 61, 12, 62, 63, 64, 65, 14, 66, 24, 25, 26, 27, 28, 67, 68, 69, 70, 71, 72, 73, 74, 75, 76, 77, 78, 79, 80, 81, 82, 83, 84, 85, 86, 87, 88, 89, 90, 91, 92] (by decide +kernel) (by decide +kernel)
set_option maxRecDepth 20000 in
theorem gX8_send_X8_fewestToSend : GoodIn wsX8_send (wsV RX8 206 RX8 yX8_fewestToSend wsX8_fewestToSend) := goodIn_app (goodIn_of _ (by decide +kernel)) ggX8_send_X8_fewestToSend
set_option maxRecDepth 20000 in
theorem ggX8_turns_X8_within : GoodIn wsX8_turns wsX8_within := goodIn_r _ [7] (by decide +kernel) (by decide +kernel)
set_option maxRecDepth 20000 in
theorem gX8_turns_X8_within : GoodIn wsX8_turns (va_wsS RX8 69 yX8_within wsX8_within) := goodIn_app (goodIn_of _ (by decide +kernel)) ggX8_turns_X8_within
set_option maxRecDepth 20000 in
theorem ggX8_turns_X6_find : GoodIn wsX8_turns wsX6_find := goodIn_r _ [12, 13, 14, 15, 16, 17, 18, 19, 20, 21, 22, 23, 24, 25, 26, 27, 28, 29, 30, 31, 32, 33, 34, 35, 36, 37, 38, 39, 40, 41, 42, 43, 115, 116, 117, 118, 119, 120, 121, 122, 123, 124, 125] (by decide +kernel) (by decide +kernel)
set_option maxRecDepth 20000 in
theorem gX8_turns_X6_find : GoodIn wsX8_turns (wsV RX8 179 RX6 yX6_find wsX6_find) := goodIn_app (goodIn_of _ (by decide +kernel)) ggX8_turns_X6_find
set_option maxRecDepth 20000 in
theorem ggX8_turns_X0_play : GoodIn wsX8_turns wsX0_play := goodIn_r _ [48, 49, 50, 51, 52, 53, 54, 55, 56, 57, 58, 47, 59, 60, 61, 62, 63, 64, 65, 66, 67, 41, 42, 27, 43, 29, 68, 25, 26, 28, 69, 70, 71, 72, 73, 74, 75, 11, 76, 13, 77, 78, 79, 80, 15, 81, 82, 83, 84, 85, 122, 123, 124, 126, 127, 128, 125] (by decide +kernel) (by decide +kernel)
set_option maxRecDepth 20000 in
theorem gX8_turns_X0_play : GoodIn wsX8_turns (wsV RX8 210 RX0 yX0_play wsX0_play) := goodIn_app (goodIn_of _ (by decide +kernel)) ggX8_turns_X0_play
set_option maxRecDepth 20000 in
theorem ggX8_turns_X0_sentFrom : GoodIn wsX8_turns wsX0_sentFrom := goodIn_r _ [89, 66, 68, 25, 26, 27, 28, 29, 126, 127, 128, 125] (by decide +kernel) (by decide +kernel)
set_option maxRecDepth 20000 in
theorem gX8_turns_X0_sentFrom : GoodIn wsX8_turns (wsV RX8 214 RX0 yX0_sentFrom wsX0_sentFrom) := goodIn_app (goodIn_of _ (by decide +kernel)) ggX8_turns_X0_sentFrom
set_option maxRecDepth 20000 in
theorem ggX8_turns_X0_aboveFrom : GoodIn wsX8_turns wsX0_aboveFrom := goodIn_r _ [93, 60, 68, 25, 26, 27, 28, 29, 126, 127, 128, 125] (by decide +kernel) (by decide +kernel)
set_option maxRecDepth 20000 in
theorem gX8_turns_X0_aboveFrom : GoodIn wsX8_turns (wsV RX8 217 RX0 yX0_aboveFrom wsX0_aboveFrom) := goodIn_app (goodIn_of _ (by decide +kernel)) ggX8_turns_X0_aboveFrom
set_option maxRecDepth 20000 in
theorem ggX8_turns_X0_belowFrom : GoodIn wsX8_turns wsX0_belowFrom := goodIn_r _ [97, 61, 68, 25, 26, 27, 28, 29, 126, 127, 128, 125] (by decide +kernel) (by decide +kernel)
set_option maxRecDepth 20000 in
theorem gX8_turns_X0_belowFrom : GoodIn wsX8_turns (wsV RX8 220 RX0 yX0_belowFrom wsX0_belowFrom) := goodIn_app (goodIn_of _ (by decide +kernel)) ggX8_turns_X0_belowFrom
set_option maxRecDepth 20000 in
theorem ggX8_turns_X8_partOf : GoodIn wsX8_turns wsX8_partOf := goodIn_r _ [100, 101, 102, 6, 103] (by decide +kernel) (by decide +kernel)
set_option maxRecDepth 20000 in
theorem gX8_turns_X8_partOf : GoodIn wsX8_turns (va_wsS RX8 189 yX8_partOf wsX8_partOf) := goodIn_app (goodIn_of _ (by decide +kernel)) ggX8_turns_X8_partOf
set_option maxRecDepth 20000 in
theorem ggX8_seen_X3_has : GoodIn wsX8_seen wsX3_has := goodIn_r _ [7, 8, 9, 10, 11, 39, 40, 41, 42, 43, 44, 45] (by decide +kernel) (by decide +kernel)
set_option maxRecDepth 20000 in
theorem gX8_seen_X3_has : GoodIn wsX8_seen (wsV RX8 107 RX3 yX3_has wsX3_has) := goodIn_app (goodIn_of _ (by decide +kernel)) ggX8_seen_X3_has
set_option maxRecDepth 20000 in
theorem ggX8_seen_X8_within : GoodIn wsX8_seen wsX8_within := goodIn_r _ [11] (by decide +kernel) (by decide +kernel)
set_option maxRecDepth 20000 in
theorem gX8_seen_X8_within : GoodIn wsX8_seen (va_wsS RX8 69 yX8_within wsX8_within) := goodIn_app (goodIn_of _ (by decide +kernel)) ggX8_seen_X8_within
set_option maxRecDepth 20000 in
theorem ggX8_seen_X5_add : GoodIn wsX8_seen wsX5_add := goodIn_r _ [17, 18, 19, 20, 21, 22, 23, 24, 25, 26, 27, 46, 47, 48, 49, 50] (by decide +kernel) (by decide +kernel)
set_option maxRecDepth 20000 in
theorem gX8_seen_X5_add : GoodIn wsX8_seen (wsV RX8 223 RX5 yX5_add wsX5_add) := goodIn_app (goodIn_of _ (by decide +kernel)) ggX8_seen_X5_add
set_option maxRecDepth 20000 in
theorem ggX8_what_X3_has : GoodIn wsX8_what wsX3_has := goodIn_r _ [7, 8, 9, 10, 11, 53, 54, 55, 56, 57, 58, 59] (by decide +kernel) (by decide +kernel)
set_option maxRecDepth 20000 in
theorem gX8_what_X3_has : GoodIn wsX8_what (wsV RX8 107 RX3 yX3_has wsX3_has) := goodIn_app (goodIn_of _ (by decide +kernel)) ggX8_what_X3_has
set_option maxRecDepth 20000 in
theorem ggX8_what_X5_fitKind : GoodIn wsX8_what wsX5_fitKind := goodIn_r _ [16, 17, 18, 19, 20, 21, 22, 23, 24, 25, 26, 27, 15, 28, 29, 30, 31, 32, 33, 6, 34, 35, 36, 37, 38, 39, 40, 41, 60, 61, 62, 63, 53, 54, 55, 56, 57, 58, 59, 64] (by decide +kernel) (by decide +kernel)
set_option maxRecDepth 20000 in
theorem gX8_what_X5_fitKind : GoodIn wsX8_what (wsV RX8 224 RX5 yX5_fitKind wsX5_fitKind) := goodIn_app (goodIn_of _ (by decide +kernel)) ggX8_what_X5_fitKind
set_option maxRecDepth 20000 in
theorem ggX8_miles_X8_within : GoodIn wsX8_miles wsX8_within := goodIn_r _ [6] (by decide +kernel) (by decide +kernel)
set_option maxRecDepth 20000 in
theorem gX8_miles_X8_within : GoodIn wsX8_miles (va_wsS RX8 69 yX8_within wsX8_within) := goodIn_app (goodIn_of _ (by decide +kernel)) ggX8_miles_X8_within
set_option maxRecDepth 20000 in
theorem ggX8_miles_X5_fitMile : GoodIn wsX8_miles wsX5_fitMile := goodIn_r _ [11, 12, 13, 14, 15, 16, 17, 18, 19, 20, 21, 22, 10, 23, 24, 25, 26, 27, 28, 29, 30, 31, 32, 33, 34, 35, 36, 37, 49, 50, 51, 52, 53, 54, 55, 56, 57, 58, 59, 60] (by decide +kernel) (by decide +kernel)
set_option maxRecDepth 20000 in
theorem gX8_miles_X5_fitMile : GoodIn wsX8_miles (wsV RX8 228 RX5 yX5_fitMile wsX5_fitMile) := goodIn_app (goodIn_of _ (by decide +kernel)) ggX8_miles_X5_fitMile
set_option maxRecDepth 20000 in
theorem ggX8_cider_X8_within : GoodIn wsX8_cider wsX8_within := goodIn_r _ [6] (by decide +kernel) (by decide +kernel)
set_option maxRecDepth 20000 in
theorem gX8_cider_X8_within : GoodIn wsX8_cider (va_wsS RX8 69 yX8_within wsX8_within) := goodIn_app (goodIn_of _ (by decide +kernel)) ggX8_cider_X8_within
set_option maxRecDepth 20000 in
theorem ggX8_cider_X6_find : GoodIn wsX8_cider wsX6_find := goodIn_r _ [11, 12, 13, 14, 15, 16, 17, 18, 19, 20, 21, 22, 23, 24, 25, 26, 27, 28, 29, 30, 31, 32, 33, 34, 35, 36, 37, 38, 39, 40, 41, 42, 91, 92, 93, 94, 95, 96, 97, 98, 99, 100, 101] (by decide +kernel) (by decide +kernel)
set_option maxRecDepth 20000 in
theorem gX8_cider_X6_find : GoodIn wsX8_cider (wsV RX8 179 RX6 yX6_find wsX6_find) := goodIn_app (goodIn_of _ (by decide +kernel)) ggX8_cider_X6_find
set_option maxRecDepth 20000 in
theorem ggX8_cider_X8_waysNotShortOf : GoodIn wsX8_cider wsX8_waysNotShortOf := goodIn_r _ [46, 1, 2, 47, 48, 49, 10, 50, 12, 51, 52, 53, 54, 14, 55, 24, 25, 26, 27, 28, 56, 57, 58, 5, 59, 60, 61, 62, 63, 64, 65, 66, 67, 68, 69, 70, 71, 72, 73, 80, 81, 82, 83, 84, 85, 86, 87, 88, 89, 90, 91, 92, 93, 94, 95, 96, 97, 98, 99, 100, 101] (by decide +kernel) (by decide +kernel)
set_option maxRecDepth 20000 in
theorem gX8_cider_X8_waysNotShortOf : GoodIn wsX8_cider (wsV RX8 232 RX8 yX8_waysNotShortOf wsX8_waysNotShortOf) := goodIn_app (goodIn_of _ (by decide +kernel)) ggX8_cider_X8_waysNotShortOf
set_option maxRecDepth 20000 in
theorem ggX8_cider_X8_power : GoodIn wsX8_cider wsX8_power := goodIn_r _ [73] (by decide +kernel) (by decide +kernel)
set_option maxRecDepth 20000 in
theorem gX8_cider_X8_power : GoodIn wsX8_cider (va_wsS RX8 238 yX8_power wsX8_power) := goodIn_app (goodIn_of _ (by decide +kernel)) ggX8_cider_X8_power
set_option maxRecDepth 20000 in
theorem ggX8_cider_X8_partOf : GoodIn wsX8_cider wsX8_partOf := goodIn_r _ [76, 77, 78, 5, 79] (by decide +kernel) (by decide +kernel)
set_option maxRecDepth 20000 in
theorem gX8_cider_X8_partOf : GoodIn wsX8_cider (va_wsS RX8 189 yX8_partOf wsX8_partOf) := goodIn_app (goodIn_of _ (by decide +kernel)) ggX8_cider_X8_partOf
set_option maxRecDepth 20000 in
theorem ggX8_count_X3_allHard : GoodIn wsX8_count wsX3_allHard := goodIn_r _ [9, 10, 11, 12, 13, 14, 15, 16, 17, 75, 76, 77, 78, 79, 80, 81, 94] (by decide +kernel) (by decide +kernel)
set_option maxRecDepth 20000 in
theorem gX8_count_X3_allHard : GoodIn wsX8_count (wsV RX8 241 RX3 yX3_allHard wsX3_allHard) := goodIn_app (goodIn_of _ (by decide +kernel)) ggX8_count_X3_allHard
set_option maxRecDepth 20000 in
theorem ggX8_count_X8_lawStonesBetween : GoodIn wsX8_count wsX8_lawStonesBetween := goodIn_r _ [22, 23, 1, 24, 25, 26, 27, 28, 29, 30, 31, 32, 33, 34, 8, 35, 36, 37, 38, 12, 13, 14, 15, 16, 17, 39, 40, 41, 42, 10, 43, 44, 45, 46, 11, 47, 48, 49, 50, 51, 52, 53, 54, 55, 56, 57, 58, 59, 60, 61, 62, 63, 64, 65, 66, 67, 68, 69, 70, 71, 72, 73, 74, 75, 76, 77, 78, 79, 80, 81, 95, 96, 97, 94] (by decide +kernel) (by decide +kernel)
set_option maxRecDepth 20000 in
theorem gX8_count_X8_lawStonesBetween : GoodIn wsX8_count (wsV RX8 203 RX8 yX8_lawStonesBetween wsX8_lawStonesBetween) := goodIn_app (goodIn_of _ (by decide +kernel)) ggX8_count_X8_lawStonesBetween
set_option maxRecDepth 20000 in
theorem ggX8_crossesNext_X6_find : GoodIn wsX8_crossesNext wsX6_find := goodIn_r _ [7, 8, 9, 10, 11, 12, 13, 14, 15, 16, 17, 18, 19, 20, 21, 22, 23, 24, 25, 26, 27, 28, 29, 30, 31, 32, 33, 34, 35, 36, 37, 38, 63, 64, 65, 66, 67, 68, 69, 70, 71, 72, 73] (by decide +kernel) (by decide +kernel)
set_option maxRecDepth 20000 in
theorem gX8_crossesNext_X6_find : GoodIn wsX8_crossesNext (wsV RX8 179 RX6 yX6_find wsX6_find) := goodIn_app (goodIn_of _ (by decide +kernel)) ggX8_crossesNext_X6_find
set_option maxRecDepth 20000 in
theorem ggX8_crossesNext_X6_sumOf : GoodIn wsX8_crossesNext wsX6_sumOf := goodIn_r _ [42, 8, 10, 43, 44, 45, 6, 46, 47, 20, 21, 22, 23, 24, 70, 71, 72, 73] (by decide +kernel) (by decide +kernel)
set_option maxRecDepth 20000 in
theorem gX8_crossesNext_X6_sumOf : GoodIn wsX8_crossesNext (wsV RX8 186 RX6 yX6_sumOf wsX6_sumOf) := goodIn_app (goodIn_of _ (by decide +kernel)) ggX8_crossesNext_X6_sumOf
set_option maxRecDepth 20000 in
theorem ggX8_crossesNext_X6_numberOf : GoodIn wsX8_crossesNext wsX6_numberOf := goodIn_r _ [51, 8, 43, 44, 45, 6, 46, 10, 47, 20, 21, 22, 23, 24, 70, 71, 72, 73] (by decide +kernel) (by decide +kernel)
set_option maxRecDepth 20000 in
theorem gX8_crossesNext_X6_numberOf : GoodIn wsX8_crossesNext (wsV RX8 183 RX6 yX6_numberOf wsX6_numberOf) := goodIn_app (goodIn_of _ (by decide +kernel)) ggX8_crossesNext_X6_numberOf
set_option maxRecDepth 20000 in
theorem ggX8_lawStonesBetween_X6_find : GoodIn wsX8_lawStonesBetween wsX6_find := goodIn_r _ [7, 8, 9, 10, 11, 12, 13, 14, 15, 16, 17, 18, 19, 20, 21, 22, 23, 24, 25, 26, 27, 28, 29, 30, 31, 32, 33, 34, 35, 36, 37, 38, 63, 64, 65, 66, 67, 68, 69, 70, 71, 72, 73] (by decide +kernel) (by decide +kernel)
set_option maxRecDepth 20000 in
theorem gX8_lawStonesBetween_X6_find : GoodIn wsX8_lawStonesBetween (wsV RX8 179 RX6 yX6_find wsX6_find) := goodIn_app (goodIn_of _ (by decide +kernel)) ggX8_lawStonesBetween_X6_find
set_option maxRecDepth 20000 in
theorem ggX8_lawStonesBetween_X6_sumOf : GoodIn wsX8_lawStonesBetween wsX6_sumOf := goodIn_r _ [42, 8, 10, 43, 44, 45, 6, 46, 47, 20, 21, 22, 23, 24, 70, 71, 72, 73] (by decide +kernel) (by decide +kernel)
set_option maxRecDepth 20000 in
theorem gX8_lawStonesBetween_X6_sumOf : GoodIn wsX8_lawStonesBetween (wsV RX8 186 RX6 yX6_sumOf wsX6_sumOf) := goodIn_app (goodIn_of _ (by decide +kernel)) ggX8_lawStonesBetween_X6_sumOf
set_option maxRecDepth 20000 in
theorem ggX8_lawStonesBetween_X6_numberOf : GoodIn wsX8_lawStonesBetween wsX6_numberOf := goodIn_r _ [51, 8, 43, 44, 45, 6, 46, 10, 47, 20, 21, 22, 23, 24, 70, 71, 72, 73] (by decide +kernel) (by decide +kernel)
set_option maxRecDepth 20000 in
theorem gX8_lawStonesBetween_X6_numberOf : GoodIn wsX8_lawStonesBetween (wsV RX8 183 RX6 yX6_numberOf wsX6_numberOf) := goodIn_app (goodIn_of _ (by decide +kernel)) ggX8_lawStonesBetween_X6_numberOf
set_option maxRecDepth 20000 in
theorem ggX8_fewestToSend_J6_bitCount_0f7a4 : GoodIn wsX8_fewestToSend wsJ6_bitCount_0f7a4 := goodIn_r _ [5, 6, 7, 8] (by decide +kernel) (by decide +kernel)
set_option maxRecDepth 20000 in
theorem gX8_fewestToSend_J6_bitCount_0f7a4 : GoodIn wsX8_fewestToSend (va_wsS RX8 170 yJ6_bitCount_0f7a4 wsJ6_bitCount_0f7a4) := goodIn_app (goodIn_of _ (by decide +kernel)) ggX8_fewestToSend_J6_bitCount_0f7a4
set_option maxRecDepth 20000 in
theorem ggX8_fewestToSend_X8_standsAsWished : GoodIn wsX8_fewestToSend wsX8_standsAsWished := goodIn_r _ [13, 14, 15, 16, 17, 18, 19, 20, 21, 22, 23, 24, 25, 26, 27, 28, 29, 30, 31, 32, 33, 34, 35, 36, 37, 38, 39, 40, 41, 42, 43, 44, 45, 46, 54, 55, 56, 57] (by decide +kernel) (by decide +kernel)
set_option maxRecDepth 20000 in
theorem gX8_fewestToSend_X8_standsAsWished : GoodIn wsX8_fewestToSend (wsV RX8 245 RX8 yX8_standsAsWished wsX8_standsAsWished) := goodIn_app (goodIn_of _ (by decide +kernel)) ggX8_fewestToSend_X8_standsAsWished
set_option maxRecDepth 20000 in
theorem ggX8_standsAsWished_X6_numberOf : GoodIn wsX8_standsAsWished wsX6_numberOf := goodIn_r _ [6, 7, 8, 9, 10, 5, 11, 12, 13, 14, 15, 16, 17, 18, 34, 35, 36, 37] (by decide +kernel) (by decide +kernel)
set_option maxRecDepth 20000 in
theorem gX8_standsAsWished_X6_numberOf : GoodIn wsX8_standsAsWished (wsV RX8 183 RX6 yX6_numberOf wsX6_numberOf) := goodIn_app (goodIn_of _ (by decide +kernel)) ggX8_standsAsWished_X6_numberOf
set_option maxRecDepth 20000 in
theorem ggX8_standsAsWished_X6_sumOf : GoodIn wsX8_standsAsWished wsX6_sumOf := goodIn_r _ [22, 7, 12, 8, 9, 10, 5, 11, 13, 14, 15, 16, 17, 18, 34, 35, 36, 37] (by decide +kernel) (by decide +kernel)
set_option maxRecDepth 20000 in
theorem gX8_standsAsWished_X6_sumOf : GoodIn wsX8_standsAsWished (wsV RX8 186 RX6 yX6_sumOf wsX6_sumOf) := goodIn_app (goodIn_of _ (by decide +kernel)) ggX8_standsAsWished_X6_sumOf
set_option maxRecDepth 20000 in
theorem ggX8_waysNotShortOf_X6_numberOf : GoodIn wsX8_waysNotShortOf wsX6_numberOf := goodIn_r _ [7, 8, 9, 10, 11, 6, 12, 13, 14, 15, 16, 17, 18, 19, 57, 58, 59, 60] (by decide +kernel) (by decide +kernel)
set_option maxRecDepth 20000 in
theorem gX8_waysNotShortOf_X6_numberOf : GoodIn wsX8_waysNotShortOf (wsV RX8 183 RX6 yX6_numberOf wsX6_numberOf) := goodIn_app (goodIn_of _ (by decide +kernel)) ggX8_waysNotShortOf_X6_numberOf
set_option maxRecDepth 20000 in
theorem ggX8_waysNotShortOf_X8_standsAsWished : GoodIn wsX8_waysNotShortOf wsX8_standsAsWished := goodIn_r _ [24, 2, 3, 4, 5, 6, 7, 8, 9, 10, 11, 12, 13, 14, 15, 16, 17, 18, 19, 25, 26, 27, 28, 39, 40, 41, 42, 43, 44, 45, 46, 47, 48, 49, 57, 58, 59, 60] (by decide +kernel) (by decide +kernel)
set_option maxRecDepth 20000 in
theorem gX8_waysNotShortOf_X8_standsAsWished : GoodIn wsX8_waysNotShortOf (wsV RX8 245 RX8 yX8_standsAsWished wsX8_standsAsWished) := goodIn_app (goodIn_of _ (by decide +kernel)) ggX8_waysNotShortOf_X8_standsAsWished
set_option maxRecDepth 20000 in
theorem ggX8_waysNotShortOf_J6_bitCount_0f7a4 : GoodIn wsX8_waysNotShortOf wsJ6_bitCount_0f7a4 := goodIn_r _ [32, 33, 34, 35] (by decide +kernel) (by decide +kernel)
set_option maxRecDepth 20000 in
theorem gX8_waysNotShortOf_J6_bitCount_0f7a4 : GoodIn wsX8_waysNotShortOf (va_wsS RX8 170 yJ6_bitCount_0f7a4 wsJ6_bitCount_0f7a4) := goodIn_app (goodIn_of _ (by decide +kernel)) ggX8_waysNotShortOf_J6_bitCount_0f7a4
set_option maxRecDepth 20000 in
theorem ggX8_waysNotShortOf_X8_power : GoodIn wsX8_waysNotShortOf wsX8_power := goodIn_r _ [38] (by decide +kernel) (by decide +kernel)
set_option maxRecDepth 20000 in
theorem gX8_waysNotShortOf_X8_power : GoodIn wsX8_waysNotShortOf (va_wsS RX8 238 yX8_power wsX8_power) := goodIn_app (goodIn_of _ (by decide +kernel)) ggX8_waysNotShortOf_X8_power
set_option maxRecDepth 20000 in
theorem ggX8_partOf_X8_commonDivisor : GoodIn wsX8_partOf wsX8_commonDivisor := goodIn_r _ [4] (by decide +kernel) (by decide +kernel)
set_option maxRecDepth 20000 in
theorem gX8_partOf_X8_commonDivisor : GoodIn wsX8_partOf (va_wsS RX8 249 yX8_commonDivisor wsX8_commonDivisor) := goodIn_app (goodIn_of _ (by decide +kernel)) ggX8_partOf_X8_commonDivisor
set_option maxRecDepth 20000 in
theorem ggX9_init_X9_layRoad : GoodIn wsX9_init wsX9_layRoad := goodIn_r _ [20] (by decide +kernel) (by decide +kernel)
set_option maxRecDepth 20000 in
theorem gX9_init_X9_layRoad : GoodIn wsX9_init (va_wsS RX9 44 yX9_layRoad wsX9_layRoad) := goodIn_app (goodIn_of _ (by decide +kernel)) ggX9_init_X9_layRoad
set_option maxRecDepth 20000 in
theorem ggX9_isWalker_X9_in : GoodIn wsX9_isWalker wsX9_in := goodIn_r _ [5] (by decide +kernel) (by decide +kernel)
set_option maxRecDepth 20000 in
theorem gX9_isWalker_X9_in : GoodIn wsX9_isWalker (va_wsS RX9 52 yX9_in wsX9_in) := goodIn_app (goodIn_of _ (by decide +kernel)) ggX9_isWalker_X9_in
set_option maxRecDepth 20000 in
theorem ggX9_write_X9_in : GoodIn wsX9_write wsX9_in := goodIn_r _ [8] (by decide +kernel) (by decide +kernel)
set_option maxRecDepth 20000 in
theorem gX9_write_X9_in : GoodIn wsX9_write (va_wsS RX9 52 yX9_in wsX9_in) := goodIn_app (goodIn_of _ (by decide +kernel)) ggX9_write_X9_in
set_option maxRecDepth 20000 in
theorem ggX9_isSmall_X9_in : GoodIn wsX9_isSmall wsX9_in := goodIn_r _ [6] (by decide +kernel) (by decide +kernel)
set_option maxRecDepth 20000 in
theorem gX9_isSmall_X9_in : GoodIn wsX9_isSmall (va_wsS RX9 52 yX9_in wsX9_in) := goodIn_app (goodIn_of _ (by decide +kernel)) ggX9_isSmall_X9_in
set_option maxRecDepth 20000 in
theorem ggX9_isDigit_X9_in : GoodIn wsX9_isDigit wsX9_in := goodIn_r _ [6] (by decide +kernel) (by decide +kernel)
set_option maxRecDepth 20000 in
theorem gX9_isDigit_X9_in : GoodIn wsX9_isDigit (va_wsS RX9 52 yX9_in wsX9_in) := goodIn_app (goodIn_of _ (by decide +kernel)) ggX9_isDigit_X9_in
set_option maxRecDepth 20000 in
theorem ggX9_next_X9_isSmall : GoodIn wsX9_next wsX9_isSmall := goodIn_r _ [13, 14, 15, 16, 17, 12, 18] (by decide +kernel) (by decide +kernel)
set_option maxRecDepth 20000 in
theorem gX9_next_X9_isSmall : GoodIn wsX9_next (va_wsS RX9 82 yX9_isSmall wsX9_isSmall) := goodIn_app (goodIn_of _ (by decide +kernel)) ggX9_next_X9_isSmall
set_option maxRecDepth 20000 in
theorem ggX9_next_X9_isDigit : GoodIn wsX9_next wsX9_isDigit := goodIn_r _ [21, 22, 23, 16, 17, 12, 18] (by decide +kernel) (by decide +kernel)
set_option maxRecDepth 20000 in
theorem gX9_next_X9_isDigit : GoodIn wsX9_next (va_wsS RX9 88 yX9_isDigit wsX9_isDigit) := goodIn_app (goodIn_of _ (by decide +kernel)) ggX9_next_X9_isDigit
set_option maxRecDepth 20000 in
theorem ggX9_number_X9_in : GoodIn wsX9_number wsX9_in := goodIn_r _ [7] (by decide +kernel) (by decide +kernel)
set_option maxRecDepth 20000 in
theorem gX9_number_X9_in : GoodIn wsX9_number (va_wsS RX9 52 yX9_in wsX9_in) := goodIn_app (goodIn_of _ (by decide +kernel)) ggX9_number_X9_in
set_option maxRecDepth 20000 in
theorem ggX9_number_X9_bad : GoodIn wsX9_number wsX9_bad := goodIn_r _ [11, 3, 12, 13, 34, 35, 36, 37, 38, 39, 40, 41, 42, 43, 44, 45, 46, 47, 48, 49, 50, 51, 52, 53, 54, 55, 56] (by decide +kernel) (by decide +kernel)
set_option maxRecDepth 20000 in
theorem gX9_number_X9_bad : GoodIn wsX9_number (wsV RX9 102 RX9 yX9_bad wsX9_bad) := goodIn_app (goodIn_of _ (by decide +kernel)) ggX9_number_X9_bad
set_option maxRecDepth 20000 in
theorem ggX9_number_X9_next : GoodIn wsX9_number wsX9_next := goodIn_r _ [17, 18, 19, 20, 13, 2, 1, 21, 22, 23, 24, 25, 6, 26, 27, 28, 4, 5, 7, 29, 30, 31, 32, 33, 34, 35, 36, 37, 38, 39, 40, 41, 42, 43, 44, 45, 46, 47, 48, 49, 50, 51, 52, 53, 54, 55, 56] (by decide +kernel) (by decide +kernel)
set_option maxRecDepth 20000 in
theorem gX9_number_X9_next : GoodIn wsX9_number (wsV RX9 105 RX9 yX9_next wsX9_next) := goodIn_app (goodIn_of _ (by decide +kernel)) ggX9_number_X9_next
set_option maxRecDepth 20000 in
theorem ggX9_kindBy_X9_word : GoodIn wsX9_kindBy wsX9_word := goodIn_r _ [6, 7] (by decide +kernel) (by decide +kernel)
set_option maxRecDepth 20000 in
theorem gX9_kindBy_X9_word : GoodIn wsX9_kindBy (va_wsS RX9 108 yX9_word wsX9_word) := goodIn_app (goodIn_of _ (by decide +kernel)) ggX9_kindBy_X9_word
set_option maxRecDepth 20000 in
theorem ggX9_readClause_X9_kindBy : GoodIn wsX9_readClause wsX9_kindBy := goodIn_r _ [9, 3, 4, 10, 11, 8, 12, 13, 49, 50, 51, 52, 53, 54, 55, 56, 57, 58, 59, 60, 61, 62, 63, 64, 65, 66, 67, 68, 69, 70, 71] (by decide +kernel) (by decide +kernel)
set_option maxRecDepth 20000 in
theorem gX9_readClause_X9_kindBy : GoodIn wsX9_readClause (wsV RX9 112 RX9 yX9_kindBy wsX9_kindBy) := goodIn_app (goodIn_of _ (by decide +kernel)) ggX9_readClause_X9_kindBy
set_option maxRecDepth 20000 in
theorem ggX9_readClause_X9_bad : GoodIn wsX9_readClause wsX9_bad := goodIn_r _ [17, 2, 18, 19, 49, 50, 51, 52, 53, 54, 55, 56, 57, 58, 59, 60, 61, 62, 63, 64, 65, 66, 67, 68, 69, 70, 71] (by decide +kernel) (by decide +kernel)
set_option maxRecDepth 20000 in
theorem gX9_readClause_X9_bad : GoodIn wsX9_readClause (wsV RX9 102 RX9 yX9_bad wsX9_bad) := goodIn_app (goodIn_of _ (by decide +kernel)) ggX9_readClause_X9_bad
set_option maxRecDepth 20000 in
theorem ggX9_readClause_X9_next : GoodIn wsX9_readClause wsX9_next := goodIn_r _ [23, 24, 25, 26, 19, 4, 3, 13, 27, 28, 29, 30, 8, 31, 32, 33, 34, 35, 36, 37, 38, 39, 40, 41, 49, 50, 51, 52, 53, 54, 55, 56, 57, 58, 59, 60, 61, 62, 63, 64, 65, 66, 67, 68, 69, 70, 71] (by decide +kernel) (by decide +kernel)
set_option maxRecDepth 20000 in
theorem gX9_readClause_X9_next : GoodIn wsX9_readClause (wsV RX9 105 RX9 yX9_next wsX9_next) := goodIn_app (goodIn_of _ (by decide +kernel)) ggX9_readClause_X9_next
set_option maxRecDepth 20000 in
theorem ggX9_readClause_X9_number : GoodIn wsX9_readClause wsX9_number := goodIn_r _ [45, 3, 4, 2, 34, 35, 8, 36, 14, 15, 16, 17, 18, 19, 20, 21, 22, 23, 24, 25, 26, 13, 27, 28, 29, 30, 31, 32, 33, 37, 38, 39, 40, 41, 49, 50, 51, 52, 53, 54, 55, 56, 57, 58, 59, 60, 61, 62, 63, 64, 65, 66, 67, 68, 69, 70, 71] (by decide +kernel) (by decide +kernel)
set_option maxRecDepth 20000 in
theorem gX9_readClause_X9_number : GoodIn wsX9_readClause (wsV RX9 116 RX9 yX9_number wsX9_number) := goodIn_app (goodIn_of _ (by decide +kernel)) ggX9_readClause_X9_number
set_option maxRecDepth 20000 in
theorem ggX9_readClause_X9_word : GoodIn wsX9_readClause wsX9_word := goodIn_r _ [12, 13] (by decide +kernel) (by decide +kernel)
set_option maxRecDepth 20000 in
theorem gX9_readClause_X9_word : GoodIn wsX9_readClause (va_wsS RX9 108 yX9_word wsX9_word) := goodIn_app (goodIn_of _ (by decide +kernel)) ggX9_readClause_X9_word
set_option maxRecDepth 20000 in
theorem ggX9_readClause_X9_layRoad : GoodIn wsX9_readClause wsX9_layRoad := goodIn_r _ [48] (by decide +kernel) (by decide +kernel)
set_option maxRecDepth 20000 in
theorem gX9_readClause_X9_layRoad : GoodIn wsX9_readClause (va_wsS RX9 44 yX9_layRoad wsX9_layRoad) := goodIn_app (goodIn_of _ (by decide +kernel)) ggX9_readClause_X9_layRoad
set_option maxRecDepth 20000 in
theorem ggX9_read_X9_next : GoodIn wsX9_read wsX9_next := goodIn_r _ [12, 3, 13, 14, 15, 6, 5, 16, 17, 18, 19, 20, 11, 21, 22, 23, 24, 25, 26, 27, 28, 29, 30, 31, 55, 56, 57, 58, 59, 60, 61, 62, 63, 64, 65, 66, 67, 68, 69, 70, 71, 72, 73, 74, 75, 76, 77] (by decide +kernel) (by decide +kernel)
set_option maxRecDepth 20000 in
theorem gX9_read_X9_next : GoodIn wsX9_read (wsV RX9 105 RX9 yX9_next wsX9_next) := goodIn_app (goodIn_of _ (by decide +kernel)) ggX9_read_X9_next
set_option maxRecDepth 20000 in
theorem ggX9_read_X9_readClause : GoodIn wsX9_read wsX9_readClause := goodIn_r _ [35, 1, 4, 5, 6, 36, 37, 38, 11, 39, 40, 41, 42, 16, 43, 44, 45, 46, 47, 15, 8, 9, 10, 12, 3, 13, 14, 17, 18, 19, 20, 21, 22, 23, 24, 25, 26, 27, 28, 29, 30, 31, 48, 49, 50, 51, 52, 53, 54, 55, 56, 57, 58, 59, 60, 61, 62, 63, 64, 65, 66, 67, 68, 69, 70, 71, 72, 73, 74, 75, 76, 77] (by decide +kernel) (by decide +kernel)
set_option maxRecDepth 20000 in
theorem gX9_read_X9_readClause : GoodIn wsX9_read (wsV RX9 120 RX9 yX9_readClause wsX9_readClause) := goodIn_app (goodIn_of _ (by decide +kernel)) ggX9_read_X9_readClause
set_option maxRecDepth 20000 in
theorem ggX9_read_X9_bad : GoodIn wsX9_read wsX9_bad := goodIn_r _ [46, 4, 47, 15, 55, 56, 57, 58, 59, 60, 61, 62, 63, 64, 65, 66, 67, 68, 69, 70, 71, 72, 73, 74, 75, 76, 77] (by decide +kernel) (by decide +kernel)
set_option maxRecDepth 20000 in
theorem gX9_read_X9_bad : GoodIn wsX9_read (wsV RX9 102 RX9 yX9_bad wsX9_bad) := goodIn_app (goodIn_of _ (by decide +kernel)) ggX9_read_X9_bad
set_option maxRecDepth 20000 in
theorem ggX9_fault_X9_read : GoodIn wsX9_fault wsX9_read := goodIn_r _ [8, 9, 10, 11, 2, 12, 13, 14, 15, 16, 17, 7, 18, 19, 20, 21, 22, 23, 24, 25, 26, 27, 28, 29, 30, 31, 32, 33, 34, 35, 36, 37, 38, 39, 40, 41, 42, 43, 44, 45, 46, 47, 48, 49, 50, 51, 52, 3, 53, 54, 55, 56, 57, 58, 59, 60, 61, 62, 63, 64, 65, 66, 67, 68, 69, 70, 71, 72, 73, 74, 75, 76, 77, 78, 79, 80, 81, 82] (by decide +kernel) (by decide +kernel)
set_option maxRecDepth 20000 in
theorem gX9_fault_X9_read : GoodIn wsX9_fault (wsV RX9 125 RX9 yX9_read wsX9_read) := goodIn_app (goodIn_of _ (by decide +kernel)) ggX9_fault_X9_read
set_option maxRecDepth 20000 in
theorem ggX9_road_X9_read : GoodIn wsX9_road wsX9_read := goodIn_r _ [14, 4, 5, 15, 2, 16, 17, 18, 19, 20, 21, 13, 22, 6, 23, 24, 25, 26, 27, 28, 29, 30, 31, 32, 33, 34, 35, 36, 37, 38, 39, 40, 41, 42, 43, 44, 45, 46, 47, 48, 49, 50, 51, 52, 53, 54, 55, 56, 57, 58, 59, 60, 61, 62, 63, 64, 65, 66, 67, 68, 69, 70, 71, 72, 73, 74, 75, 76, 77, 78, 79, 80, 81, 82, 83, 84, 85, 86] (by decide +kernel) (by decide +kernel)
set_option maxRecDepth 20000 in
theorem gX9_road_X9_read : GoodIn wsX9_road (wsV RX9 125 RX9 yX9_read wsX9_read) := goodIn_app (goodIn_of _ (by decide +kernel)) ggX9_road_X9_read
set_option maxRecDepth 20000 in
theorem ggX9_feltInAll_X9_feltAt : GoodIn wsX9_feltInAll wsX9_feltAt := goodIn_r _ [6, 1, 7, 8, 9, 10, 11, 12, 13, 14, 15, 16, 17, 18, 19, 20, 21, 22, 23, 24, 25, 26, 27, 28, 29] (by decide +kernel) (by decide +kernel)
set_option maxRecDepth 20000 in
theorem gX9_feltInAll_X9_feltAt : GoodIn wsX9_feltInAll (wsV RX9 134 RX9 yX9_feltAt wsX9_feltAt) := goodIn_app (goodIn_of _ (by decide +kernel)) ggX9_feltInAll_X9_feltAt
set_option maxRecDepth 20000 in
theorem ggX9_stoneBy_X9_feltAt : GoodIn wsX9_stoneBy wsX9_feltAt := goodIn_r _ [6, 1, 7, 8, 9, 10, 11, 12, 13, 14, 15, 16, 17, 18, 19, 20, 21, 22, 23, 24, 25, 26, 27, 28, 29] (by decide +kernel) (by decide +kernel)
set_option maxRecDepth 20000 in
theorem gX9_stoneBy_X9_feltAt : GoodIn wsX9_stoneBy (wsV RX9 134 RX9 yX9_feltAt wsX9_feltAt) := goodIn_app (goodIn_of _ (by decide +kernel)) ggX9_stoneBy_X9_feltAt
set_option maxRecDepth 20000 in
theorem ggX9_stoneOf_X9_stoneBy : GoodIn wsX9_stoneOf wsX9_stoneBy := goodIn_r _ [6, 1, 7, 8, 9, 5, 10, 11, 12, 13, 14, 15, 16, 17, 18, 19, 20, 21, 22, 23, 24, 25, 26, 27, 28, 29, 30, 31, 32, 33] (by decide +kernel) (by decide +kernel)
set_option maxRecDepth 20000 in
theorem gX9_stoneOf_X9_stoneBy : GoodIn wsX9_stoneOf (wsV RX9 138 RX9 yX9_stoneBy wsX9_stoneBy) := goodIn_app (goodIn_of _ (by decide +kernel)) ggX9_stoneOf_X9_stoneBy
set_option maxRecDepth 20000 in
theorem ggX9_walker_X9_isWalker : GoodIn wsX9_walker wsX9_isWalker := goodIn_r _ [7, 2, 8, 9, 6, 10, 27, 28, 29, 30, 31, 32, 33, 34, 35, 36, 37, 38, 39, 40, 41, 42, 43, 44, 45, 46, 47, 48, 49] (by decide +kernel) (by decide +kernel)
set_option maxRecDepth 20000 in
theorem gX9_walker_X9_isWalker : GoodIn wsX9_walker (wsV RX9 142 RX9 yX9_isWalker wsX9_isWalker) := goodIn_app (goodIn_of _ (by decide +kernel)) ggX9_walker_X9_isWalker
set_option maxRecDepth 20000 in
theorem ggX9_walker_X9_stoneOf : GoodIn wsX9_walker wsX9_stoneOf := goodIn_r _ [14, 2, 15, 16, 17, 6, 18, 19, 20, 21, 22, 27, 28, 29, 30, 31, 32, 33, 34, 35, 36, 37, 38, 39, 40, 41, 42, 43, 44, 45, 46, 47, 48, 49] (by decide +kernel) (by decide +kernel)
set_option maxRecDepth 20000 in
theorem gX9_walker_X9_stoneOf : GoodIn wsX9_walker (wsV RX9 145 RX9 yX9_stoneOf wsX9_stoneOf) := goodIn_app (goodIn_of _ (by decide +kernel)) ggX9_walker_X9_stoneOf
set_option maxRecDepth 20000 in
theorem ggX9_walker_X9_feltInAll : GoodIn wsX9_walker wsX9_feltInAll := goodIn_r _ [26, 2, 19, 20, 21, 6, 22, 27, 28, 29, 30, 31, 32, 33, 34, 35, 36, 37, 38, 39, 40, 41, 42, 43, 44, 45, 46, 47, 48, 49] (by decide +kernel) (by decide +kernel)
set_option maxRecDepth 20000 in
theorem gX9_walker_X9_feltInAll : GoodIn wsX9_walker (wsV RX9 148 RX9 yX9_feltInAll wsX9_feltInAll) := goodIn_app (goodIn_of _ (by decide +kernel)) ggX9_walker_X9_feltInAll
set_option maxRecDepth 20000 in
theorem ggX9_as_X9_isWalker : GoodIn wsX9_as wsX9_isWalker := goodIn_r _ [8, 3, 9, 10, 7, 11, 16, 17, 18, 19, 20, 21, 22, 23, 24, 25, 26, 27, 28, 29, 30, 31, 32, 33, 34, 35, 36, 37, 38] (by decide +kernel) (by decide +kernel)
set_option maxRecDepth 20000 in
theorem gX9_as_X9_isWalker : GoodIn wsX9_as (wsV RX9 142 RX9 yX9_isWalker wsX9_isWalker) := goodIn_app (goodIn_of _ (by decide +kernel)) ggX9_as_X9_isWalker
set_option maxRecDepth 20000 in
theorem ggX9_as_X9_in : GoodIn wsX9_as wsX9_in := goodIn_r _ [11] (by decide +kernel) (by decide +kernel)
set_option maxRecDepth 20000 in
theorem gX9_as_X9_in : GoodIn wsX9_as (va_wsS RX9 52 yX9_in wsX9_in) := goodIn_app (goodIn_of _ (by decide +kernel)) ggX9_as_X9_in
set_option maxRecDepth 20000 in
theorem ggX9_as_X9_feltAt : GoodIn wsX9_as wsX9_feltAt := goodIn_r _ [15, 3, 16, 17, 18, 19, 20, 21, 22, 23, 24, 25, 26, 27, 28, 29, 30, 31, 32, 33, 34, 35, 36, 37, 38] (by decide +kernel) (by decide +kernel)
set_option maxRecDepth 20000 in
theorem gX9_as_X9_feltAt : GoodIn wsX9_as (wsV RX9 134 RX9 yX9_feltAt wsX9_feltAt) := goodIn_app (goodIn_of _ (by decide +kernel)) ggX9_as_X9_feltAt
set_option maxRecDepth 20000 in
theorem ggX9_step_X9_in : GoodIn wsX9_step wsX9_in := goodIn_r _ [6] (by decide +kernel) (by decide +kernel)
set_option maxRecDepth 20000 in
theorem gX9_step_X9_in : GoodIn wsX9_step (va_wsS RX9 52 yX9_in wsX9_in) := goodIn_app (goodIn_of _ (by decide +kernel)) ggX9_step_X9_in
set_option maxRecDepth 20000 in
theorem ggX9_walks_X9_isWalker : GoodIn wsX9_walks wsX9_isWalker := goodIn_r _ [7, 2, 8, 9, 6, 10, 17, 18, 19, 20, 21, 22, 23, 24, 25, 26, 27, 28, 29, 30, 31, 32, 33, 34, 35, 36, 37, 38, 39] (by decide +kernel) (by decide +kernel)
set_option maxRecDepth 20000 in
theorem gX9_walks_X9_isWalker : GoodIn wsX9_walks (wsV RX9 142 RX9 yX9_isWalker wsX9_isWalker) := goodIn_app (goodIn_of _ (by decide +kernel)) ggX9_walks_X9_isWalker
set_option maxRecDepth 20000 in
theorem ggX9_walks_X9_in : GoodIn wsX9_walks wsX9_in := goodIn_r _ [10] (by decide +kernel) (by decide +kernel)
set_option maxRecDepth 20000 in
theorem gX9_walks_X9_in : GoodIn wsX9_walks (va_wsS RX9 52 yX9_in wsX9_in) := goodIn_app (goodIn_of _ (by decide +kernel)) ggX9_walks_X9_in
set_option maxRecDepth 20000 in
theorem ggX9_walks_X9_keepAct : GoodIn wsX9_walks wsX9_keepAct := goodIn_r _ [14, 15, 16, 2, 17, 18, 19, 20, 21, 22, 23, 24, 25, 26, 27, 28, 29, 30, 31, 32, 33, 34, 35, 36, 37, 38, 39] (by decide +kernel) (by decide +kernel)
set_option maxRecDepth 20000 in
theorem gX9_walks_X9_keepAct : GoodIn wsX9_walks (wsV RX9 154 RX9 yX9_keepAct wsX9_keepAct) := goodIn_app (goodIn_of _ (by decide +kernel)) ggX9_walks_X9_keepAct
set_option maxRecDepth 20000 in
theorem ggX9_flatten_X9_in : GoodIn wsX9_flatten wsX9_in := goodIn_r _ [7] (by decide +kernel) (by decide +kernel)
set_option maxRecDepth 20000 in
theorem gX9_flatten_X9_in : GoodIn wsX9_flatten (va_wsS RX9 52 yX9_in wsX9_in) := goodIn_app (goodIn_of _ (by decide +kernel)) ggX9_flatten_X9_in
set_option maxRecDepth 20000 in
theorem ggX9_flatten_X9_keepAct : GoodIn wsX9_flatten wsX9_keepAct := goodIn_r _ [11, 12, 13, 2, 14, 15, 16, 17, 18, 19, 20, 21, 22, 23, 24, 25, 26, 27, 28, 29, 30, 31, 32, 33, 34, 35, 36] (by decide +kernel) (by decide +kernel)
set_option maxRecDepth 20000 in
theorem gX9_flatten_X9_keepAct : GoodIn wsX9_flatten (wsV RX9 154 RX9 yX9_keepAct wsX9_keepAct) := goodIn_app (goodIn_of _ (by decide +kernel)) ggX9_flatten_X9_keepAct
set_option maxRecDepth 20000 in
theorem ggX9_mile_X9_in : GoodIn wsX9_mile wsX9_in := goodIn_r _ [7] (by decide +kernel) (by decide +kernel)
set_option maxRecDepth 20000 in
theorem gX9_mile_X9_in : GoodIn wsX9_mile (va_wsS RX9 52 yX9_in wsX9_in) := goodIn_app (goodIn_of _ (by decide +kernel)) ggX9_mile_X9_in
set_option maxRecDepth 20000 in
theorem ggX9_mile_X9_keepAct : GoodIn wsX9_mile wsX9_keepAct := goodIn_r _ [11, 12, 13, 3, 14, 15, 16, 17, 18, 19, 20, 21, 22, 23, 24, 25, 26, 27, 28, 29, 30, 31, 32, 33, 34, 35, 36] (by decide +kernel) (by decide +kernel)
set_option maxRecDepth 20000 in
theorem gX9_mile_X9_keepAct : GoodIn wsX9_mile (wsV RX9 154 RX9 yX9_keepAct wsX9_keepAct) := goodIn_app (goodIn_of _ (by decide +kernel)) ggX9_mile_X9_keepAct
set_option maxRecDepth 20000 in
theorem ggX9_keep_X9_in : GoodIn wsX9_keep wsX9_in := goodIn_r _ [8] (by decide +kernel) (by decide +kernel)
set_option maxRecDepth 20000 in
theorem gX9_keep_X9_in : GoodIn wsX9_keep (va_wsS RX9 52 yX9_in wsX9_in) := goodIn_app (goodIn_of _ (by decide +kernel)) ggX9_keep_X9_in
set_option maxRecDepth 20000 in
theorem ggX9_keep_X9_bits : GoodIn wsX9_keep wsX9_bits := goodIn_r _ [11] (by decide +kernel) (by decide +kernel)
set_option maxRecDepth 20000 in
theorem gX9_keep_X9_bits : GoodIn wsX9_keep (va_wsS RX9 161 yX9_bits wsX9_bits) := goodIn_app (goodIn_of _ (by decide +kernel)) ggX9_keep_X9_bits
set_option maxRecDepth 20000 in
theorem ggX9_back_X9_in : GoodIn wsX9_back wsX9_in := goodIn_r _ [9] (by decide +kernel) (by decide +kernel)
set_option maxRecDepth 20000 in
theorem gX9_back_X9_in : GoodIn wsX9_back (va_wsS RX9 52 yX9_in wsX9_in) := goodIn_app (goodIn_of _ (by decide +kernel)) ggX9_back_X9_in
set_option maxRecDepth 20000 in
theorem ggX9_back_X9_bits : GoodIn wsX9_back wsX9_bits := goodIn_r _ [12] (by decide +kernel) (by decide +kernel)
set_option maxRecDepth 20000 in
theorem gX9_back_X9_bits : GoodIn wsX9_back (va_wsS RX9 161 yX9_bits wsX9_bits) := goodIn_app (goodIn_of _ (by decide +kernel)) ggX9_back_X9_bits
set_option maxRecDepth 20000 in
theorem ggX9_stone_X9_isWalker : GoodIn wsX9_stone wsX9_isWalker := goodIn_r _ [7, 8, 9, 10, 6, 11, 24, 25, 26, 27, 28, 29, 30, 31, 32, 33, 34, 35, 36, 37, 38, 39, 40, 41, 42, 43, 44, 45, 46] (by decide +kernel) (by decide +kernel)
set_option maxRecDepth 20000 in
theorem gX9_stone_X9_isWalker : GoodIn wsX9_stone (wsV RX9 142 RX9 yX9_isWalker wsX9_isWalker) := goodIn_app (goodIn_of _ (by decide +kernel)) ggX9_stone_X9_isWalker
set_option maxRecDepth 20000 in
theorem ggX9_stone_X9_in : GoodIn wsX9_stone wsX9_in := goodIn_r _ [11] (by decide +kernel) (by decide +kernel)
set_option maxRecDepth 20000 in
theorem gX9_stone_X9_in : GoodIn wsX9_stone (va_wsS RX9 52 yX9_in wsX9_in) := goodIn_app (goodIn_of _ (by decide +kernel)) ggX9_stone_X9_in
set_option maxRecDepth 20000 in
theorem ggX9_stone_X9_stoneOf : GoodIn wsX9_stone wsX9_stoneOf := goodIn_r _ [15, 8, 16, 17, 18, 6, 19, 20, 21, 22, 23, 24, 25, 26, 27, 28, 29, 30, 31, 32, 33, 34, 35, 36, 37, 38, 39, 40, 41, 42, 43, 44, 45, 46] (by decide +kernel) (by decide +kernel)
set_option maxRecDepth 20000 in
theorem gX9_stone_X9_stoneOf : GoodIn wsX9_stone (wsV RX9 145 RX9 yX9_stoneOf wsX9_stoneOf) := goodIn_app (goodIn_of _ (by decide +kernel)) ggX9_stone_X9_stoneOf
set_option maxRecDepth 20000 in
theorem ggX9_layMean_X9_stoneOf : GoodIn wsX9_layMean wsX9_stoneOf := goodIn_r _ [8, 3, 9, 10, 11, 7, 12, 13, 14, 15, 16, 17, 18, 19, 20, 21, 22, 23, 24, 25, 26, 27, 28, 29, 30, 31, 32, 33, 34, 35, 36, 37, 38, 39] (by decide +kernel) (by decide +kernel)
set_option maxRecDepth 20000 in
theorem gX9_layMean_X9_stoneOf : GoodIn wsX9_layMean (wsV RX9 145 RX9 yX9_stoneOf wsX9_stoneOf) := goodIn_app (goodIn_of _ (by decide +kernel)) ggX9_layMean_X9_stoneOf
set_option maxRecDepth 20000 in
theorem ggX9_layPlace_X9_layMean : GoodIn wsX9_layPlace wsX9_layMean := goodIn_r _ [8, 2, 3, 1, 9, 10, 11, 7, 12, 13, 14, 15, 16, 17, 18, 19, 20, 21, 22, 23, 24, 25, 26, 27, 28, 29, 30, 31, 32, 33, 34, 35, 36, 37, 38, 39, 40, 41, 42, 43] (by decide +kernel) (by decide +kernel)
set_option maxRecDepth 20000 in
theorem gX9_layPlace_X9_layMean : GoodIn wsX9_layPlace (wsV RX9 172 RX9 yX9_layMean wsX9_layMean) := goodIn_app (goodIn_of _ (by decide +kernel)) ggX9_layPlace_X9_layMean
set_option maxRecDepth 20000 in
theorem ggX9_law_X9_in : GoodIn wsX9_law wsX9_in := goodIn_r _ [9] (by decide +kernel) (by decide +kernel)
set_option maxRecDepth 20000 in
theorem gX9_law_X9_in : GoodIn wsX9_law (va_wsS RX9 52 yX9_in wsX9_in) := goodIn_app (goodIn_of _ (by decide +kernel)) ggX9_law_X9_in
set_option maxRecDepth 20000 in
theorem ggX9_law_X9_layMean : GoodIn wsX9_law wsX9_layMean := goodIn_r _ [13, 4, 5, 3, 14, 15, 16, 8, 17, 18, 19, 20, 21, 22, 23, 24, 25, 29, 30, 31, 32, 33, 34, 35, 36, 37, 38, 39, 40, 41, 42, 43, 44, 45, 46, 47, 48, 49, 50, 51] (by decide +kernel) (by decide +kernel)
set_option maxRecDepth 20000 in
theorem gX9_law_X9_layMean : GoodIn wsX9_law (wsV RX9 172 RX9 yX9_layMean wsX9_layMean) := goodIn_app (goodIn_of _ (by decide +kernel)) ggX9_law_X9_layMean
set_option maxRecDepth 20000 in
theorem ggX9_law_X9_common : GoodIn wsX9_law wsX9_common := goodIn_r _ [28] (by decide +kernel) (by decide +kernel)
set_option maxRecDepth 20000 in
theorem gX9_law_X9_common : GoodIn wsX9_law (va_wsS RX9 176 yX9_common wsX9_common) := goodIn_app (goodIn_of _ (by decide +kernel)) ggX9_law_X9_common
set_option maxRecDepth 20000 in
theorem ggX9_crossed_X9_layMean : GoodIn wsX9_crossed wsX9_layMean := goodIn_r _ [9, 3, 4, 2, 10, 11, 12, 8, 13, 14, 15, 16, 17, 18, 19, 20, 21, 22, 23, 24, 25, 26, 27, 28, 29, 30, 31, 32, 33, 34, 35, 36, 37, 38, 39, 40, 41, 42, 43, 44] (by decide +kernel) (by decide +kernel)
set_option maxRecDepth 20000 in
theorem gX9_crossed_X9_layMean : GoodIn wsX9_crossed (wsV RX9 172 RX9 yX9_layMean wsX9_layMean) := goodIn_app (goodIn_of _ (by decide +kernel)) ggX9_crossed_X9_layMean
set_option maxRecDepth 20000 in
theorem ggX9_books_X9_in : GoodIn wsX9_books wsX9_in := goodIn_r _ [8] (by decide +kernel) (by decide +kernel)
set_option maxRecDepth 20000 in
theorem gX9_books_X9_in : GoodIn wsX9_books (va_wsS RX9 52 yX9_in wsX9_in) := goodIn_app (goodIn_of _ (by decide +kernel)) ggX9_books_X9_in
set_option maxRecDepth 20000 in
theorem ggX9_books_X9_layMean : GoodIn wsX9_books wsX9_layMean := goodIn_r _ [12, 3, 4, 2, 13, 14, 15, 7, 16, 17, 18, 19, 20, 21, 22, 23, 24, 25, 26, 27, 28, 29, 30, 31, 32, 33, 34, 35, 36, 37, 38, 39, 40, 41, 42, 43, 44, 45, 46, 47] (by decide +kernel) (by decide +kernel)
set_option maxRecDepth 20000 in
theorem gX9_books_X9_layMean : GoodIn wsX9_books (wsV RX9 172 RX9 yX9_layMean wsX9_layMean) := goodIn_app (goodIn_of _ (by decide +kernel)) ggX9_books_X9_layMean
set_option maxRecDepth 20000 in
theorem ggX9_send_X9_in : GoodIn wsX9_send wsX9_in := goodIn_r _ [9] (by decide +kernel) (by decide +kernel)
set_option maxRecDepth 20000 in
theorem gX9_send_X9_in : GoodIn wsX9_send (va_wsS RX9 52 yX9_in wsX9_in) := goodIn_app (goodIn_of _ (by decide +kernel)) ggX9_send_X9_in
set_option maxRecDepth 20000 in
theorem ggX9_send_X9_bits : GoodIn wsX9_send wsX9_bits := goodIn_r _ [12] (by decide +kernel) (by decide +kernel)
set_option maxRecDepth 20000 in
theorem gX9_send_X9_bits : GoodIn wsX9_send (va_wsS RX9 161 yX9_bits wsX9_bits) := goodIn_app (goodIn_of _ (by decide +kernel)) ggX9_send_X9_bits
set_option maxRecDepth 20000 in
theorem ggX9_send_X9_layMean : GoodIn wsX9_send wsX9_layMean := goodIn_r _ [16, 4, 5, 3, 17, 18, 19, 8, 20, 21, 22, 23, 24, 25, 26, 27, 28, 29, 30, 31, 32, 33, 34, 35, 36, 37, 38, 39, 40, 41, 42, 43, 44, 45, 46, 47, 48, 49, 50, 51] (by decide +kernel) (by decide +kernel)
set_option maxRecDepth 20000 in
theorem gX9_send_X9_layMean : GoodIn wsX9_send (wsV RX9 172 RX9 yX9_layMean wsX9_layMean) := goodIn_app (goodIn_of _ (by decide +kernel)) ggX9_send_X9_layMean
set_option maxRecDepth 20000 in
theorem ggX9_layTurns_X9_layPlace : GoodIn wsX9_layTurns wsX9_layPlace := goodIn_r _ [11, 1, 2, 3, 12, 13, 14, 10, 15, 16, 17, 18, 19, 20, 21, 22, 23, 24, 25, 26, 27, 28, 29, 30, 31, 32, 33, 34, 35, 36, 37, 38, 39, 40, 41, 42, 43, 44, 45, 46, 47, 48, 49, 50] (by decide +kernel) (by decide +kernel)
set_option maxRecDepth 20000 in
theorem gX9_layTurns_X9_layPlace : GoodIn wsX9_layTurns (wsV RX9 180 RX9 yX9_layPlace wsX9_layPlace) := goodIn_app (goodIn_of _ (by decide +kernel)) ggX9_layTurns_X9_layPlace
set_option maxRecDepth 20000 in
theorem ggX9_turns_X9_in : GoodIn wsX9_turns wsX9_in := goodIn_r _ [11] (by decide +kernel) (by decide +kernel)
set_option maxRecDepth 20000 in
theorem gX9_turns_X9_in : GoodIn wsX9_turns (va_wsS RX9 52 yX9_in wsX9_in) := goodIn_app (goodIn_of _ (by decide +kernel)) ggX9_turns_X9_in
set_option maxRecDepth 20000 in
theorem ggX9_turns_X9_layTurns : GoodIn wsX9_turns wsX9_layTurns := goodIn_r _ [15, 4, 16, 17, 6, 7, 5, 18, 19, 20, 10, 21, 22, 23, 24, 25, 26, 27, 28, 29, 30, 31, 32, 33, 34, 35, 36, 37, 41, 42, 43, 44, 45, 46, 47, 48, 49, 50, 51, 52, 53, 54, 55, 56, 57, 58, 59, 60, 61, 62, 63] (by decide +kernel) (by decide +kernel)
set_option maxRecDepth 20000 in
theorem gX9_turns_X9_layTurns : GoodIn wsX9_turns (wsV RX9 186 RX9 yX9_layTurns wsX9_layTurns) := goodIn_app (goodIn_of _ (by decide +kernel)) ggX9_turns_X9_layTurns
set_option maxRecDepth 20000 in
theorem ggX9_turns_X9_common : GoodIn wsX9_turns wsX9_common := goodIn_r _ [40] (by decide +kernel) (by decide +kernel)
set_option maxRecDepth 20000 in
theorem gX9_turns_X9_common : GoodIn wsX9_turns (va_wsS RX9 176 yX9_common wsX9_common) := goodIn_app (goodIn_of _ (by decide +kernel)) ggX9_turns_X9_common
set_option maxRecDepth 20000 in
theorem ggX9_seen_X9_isWalker : GoodIn wsX9_seen wsX9_isWalker := goodIn_r _ [10, 3, 11, 12, 9, 13, 14, 15, 16, 17, 18, 19, 20, 21, 22, 23, 24, 25, 26, 27, 28, 29, 30, 31, 32, 33, 34, 35, 36] (by decide +kernel) (by decide +kernel)
set_option maxRecDepth 20000 in
theorem gX9_seen_X9_isWalker : GoodIn wsX9_seen (wsV RX9 142 RX9 yX9_isWalker wsX9_isWalker) := goodIn_app (goodIn_of _ (by decide +kernel)) ggX9_seen_X9_isWalker
set_option maxRecDepth 20000 in
theorem ggX9_seen_X9_in : GoodIn wsX9_seen wsX9_in := goodIn_r _ [13] (by decide +kernel) (by decide +kernel)
set_option maxRecDepth 20000 in
theorem gX9_seen_X9_in : GoodIn wsX9_seen (va_wsS RX9 52 yX9_in wsX9_in) := goodIn_app (goodIn_of _ (by decide +kernel)) ggX9_seen_X9_in
set_option maxRecDepth 20000 in
theorem ggX9_what_X9_isWalker : GoodIn wsX9_what wsX9_isWalker := goodIn_r _ [9, 4, 10, 11, 8, 12, 21, 22, 23, 24, 25, 26, 27, 28, 29, 30, 31, 32, 33, 34, 35, 36, 37, 38, 39, 40, 41, 42, 43] (by decide +kernel) (by decide +kernel)
set_option maxRecDepth 20000 in
theorem gX9_what_X9_isWalker : GoodIn wsX9_what (wsV RX9 142 RX9 yX9_isWalker wsX9_isWalker) := goodIn_app (goodIn_of _ (by decide +kernel)) ggX9_what_X9_isWalker
set_option maxRecDepth 20000 in
theorem ggX9_what_X9_stoneBy : GoodIn wsX9_what wsX9_stoneBy := goodIn_r _ [16, 4, 17, 18, 19, 8, 20, 21, 22, 23, 24, 25, 26, 27, 28, 29, 30, 31, 32, 33, 34, 35, 36, 37, 38, 39, 40, 41, 42, 43] (by decide +kernel) (by decide +kernel)
set_option maxRecDepth 20000 in
theorem gX9_what_X9_stoneBy : GoodIn wsX9_what (wsV RX9 138 RX9 yX9_stoneBy wsX9_stoneBy) := goodIn_app (goodIn_of _ (by decide +kernel)) ggX9_what_X9_stoneBy
set_option maxRecDepth 20000 in
theorem ggX9_miles_X9_in : GoodIn wsX9_miles wsX9_in := goodIn_r _ [8] (by decide +kernel) (by decide +kernel)
set_option maxRecDepth 20000 in
theorem gX9_miles_X9_in : GoodIn wsX9_miles (va_wsS RX9 52 yX9_in wsX9_in) := goodIn_app (goodIn_of _ (by decide +kernel)) ggX9_miles_X9_in
set_option maxRecDepth 20000 in
theorem ggX9_miles_X9_stoneBy : GoodIn wsX9_miles wsX9_stoneBy := goodIn_r _ [12, 4, 13, 14, 15, 7, 16, 17, 18, 19, 20, 21, 22, 23, 24, 25, 26, 27, 28, 29, 30, 31, 32, 33, 34, 35, 36, 37, 38, 39] (by decide +kernel) (by decide +kernel)
set_option maxRecDepth 20000 in
theorem gX9_miles_X9_stoneBy : GoodIn wsX9_miles (wsV RX9 138 RX9 yX9_stoneBy wsX9_stoneBy) := goodIn_app (goodIn_of _ (by decide +kernel)) ggX9_miles_X9_stoneBy
set_option maxRecDepth 20000 in
theorem ggX9_cider_X9_in : GoodIn wsX9_cider wsX9_in := goodIn_r _ [10] (by decide +kernel) (by decide +kernel)
set_option maxRecDepth 20000 in
theorem gX9_cider_X9_in : GoodIn wsX9_cider (va_wsS RX9 52 yX9_in wsX9_in) := goodIn_app (goodIn_of _ (by decide +kernel)) ggX9_cider_X9_in
set_option maxRecDepth 20000 in
theorem ggX9_cider_X9_layPlace : GoodIn wsX9_cider wsX9_layPlace := goodIn_r _ [14, 3, 5, 6, 15, 16, 17, 9, 18, 19, 20, 21, 22, 23, 24, 25, 26, 27, 28, 29, 30, 34, 35, 36, 37, 38, 39, 40, 41, 42, 43, 44, 45, 46, 47, 48, 49, 50, 51, 52, 53, 54, 55, 56] (by decide +kernel) (by decide +kernel)
set_option maxRecDepth 20000 in
theorem gX9_cider_X9_layPlace : GoodIn wsX9_cider (wsV RX9 180 RX9 yX9_layPlace wsX9_layPlace) := goodIn_app (goodIn_of _ (by decide +kernel)) ggX9_cider_X9_layPlace
set_option maxRecDepth 20000 in
theorem ggX9_cider_X9_common : GoodIn wsX9_cider wsX9_common := goodIn_r _ [33] (by decide +kernel) (by decide +kernel)
set_option maxRecDepth 20000 in
theorem gX9_cider_X9_common : GoodIn wsX9_cider (va_wsS RX9 176 yX9_common wsX9_common) := goodIn_app (goodIn_of _ (by decide +kernel)) ggX9_cider_X9_common
set_option maxRecDepth 20000 in
theorem ggX9_count_X9_layMean : GoodIn wsX9_count wsX9_layMean := goodIn_r _ [10, 11, 12, 2, 13, 14, 15, 9, 16, 17, 18, 19, 20, 21, 22, 23, 24, 25, 26, 27, 28, 29, 30, 31, 32, 33, 34, 35, 36, 37, 38, 39, 40, 41, 42, 43, 44, 45, 46, 47] (by decide +kernel) (by decide +kernel)
set_option maxRecDepth 20000 in
theorem gX9_count_X9_layMean : GoodIn wsX9_count (wsV RX9 172 RX9 yX9_layMean wsX9_layMean) := goodIn_app (goodIn_of _ (by decide +kernel)) ggX9_count_X9_layMean
set_option maxRecDepth 20000 in
theorem ggJ0_length_8abf5_J0_coder_7d493 : GoodIn wsJ0_length_8abf5 wsJ0_coder_7d493 := goodIn_r _ [6, 7, 8] (by decide +kernel) (by decide +kernel)
set_option maxRecDepth 20000 in
theorem gJ0_length_8abf5_J0_coder_7d493 : GoodIn wsJ0_length_8abf5 (wsV RJ0 335 RJ0 yJ0_coder_7d493 wsJ0_coder_7d493) := goodIn_app (goodIn_of _ (by decide +kernel)) ggJ0_length_8abf5_J0_coder_7d493
set_option maxRecDepth 20000 in
theorem ggJ0_charAt_5068e_J0_isLatin1_aae02 : GoodIn wsJ0_charAt_5068e wsJ0_isLatin1_aae02 := goodIn_r _ [6, 7, 8] (by decide +kernel) (by decide +kernel)
set_option maxRecDepth 20000 in
theorem gJ0_charAt_5068e_J0_isLatin1_aae02 : GoodIn wsJ0_charAt_5068e (wsV RJ0 492 RJ0 yJ0_isLatin1_aae02 wsJ0_isLatin1_aae02) := goodIn_app (goodIn_of _ (by decide +kernel)) ggJ0_charAt_5068e_J0_isLatin1_aae02
set_option maxRecDepth 20000 in
theorem ggJ0_charAt_5068e_J1_charAt_3b067 : GoodIn wsJ0_charAt_5068e wsJ1_charAt_3b067 := goodIn_r _ [12, 13, 14, 5, 15, 16, 17, 18, 19, 20] (by decide +kernel) (by decide +kernel)
set_option maxRecDepth 20000 in
theorem gJ0_charAt_5068e_J1_charAt_3b067 : GoodIn wsJ0_charAt_5068e (va_wsS RJ0 495 yJ1_charAt_3b067 wsJ1_charAt_3b067) := goodIn_app (goodIn_of _ (by decide +kernel)) ggJ0_charAt_5068e_J1_charAt_3b067
set_option maxRecDepth 20000 in
theorem ggJ0_charAt_5068e_J2_charAt_3b067 : GoodIn wsJ0_charAt_5068e wsJ2_charAt_3b067 := goodIn_r _ [24, 25, 26, 23, 27, 28, 29, 30, 31, 14, 5, 15, 16, 17, 18, 19, 20, 32, 33, 34, 35, 36, 37] (by decide +kernel) (by decide +kernel)
set_option maxRecDepth 20000 in
theorem gJ0_charAt_5068e_J2_charAt_3b067 : GoodIn wsJ0_charAt_5068e (va_wsS RJ0 498 yJ2_charAt_3b067 wsJ2_charAt_3b067) := goodIn_app (goodIn_of _ (by decide +kernel)) ggJ0_charAt_5068e_J2_charAt_3b067
set_option maxRecDepth 20000 in
theorem ggJ0_checkIndex_df160_J3_checkIndex_8e157 : GoodIn wsJ0_checkIndex_df160 wsJ3_checkIndex_8e157 := goodIn_r _ [5] (by decide +kernel) (by decide +kernel)
set_option maxRecDepth 20000 in
theorem gJ0_checkIndex_df160_J3_checkIndex_8e157 : GoodIn wsJ0_checkIndex_df160 (va_wsS RJ0 1059 yJ3_checkIndex_8e157 wsJ3_checkIndex_8e157) := goodIn_app (goodIn_of _ (by decide +kernel)) ggJ0_checkIndex_df160_J3_checkIndex_8e157
set_option maxRecDepth 20000 in
theorem ggJ1_charAt_3b067_J0_checkIndex_df160 : GoodIn wsJ1_charAt_3b067 wsJ0_checkIndex_df160 := goodIn_r _ [4, 5, 6, 7, 8, 9] (by decide +kernel) (by decide +kernel)
set_option maxRecDepth 20000 in
theorem gJ1_charAt_3b067_J0_checkIndex_df160 : GoodIn wsJ1_charAt_3b067 (va_wsS RJ1 9 yJ0_checkIndex_df160 wsJ0_checkIndex_df160) := goodIn_app (goodIn_of _ (by decide +kernel)) ggJ1_charAt_3b067_J0_checkIndex_df160
set_option maxRecDepth 20000 in
theorem ggJ2_getChar_3b067_J2_length_9d52b : GoodIn wsJ2_getChar_3b067 wsJ2_length_9d52b := goodIn_r _ [7] (by decide +kernel) (by decide +kernel)
set_option maxRecDepth 20000 in
theorem gJ2_getChar_3b067_J2_length_9d52b : GoodIn wsJ2_getChar_3b067 (va_wsS RJ2 48 yJ2_length_9d52b wsJ2_length_9d52b) := goodIn_app (goodIn_of _ (by decide +kernel)) ggJ2_getChar_3b067_J2_length_9d52b
set_option maxRecDepth 20000 in
theorem ggJ2_charAt_3b067_J2_checkIndex_2214a : GoodIn wsJ2_charAt_3b067 wsJ2_checkIndex_2214a := goodIn_r _ [4, 5, 6, 3, 7, 8, 9, 10, 11, 12, 13, 14, 15, 16] (by decide +kernel) (by decide +kernel)
set_option maxRecDepth 20000 in
theorem gJ2_charAt_3b067_J2_checkIndex_2214a : GoodIn wsJ2_charAt_3b067 (va_wsS RJ2 67 yJ2_checkIndex_2214a wsJ2_checkIndex_2214a) := goodIn_app (goodIn_of _ (by decide +kernel)) ggJ2_charAt_3b067_J2_checkIndex_2214a
set_option maxRecDepth 20000 in
theorem ggJ2_charAt_3b067_J2_getChar_3b067 : GoodIn wsJ2_charAt_3b067 wsJ2_getChar_3b067 := goodIn_r _ [19, 20, 21, 22, 5, 6, 3, 7] (by decide +kernel) (by decide +kernel)
set_option maxRecDepth 20000 in
theorem gJ2_charAt_3b067_J2_getChar_3b067 : GoodIn wsJ2_charAt_3b067 (va_wsS RJ2 71 yJ2_getChar_3b067 wsJ2_getChar_3b067) := goodIn_app (goodIn_of _ (by decide +kernel)) ggJ2_charAt_3b067_J2_getChar_3b067
set_option maxRecDepth 20000 in
theorem ggJ2_checkIndex_2214a_J2_length_9d52b : GoodIn wsJ2_checkIndex_2214a wsJ2_length_9d52b := goodIn_r _ [4] (by decide +kernel) (by decide +kernel)
set_option maxRecDepth 20000 in
theorem gJ2_checkIndex_2214a_J2_length_9d52b : GoodIn wsJ2_checkIndex_2214a (va_wsS RJ2 48 yJ2_length_9d52b wsJ2_length_9d52b) := goodIn_app (goodIn_of _ (by decide +kernel)) ggJ2_checkIndex_2214a_J2_length_9d52b
set_option maxRecDepth 20000 in
theorem ggJ2_checkIndex_2214a_J0_checkIndex_df160 : GoodIn wsJ2_checkIndex_2214a wsJ0_checkIndex_df160 := goodIn_r _ [8, 9, 10, 11, 12, 13] (by decide +kernel) (by decide +kernel)
set_option maxRecDepth 20000 in
theorem gJ2_checkIndex_2214a_J0_checkIndex_df160 : GoodIn wsJ2_checkIndex_2214a (va_wsS RJ2 414 yJ0_checkIndex_df160 wsJ0_checkIndex_df160) := goodIn_app (goodIn_of _ (by decide +kernel)) ggJ2_checkIndex_2214a_J0_checkIndex_df160
