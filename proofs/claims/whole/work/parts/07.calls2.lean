set_option maxRecDepth 20000 in
theorem ggX3_equalTrees_X3_isAlive : GoodIn wsX3_equalTrees wsX3_isAlive := goodIn_r _ [6, 1, 7, 8, 5, 9, 18, 19, 20, 21, 22, 23, 24, 25, 26, 27, 28, 29, 30, 31, 32, 33, 34, 35, 36, 37, 38, 39] (by decide +kernel) (by decide +kernel)
set_option maxRecDepth 20000 in
theorem gX3_equalTrees_X3_isAlive : GoodIn wsX3_equalTrees (wsV RX3 87 RX3 yX3_isAlive wsX3_isAlive) := goodIn_app (goodIn_of _ (by decide +kernel)) ggX3_equalTrees_X3_isAlive
set_option maxRecDepth 20000 in
theorem ggX3_equalTrees_X3_same : GoodIn wsX3_equalTrees wsX3_same := goodIn_r _ [13, 14, 15, 16, 17, 18, 19, 20, 21, 22, 23, 24, 25, 26, 27, 28, 29, 30, 31, 32, 33, 34, 35, 36, 37, 38, 39] (by decide +kernel) (by decide +kernel)
set_option maxRecDepth 20000 in
theorem gX3_equalTrees_X3_same : GoodIn wsX3_equalTrees (wsV RX3 91 RX3 yX3_same wsX3_same) := goodIn_app (goodIn_of _ (by decide +kernel)) ggX3_equalTrees_X3_same
set_option maxRecDepth 20000 in
theorem ggX3_nodeAt_X3_isAlive : GoodIn wsX3_nodeAt wsX3_isAlive := goodIn_r _ [7, 8, 9, 10, 6, 11, 12, 13, 14, 15, 16, 17, 18, 19, 20, 21, 22, 23, 24, 25, 26, 27, 28, 29, 30, 31, 32, 33] (by decide +kernel) (by decide +kernel)
set_option maxRecDepth 20000 in
theorem gX3_nodeAt_X3_isAlive : GoodIn wsX3_nodeAt (wsV RX3 87 RX3 yX3_isAlive wsX3_isAlive) := goodIn_app (goodIn_of _ (by decide +kernel)) ggX3_nodeAt_X3_isAlive
set_option maxRecDepth 20000 in
theorem ggX3_open_X3_isPeer : GoodIn wsX3_open wsX3_isPeer := goodIn_r _ [6] (by decide +kernel) (by decide +kernel)
set_option maxRecDepth 20000 in
theorem gX3_open_X3_isPeer : GoodIn wsX3_open (va_wsS RX3 95 yX3_isPeer wsX3_isPeer) := goodIn_app (goodIn_of _ (by decide +kernel)) ggX3_open_X3_isPeer
set_option maxRecDepth 20000 in
theorem ggX3_open_X3_hasRevision : GoodIn wsX3_open wsX3_hasRevision := goodIn_r _ [10, 11, 12, 13, 14, 5, 15, 30, 31, 32, 33, 34, 35, 36, 37, 38, 39, 40, 41, 42, 43, 44, 45, 46, 47, 48, 49, 50, 51] (by decide +kernel) (by decide +kernel)
set_option maxRecDepth 20000 in
theorem gX3_open_X3_hasRevision : GoodIn wsX3_open (wsV RX3 99 RX3 yX3_hasRevision wsX3_hasRevision) := goodIn_app (goodIn_of _ (by decide +kernel)) ggX3_open_X3_hasRevision
set_option maxRecDepth 20000 in
theorem ggX3_open_X3_copyTree : GoodIn wsX3_open wsX3_copyTree := goodIn_r _ [19, 20, 21, 22, 23, 5, 24, 25, 26, 27, 28, 29, 30, 31, 32, 33, 34, 35, 36, 37, 38, 39, 40, 41, 42, 43, 44, 45, 46, 47, 48, 49, 50, 51] (by decide +kernel) (by decide +kernel)
set_option maxRecDepth 20000 in
theorem gX3_open_X3_copyTree : GoodIn wsX3_open (wsV RX3 102 RX3 yX3_copyTree wsX3_copyTree) := goodIn_app (goodIn_of _ (by decide +kernel)) ggX3_open_X3_copyTree
set_option maxRecDepth 20000 in
theorem ggX3_add_X3_isPeer : GoodIn wsX3_add wsX3_isPeer := goodIn_r _ [14] (by decide +kernel) (by decide +kernel)
set_option maxRecDepth 20000 in
theorem gX3_add_X3_isPeer : GoodIn wsX3_add (va_wsS RX3 95 yX3_isPeer wsX3_isPeer) := goodIn_app (goodIn_of _ (by decide +kernel)) ggX3_add_X3_isPeer
set_option maxRecDepth 20000 in
theorem ggX3_add_X3_fail : GoodIn wsX3_add wsX3_fail := goodIn_r _ [18, 1, 30, 31, 32, 33, 34, 35, 36, 37, 38, 39, 40, 41, 42, 43, 44, 45, 46, 47, 48, 49, 50, 51] (by decide +kernel) (by decide +kernel)
set_option maxRecDepth 20000 in
theorem gX3_add_X3_fail : GoodIn wsX3_add (wsV RX3 106 RX3 yX3_fail wsX3_fail) := goodIn_app (goodIn_of _ (by decide +kernel)) ggX3_add_X3_fail
set_option maxRecDepth 20000 in
theorem ggX3_add_X3_isAlive : GoodIn wsX3_add wsX3_isAlive := goodIn_r _ [22, 6, 23, 24, 13, 25, 30, 31, 32, 33, 34, 35, 36, 37, 38, 39, 40, 41, 42, 43, 44, 45, 46, 47, 48, 49, 50, 51] (by decide +kernel) (by decide +kernel)
set_option maxRecDepth 20000 in
theorem gX3_add_X3_isAlive : GoodIn wsX3_add (wsV RX3 87 RX3 yX3_isAlive wsX3_isAlive) := goodIn_app (goodIn_of _ (by decide +kernel)) ggX3_add_X3_isAlive
set_option maxRecDepth 20000 in
theorem ggX3_add_X3_in : GoodIn wsX3_add wsX3_in := goodIn_r _ [25] (by decide +kernel) (by decide +kernel)
set_option maxRecDepth 20000 in
theorem gX3_add_X3_in : GoodIn wsX3_add (va_wsS RX3 79 yX3_in wsX3_in) := goodIn_app (goodIn_of _ (by decide +kernel)) ggX3_add_X3_in
set_option maxRecDepth 20000 in
theorem ggX3_add_X3_nodeAt : GoodIn wsX3_add wsX3_nodeAt := goodIn_r _ [29, 7, 8, 19, 20, 21, 13, 22, 6, 23, 24, 25, 30, 31, 32, 33, 34, 35, 36, 37, 38, 39, 40, 41, 42, 43, 44, 45, 46, 47, 48, 49, 50, 51] (by decide +kernel) (by decide +kernel)
set_option maxRecDepth 20000 in
theorem gX3_add_X3_nodeAt : GoodIn wsX3_add (wsV RX3 110 RX3 yX3_nodeAt wsX3_nodeAt) := goodIn_app (goodIn_of _ (by decide +kernel)) ggX3_add_X3_nodeAt
set_option maxRecDepth 20000 in
theorem ggX3_drop_X3_isPeer : GoodIn wsX3_drop wsX3_isPeer := goodIn_r _ [8] (by decide +kernel) (by decide +kernel)
set_option maxRecDepth 20000 in
theorem gX3_drop_X3_isPeer : GoodIn wsX3_drop (va_wsS RX3 95 yX3_isPeer wsX3_isPeer) := goodIn_app (goodIn_of _ (by decide +kernel)) ggX3_drop_X3_isPeer
set_option maxRecDepth 20000 in
theorem ggX3_drop_X3_isAlive : GoodIn wsX3_drop wsX3_isAlive := goodIn_r _ [12, 4, 13, 14, 7, 15, 16, 17, 18, 19, 20, 21, 22, 23, 24, 25, 26, 27, 28, 29, 30, 31, 32, 33, 34, 35, 36, 37] (by decide +kernel) (by decide +kernel)
set_option maxRecDepth 20000 in
theorem gX3_drop_X3_isAlive : GoodIn wsX3_drop (wsV RX3 87 RX3 yX3_isAlive wsX3_isAlive) := goodIn_app (goodIn_of _ (by decide +kernel)) ggX3_drop_X3_isAlive
set_option maxRecDepth 20000 in
theorem ggX3_move_X3_isPeer : GoodIn wsX3_move wsX3_isPeer := goodIn_r _ [9] (by decide +kernel) (by decide +kernel)
set_option maxRecDepth 20000 in
theorem gX3_move_X3_isPeer : GoodIn wsX3_move (va_wsS RX3 95 yX3_isPeer wsX3_isPeer) := goodIn_app (goodIn_of _ (by decide +kernel)) ggX3_move_X3_isPeer
set_option maxRecDepth 20000 in
theorem ggX3_move_X3_isAlive : GoodIn wsX3_move wsX3_isAlive := goodIn_r _ [13, 14, 15, 16, 8, 17, 26, 27, 28, 29, 30, 31, 32, 33, 34, 35, 36, 37, 38, 39, 40, 41, 42, 43, 44, 45, 46, 47] (by decide +kernel) (by decide +kernel)
set_option maxRecDepth 20000 in
theorem gX3_move_X3_isAlive : GoodIn wsX3_move (wsV RX3 87 RX3 yX3_isAlive wsX3_isAlive) := goodIn_app (goodIn_of _ (by decide +kernel)) ggX3_move_X3_isAlive
set_option maxRecDepth 20000 in
theorem ggX3_move_X3_in : GoodIn wsX3_move wsX3_in := goodIn_r _ [17] (by decide +kernel) (by decide +kernel)
set_option maxRecDepth 20000 in
theorem gX3_move_X3_in : GoodIn wsX3_move (va_wsS RX3 79 yX3_in wsX3_in) := goodIn_app (goodIn_of _ (by decide +kernel)) ggX3_move_X3_in
set_option maxRecDepth 20000 in
theorem ggX3_move_X3_nodeAt : GoodIn wsX3_move wsX3_nodeAt := goodIn_r _ [21, 4, 5, 10, 11, 12, 8, 13, 14, 15, 16, 17, 26, 27, 28, 29, 30, 31, 32, 33, 34, 35, 36, 37, 38, 39, 40, 41, 42, 43, 44, 45, 46, 47] (by decide +kernel) (by decide +kernel)
set_option maxRecDepth 20000 in
theorem gX3_move_X3_nodeAt : GoodIn wsX3_move (wsV RX3 110 RX3 yX3_nodeAt wsX3_nodeAt) := goodIn_app (goodIn_of _ (by decide +kernel)) ggX3_move_X3_nodeAt
set_option maxRecDepth 20000 in
theorem ggX3_move_X3_within : GoodIn wsX3_move wsX3_within := goodIn_r _ [25, 4, 26, 27, 28, 29, 30, 31, 32, 33, 34, 35, 36, 37, 38, 39, 40, 41, 42, 43, 44, 45, 46, 47] (by decide +kernel) (by decide +kernel)
set_option maxRecDepth 20000 in
theorem gX3_move_X3_within : GoodIn wsX3_move (wsV RX3 114 RX3 yX3_within wsX3_within) := goodIn_app (goodIn_of _ (by decide +kernel)) ggX3_move_X3_within
set_option maxRecDepth 20000 in
theorem ggX3_write_X3_isPeer : GoodIn wsX3_write wsX3_isPeer := goodIn_r _ [9] (by decide +kernel) (by decide +kernel)
set_option maxRecDepth 20000 in
theorem gX3_write_X3_isPeer : GoodIn wsX3_write (va_wsS RX3 95 yX3_isPeer wsX3_isPeer) := goodIn_app (goodIn_of _ (by decide +kernel)) ggX3_write_X3_isPeer
set_option maxRecDepth 20000 in
theorem ggX3_write_X3_isAlive : GoodIn wsX3_write wsX3_isAlive := goodIn_r _ [13, 14, 15, 16, 8, 17, 18, 19, 20, 21, 22, 23, 24, 25, 26, 27, 28, 29, 30, 31, 32, 33, 34, 35, 36, 37, 38, 39] (by decide +kernel) (by decide +kernel)
set_option maxRecDepth 20000 in
theorem gX3_write_X3_isAlive : GoodIn wsX3_write (wsV RX3 87 RX3 yX3_isAlive wsX3_isAlive) := goodIn_app (goodIn_of _ (by decide +kernel)) ggX3_write_X3_isAlive
set_option maxRecDepth 20000 in
theorem ggX3_commit_X3_isPeer : GoodIn wsX3_commit wsX3_isPeer := goodIn_r _ [11] (by decide +kernel) (by decide +kernel)
set_option maxRecDepth 20000 in
theorem gX3_commit_X3_isPeer : GoodIn wsX3_commit (va_wsS RX3 95 yX3_isPeer wsX3_isPeer) := goodIn_app (goodIn_of _ (by decide +kernel)) ggX3_commit_X3_isPeer
set_option maxRecDepth 20000 in
theorem ggX3_commit_X3_fail : GoodIn wsX3_commit wsX3_fail := goodIn_r _ [15, 1, 44, 45, 46, 47, 48, 49, 50, 51, 52, 53, 54, 55, 56, 57, 58, 59, 60, 61, 62, 63, 64, 65] (by decide +kernel) (by decide +kernel)
set_option maxRecDepth 20000 in
theorem gX3_commit_X3_fail : GoodIn wsX3_commit (wsV RX3 106 RX3 yX3_fail wsX3_fail) := goodIn_app (goodIn_of _ (by decide +kernel)) ggX3_commit_X3_fail
set_option maxRecDepth 20000 in
theorem ggX3_commit_X3_equalTrees : GoodIn wsX3_commit wsX3_equalTrees := goodIn_r _ [19, 20, 21, 22, 23, 10, 24, 25, 26, 27, 28, 29, 30, 31, 32, 33, 34, 35, 44, 45, 46, 47, 48, 49, 50, 51, 52, 53, 54, 55, 56, 57, 58, 59, 60, 61, 62, 63, 64, 65] (by decide +kernel) (by decide +kernel)
set_option maxRecDepth 20000 in
theorem gX3_commit_X3_equalTrees : GoodIn wsX3_commit (wsV RX3 117 RX3 yX3_equalTrees wsX3_equalTrees) := goodIn_app (goodIn_of _ (by decide +kernel)) ggX3_commit_X3_equalTrees
set_option maxRecDepth 20000 in
theorem ggX3_commit_X3_copyTree : GoodIn wsX3_commit wsX3_copyTree := goodIn_r _ [39, 20, 40, 41, 42, 10, 43, 32, 33, 34, 35, 6, 44, 45, 46, 47, 48, 49, 50, 51, 52, 53, 54, 55, 56, 57, 58, 59, 60, 61, 62, 63, 64, 65] (by decide +kernel) (by decide +kernel)
set_option maxRecDepth 20000 in
theorem gX3_commit_X3_copyTree : GoodIn wsX3_commit (wsV RX3 102 RX3 yX3_copyTree wsX3_copyTree) := goodIn_app (goodIn_of _ (by decide +kernel)) ggX3_commit_X3_copyTree
set_option maxRecDepth 20000 in
theorem ggX3_commit_X3_isAlive : GoodIn wsX3_commit wsX3_isAlive := goodIn_r _ [24, 20, 25, 26, 10, 27, 44, 45, 46, 47, 48, 49, 50, 51, 52, 53, 54, 55, 56, 57, 58, 59, 60, 61, 62, 63, 64, 65] (by decide +kernel) (by decide +kernel)
set_option maxRecDepth 20000 in
theorem gX3_commit_X3_isAlive : GoodIn wsX3_commit (wsV RX3 87 RX3 yX3_isAlive wsX3_isAlive) := goodIn_app (goodIn_of _ (by decide +kernel)) ggX3_commit_X3_isAlive
set_option maxRecDepth 20000 in
theorem ggX3_commit_X3_same : GoodIn wsX3_commit wsX3_same := goodIn_r _ [31, 32, 33, 34, 35, 44, 45, 46, 47, 48, 49, 50, 51, 52, 53, 54, 55, 56, 57, 58, 59, 60, 61, 62, 63, 64, 65] (by decide +kernel) (by decide +kernel)
set_option maxRecDepth 20000 in
theorem gX3_commit_X3_same : GoodIn wsX3_commit (wsV RX3 91 RX3 yX3_same wsX3_same) := goodIn_app (goodIn_of _ (by decide +kernel)) ggX3_commit_X3_same
set_option maxRecDepth 20000 in
theorem ggX3_decide_X3_isPeer : GoodIn wsX3_decide wsX3_isPeer := goodIn_r _ [7] (by decide +kernel) (by decide +kernel)
set_option maxRecDepth 20000 in
theorem gX3_decide_X3_isPeer : GoodIn wsX3_decide (va_wsS RX3 95 yX3_isPeer wsX3_isPeer) := goodIn_app (goodIn_of _ (by decide +kernel)) ggX3_decide_X3_isPeer
set_option maxRecDepth 20000 in
theorem ggX3_decide_X3_in : GoodIn wsX3_decide wsX3_in := goodIn_r _ [10] (by decide +kernel) (by decide +kernel)
set_option maxRecDepth 20000 in
theorem gX3_decide_X3_in : GoodIn wsX3_decide (va_wsS RX3 79 yX3_in wsX3_in) := goodIn_app (goodIn_of _ (by decide +kernel)) ggX3_decide_X3_in
set_option maxRecDepth 20000 in
theorem ggX3_bury_X3_isPeer : GoodIn wsX3_bury wsX3_isPeer := goodIn_r _ [7] (by decide +kernel) (by decide +kernel)
set_option maxRecDepth 20000 in
theorem gX3_bury_X3_isPeer : GoodIn wsX3_bury (va_wsS RX3 95 yX3_isPeer wsX3_isPeer) := goodIn_app (goodIn_of _ (by decide +kernel)) ggX3_bury_X3_isPeer
set_option maxRecDepth 20000 in
theorem ggX3_bury_X3_in : GoodIn wsX3_bury wsX3_in := goodIn_r _ [10] (by decide +kernel) (by decide +kernel)
set_option maxRecDepth 20000 in
theorem gX3_bury_X3_in : GoodIn wsX3_bury (va_wsS RX3 79 yX3_in wsX3_in) := goodIn_app (goodIn_of _ (by decide +kernel)) ggX3_bury_X3_in
set_option maxRecDepth 20000 in
theorem ggX3_itself_X3_same : GoodIn wsX3_itself wsX3_same := goodIn_r _ [6, 7, 8, 9, 10, 17, 18, 19, 20, 21, 22, 23, 24, 25, 26, 27, 28, 29, 30, 31, 32, 33, 34, 35, 36, 37, 38] (by decide +kernel) (by decide +kernel)
set_option maxRecDepth 20000 in
theorem gX3_itself_X3_same : GoodIn wsX3_itself (wsV RX3 91 RX3 yX3_same wsX3_same) := goodIn_app (goodIn_of _ (by decide +kernel)) ggX3_itself_X3_same
set_option maxRecDepth 20000 in
theorem ggX3_itself_X3_allKnown : GoodIn wsX3_itself wsX3_allKnown := goodIn_r _ [14, 15, 16, 17, 18, 19, 20, 21, 22, 23, 24, 25, 26, 27, 28, 29, 30, 31, 32, 33, 34, 35, 36, 37, 38] (by decide +kernel) (by decide +kernel)
set_option maxRecDepth 20000 in
theorem gX3_itself_X3_allKnown : GoodIn wsX3_itself (wsV RX3 122 RX3 yX3_allKnown wsX3_allKnown) := goodIn_app (goodIn_of _ (by decide +kernel)) ggX3_itself_X3_allKnown
set_option maxRecDepth 20000 in
theorem ggX3_mergeScalar_X3_itself : GoodIn wsX3_mergeScalar wsX3_itself := goodIn_r _ [8, 2, 9, 10, 11, 7, 12, 13, 14, 15, 16, 17, 18, 19, 20, 21, 22, 31, 32, 33, 34, 35, 36, 37, 38, 39, 40, 41, 42, 43, 44, 45, 46, 47, 48, 49, 50, 51, 52] (by decide +kernel) (by decide +kernel)
set_option maxRecDepth 20000 in
theorem gX3_mergeScalar_X3_itself : GoodIn wsX3_mergeScalar (wsV RX3 126 RX3 yX3_itself wsX3_itself) := goodIn_app (goodIn_of _ (by decide +kernel)) ggX3_mergeScalar_X3_itself
set_option maxRecDepth 20000 in
theorem ggX3_mergeScalar_X3_latest : GoodIn wsX3_mergeScalar wsX3_latest := goodIn_r _ [26, 21, 22, 31, 32, 33, 34, 35, 36, 37, 38, 39, 40, 41, 42, 43, 44, 45, 46, 47, 48, 49, 50, 51, 52] (by decide +kernel) (by decide +kernel)
set_option maxRecDepth 20000 in
theorem gX3_mergeScalar_X3_latest : GoodIn wsX3_mergeScalar (wsV RX3 129 RX3 yX3_latest wsX3_latest) := goodIn_app (goodIn_of _ (by decide +kernel)) ggX3_mergeScalar_X3_latest
set_option maxRecDepth 20000 in
theorem ggX3_mergeScalar_X3_copyValue : GoodIn wsX3_mergeScalar wsX3_copyValue := goodIn_r _ [30, 13, 14, 15, 16, 31, 32, 33, 34, 35, 36, 37, 38, 39, 40, 41, 42, 43, 44, 45, 46, 47, 48, 49, 50, 51, 52] (by decide +kernel) (by decide +kernel)
set_option maxRecDepth 20000 in
theorem gX3_mergeScalar_X3_copyValue : GoodIn wsX3_mergeScalar (wsV RX3 133 RX3 yX3_copyValue wsX3_copyValue) := goodIn_app (goodIn_of _ (by decide +kernel)) ggX3_mergeScalar_X3_copyValue
set_option maxRecDepth 20000 in
theorem ggX3_mergedAlive_X3_isAlive : GoodIn wsX3_mergedAlive wsX3_isAlive := goodIn_r _ [7, 8, 9, 10, 6, 11, 17, 18, 19, 20, 21, 22, 23, 24, 25, 26, 27, 28, 29, 30, 31, 32, 33, 34, 35, 36, 37, 38] (by decide +kernel) (by decide +kernel)
set_option maxRecDepth 20000 in
theorem gX3_mergedAlive_X3_isAlive : GoodIn wsX3_mergedAlive (wsV RX3 87 RX3 yX3_isAlive wsX3_isAlive) := goodIn_app (goodIn_of _ (by decide +kernel)) ggX3_mergedAlive_X3_isAlive
set_option maxRecDepth 20000 in
theorem ggX3_mergedAlive_X3_known : GoodIn wsX3_mergedAlive wsX3_known := goodIn_r _ [15, 16, 17, 18, 19, 20, 21, 22, 23, 24, 25, 26, 27, 28, 29, 30, 31, 32, 33, 34, 35, 36, 37, 38] (by decide +kernel) (by decide +kernel)
set_option maxRecDepth 20000 in
theorem gX3_mergedAlive_X3_known : GoodIn wsX3_mergedAlive (wsV RX3 137 RX3 yX3_known wsX3_known) := goodIn_app (goodIn_of _ (by decide +kernel)) ggX3_mergedAlive_X3_known
set_option maxRecDepth 20000 in
theorem ggX3_comesBack_X3_isAlive : GoodIn wsX3_comesBack wsX3_isAlive := goodIn_r _ [6, 7, 8, 9, 5, 10, 16, 17, 18, 19, 20, 21, 22, 23, 24, 25, 26, 27, 28, 29, 30, 31, 32, 33, 34, 35, 36, 37] (by decide +kernel) (by decide +kernel)
set_option maxRecDepth 20000 in
theorem gX3_comesBack_X3_isAlive : GoodIn wsX3_comesBack (wsV RX3 87 RX3 yX3_isAlive wsX3_isAlive) := goodIn_app (goodIn_of _ (by decide +kernel)) ggX3_comesBack_X3_isAlive
set_option maxRecDepth 20000 in
theorem ggX3_comesBack_X3_placed : GoodIn wsX3_comesBack wsX3_placed := goodIn_r _ [14, 15, 16, 17, 18, 19, 20, 21, 22, 23, 24, 25, 26, 27, 28, 29, 30, 31, 32, 33, 34, 35, 36, 37] (by decide +kernel) (by decide +kernel)
set_option maxRecDepth 20000 in
theorem gX3_comesBack_X3_placed : GoodIn wsX3_comesBack (wsV RX3 140 RX3 yX3_placed wsX3_placed) := goodIn_app (goodIn_of _ (by decide +kernel)) ggX3_comesBack_X3_placed
set_option maxRecDepth 20000 in
theorem ggX3_listConflicts_X3_isAlive : GoodIn wsX3_listConflicts wsX3_isAlive := goodIn_r _ [9, 10, 11, 12, 8, 13, 28, 29, 30, 31, 32, 33, 34, 35, 36, 37, 38, 39, 40, 41, 42, 43, 44, 45, 46, 47, 48, 49] (by decide +kernel) (by decide +kernel)
set_option maxRecDepth 20000 in
theorem gX3_listConflicts_X3_isAlive : GoodIn wsX3_listConflicts (wsV RX3 87 RX3 yX3_isAlive wsX3_isAlive) := goodIn_app (goodIn_of _ (by decide +kernel)) ggX3_listConflicts_X3_isAlive
set_option maxRecDepth 20000 in
theorem ggX3_listConflicts_X3_list : GoodIn wsX3_listConflicts wsX3_list := goodIn_r _ [17, 18, 1, 19, 28, 29, 30, 31, 32, 33, 34, 35, 36, 37, 38, 39, 40, 41, 42, 43, 44, 45, 46, 47, 48, 49] (by decide +kernel) (by decide +kernel)
set_option maxRecDepth 20000 in
theorem gX3_listConflicts_X3_list : GoodIn wsX3_listConflicts (wsV RX3 143 RX3 yX3_list wsX3_list) := goodIn_app (goodIn_of _ (by decide +kernel)) ggX3_listConflicts_X3_list
set_option maxRecDepth 20000 in
theorem ggX3_listConflicts_X3_placed : GoodIn wsX3_listConflicts wsX3_placed := goodIn_r _ [23, 2, 28, 29, 30, 31, 32, 33, 34, 35, 36, 37, 38, 39, 40, 41, 42, 43, 44, 45, 46, 47, 48, 49] (by decide +kernel) (by decide +kernel)
set_option maxRecDepth 20000 in
theorem gX3_listConflicts_X3_placed : GoodIn wsX3_listConflicts (wsV RX3 140 RX3 yX3_placed wsX3_placed) := goodIn_app (goodIn_of _ (by decide +kernel)) ggX3_listConflicts_X3_placed
set_option maxRecDepth 20000 in
theorem ggX3_listConflicts_X3_comesBack : GoodIn wsX3_listConflicts wsX3_comesBack := goodIn_r _ [27, 3, 5, 6, 7, 8, 9, 10, 11, 12, 13, 20, 21, 22, 23, 2, 28, 29, 30, 31, 32, 33, 34, 35, 36, 37, 38, 39, 40, 41, 42, 43, 44, 45, 46, 47, 48, 49] (by decide +kernel) (by decide +kernel)
set_option maxRecDepth 20000 in
theorem gX3_listConflicts_X3_comesBack : GoodIn wsX3_listConflicts (wsV RX3 146 RX3 yX3_comesBack wsX3_comesBack) := goodIn_app (goodIn_of _ (by decide +kernel)) ggX3_listConflicts_X3_comesBack
set_option maxRecDepth 20000 in
theorem ggX3_merge_X3_isPeer : GoodIn wsX3_merge wsX3_isPeer := goodIn_r _ [13] (by decide +kernel) (by decide +kernel)
set_option maxRecDepth 20000 in
theorem gX3_merge_X3_isPeer : GoodIn wsX3_merge (va_wsS RX3 95 yX3_isPeer wsX3_isPeer) := goodIn_app (goodIn_of _ (by decide +kernel)) ggX3_merge_X3_isPeer
set_option maxRecDepth 20000 in
theorem ggX3_merge_X3_hasRevision : GoodIn wsX3_merge wsX3_hasRevision := goodIn_r _ [17, 2, 7, 18, 19, 12, 20, 94, 95, 96, 97, 98, 99, 100, 101, 102, 103, 104, 105, 106, 107, 108, 109, 110, 111, 112, 113, 114, 115] (by decide +kernel) (by decide +kernel)
set_option maxRecDepth 20000 in
theorem gX3_merge_X3_hasRevision : GoodIn wsX3_merge (wsV RX3 99 RX3 yX3_hasRevision wsX3_hasRevision) := goodIn_app (goodIn_of _ (by decide +kernel)) ggX3_merge_X3_hasRevision
set_option maxRecDepth 20000 in
theorem ggX3_merge_X3_fail : GoodIn wsX3_merge wsX3_fail := goodIn_r _ [24, 1, 94, 95, 96, 97, 98, 99, 100, 101, 102, 103, 104, 105, 106, 107, 108, 109, 110, 111, 112, 113, 114, 115] (by decide +kernel) (by decide +kernel)
set_option maxRecDepth 20000 in
theorem gX3_merge_X3_fail : GoodIn wsX3_merge (wsV RX3 106 RX3 yX3_fail wsX3_fail) := goodIn_app (goodIn_of _ (by decide +kernel)) ggX3_merge_X3_fail
set_option maxRecDepth 20000 in
theorem ggX3_merge_X3_known : GoodIn wsX3_merge wsX3_known := goodIn_r _ [28, 6, 94, 95, 96, 97, 98, 99, 100, 101, 102, 103, 104, 105, 106, 107, 108, 109, 110, 111, 112, 113, 114, 115] (by decide +kernel) (by decide +kernel)
set_option maxRecDepth 20000 in
theorem gX3_merge_X3_known : GoodIn wsX3_merge (wsV RX3 137 RX3 yX3_known wsX3_known) := goodIn_app (goodIn_of _ (by decide +kernel)) ggX3_merge_X3_known
set_option maxRecDepth 20000 in
theorem ggX3_merge_X3_mergedAlive : GoodIn wsX3_merge wsX3_mergedAlive := goodIn_r _ [32, 33, 8, 34, 35, 36, 12, 37, 3, 18, 19, 20, 25, 26, 27, 28, 6, 94, 95, 96, 97, 98, 99, 100, 101, 102, 103, 104, 105, 106, 107, 108, 109, 110, 111, 112, 113, 114, 115] (by decide +kernel) (by decide +kernel)
set_option maxRecDepth 20000 in
theorem gX3_merge_X3_mergedAlive : GoodIn wsX3_merge (wsV RX3 149 RX3 yX3_mergedAlive wsX3_mergedAlive) := goodIn_app (goodIn_of _ (by decide +kernel)) ggX3_merge_X3_mergedAlive
set_option maxRecDepth 20000 in
theorem ggX3_merge_X3_isAlive : GoodIn wsX3_merge wsX3_isAlive := goodIn_r _ [37, 3, 18, 19, 12, 20, 94, 95, 96, 97, 98, 99, 100, 101, 102, 103, 104, 105, 106, 107, 108, 109, 110, 111, 112, 113, 114, 115] (by decide +kernel) (by decide +kernel)
set_option maxRecDepth 20000 in
theorem gX3_merge_X3_isAlive : GoodIn wsX3_merge (wsV RX3 87 RX3 yX3_isAlive wsX3_isAlive) := goodIn_app (goodIn_of _ (by decide +kernel)) ggX3_merge_X3_isAlive
set_option maxRecDepth 20000 in
theorem ggX3_merge_X3_copyNode : GoodIn wsX3_merge wsX3_copyNode := goodIn_r _ [41, 42, 43, 44, 45, 46, 94, 95, 96, 97, 98, 99, 100, 101, 102, 103, 104, 105, 106, 107, 108, 109, 110, 111, 112, 113, 114, 115] (by decide +kernel) (by decide +kernel)
set_option maxRecDepth 20000 in
theorem gX3_merge_X3_copyNode : GoodIn wsX3_merge (wsV RX3 83 RX3 yX3_copyNode wsX3_copyNode) := goodIn_app (goodIn_of _ (by decide +kernel)) ggX3_merge_X3_copyNode
set_option maxRecDepth 20000 in
theorem ggX3_merge_X3_mergeScalar : GoodIn wsX3_merge wsX3_mergeScalar := goodIn_r _ [50, 9, 46, 4, 51, 52, 53, 12, 54, 55, 56, 57, 58, 42, 43, 44, 45, 59, 60, 61, 62, 6, 63, 64, 65, 66, 67, 68, 69, 70, 71, 94, 95, 96, 97, 98, 99, 100, 101, 102, 103, 104, 105, 106, 107, 108, 109, 110, 111, 112, 113, 114, 115] (by decide +kernel) (by decide +kernel)
set_option maxRecDepth 20000 in
theorem gX3_merge_X3_mergeScalar : GoodIn wsX3_merge (wsV RX3 153 RX3 yX3_mergeScalar wsX3_mergeScalar) := goodIn_app (goodIn_of _ (by decide +kernel)) ggX3_merge_X3_mergeScalar
set_option maxRecDepth 20000 in
theorem ggX3_merge_X3_listConflicts : GoodIn wsX3_merge wsX3_listConflicts := goodIn_r _ [75, 5, 4, 42, 43, 34, 35, 36, 12, 37, 3, 18, 19, 20, 76, 77, 78, 79, 80, 81, 82, 83, 84, 85, 86, 87, 88, 89, 94, 95, 96, 97, 98, 99, 100, 101, 102, 103, 104, 105, 106, 107, 108, 109, 110, 111, 112, 113, 114, 115] (by decide +kernel) (by decide +kernel)
set_option maxRecDepth 20000 in
theorem gX3_merge_X3_listConflicts : GoodIn wsX3_merge (wsV RX3 157 RX3 yX3_listConflicts wsX3_listConflicts) := goodIn_app (goodIn_of _ (by decide +kernel)) ggX3_merge_X3_listConflicts
set_option maxRecDepth 20000 in
theorem ggX3_merge_X3_copyTree : GoodIn wsX3_merge wsX3_copyTree := goodIn_r _ [93, 3, 38, 39, 40, 12, 41, 42, 43, 44, 45, 46, 94, 95, 96, 97, 98, 99, 100, 101, 102, 103, 104, 105, 106, 107, 108, 109, 110, 111, 112, 113, 114, 115] (by decide +kernel) (by decide +kernel)
set_option maxRecDepth 20000 in
theorem gX3_merge_X3_copyTree : GoodIn wsX3_merge (wsV RX3 102 RX3 yX3_copyTree wsX3_copyTree) := goodIn_app (goodIn_of _ (by decide +kernel)) ggX3_merge_X3_copyTree
set_option maxRecDepth 20000 in
theorem ggX3_conflict_X3_isPeer : GoodIn wsX3_conflict wsX3_isPeer := goodIn_r _ [8] (by decide +kernel) (by decide +kernel)
set_option maxRecDepth 20000 in
theorem gX3_conflict_X3_isPeer : GoodIn wsX3_conflict (va_wsS RX3 95 yX3_isPeer wsX3_isPeer) := goodIn_app (goodIn_of _ (by decide +kernel)) ggX3_conflict_X3_isPeer
set_option maxRecDepth 20000 in
theorem ggX3_conflict_X3_fail : GoodIn wsX3_conflict wsX3_fail := goodIn_r _ [12, 1, 16, 17, 18, 19, 20, 21, 22, 23, 24, 25, 26, 27, 28, 29, 30, 31, 32, 33, 34, 35, 36, 37] (by decide +kernel) (by decide +kernel)
set_option maxRecDepth 20000 in
theorem gX3_conflict_X3_fail : GoodIn wsX3_conflict (wsV RX3 106 RX3 yX3_fail wsX3_fail) := goodIn_app (goodIn_of _ (by decide +kernel)) ggX3_conflict_X3_fail
set_option maxRecDepth 20000 in
theorem ggX3_conflict_X3_in : GoodIn wsX3_conflict wsX3_in := goodIn_r _ [15] (by decide +kernel) (by decide +kernel)
set_option maxRecDepth 20000 in
theorem gX3_conflict_X3_in : GoodIn wsX3_conflict (va_wsS RX3 79 yX3_in wsX3_in) := goodIn_app (goodIn_of _ (by decide +kernel)) ggX3_conflict_X3_in
set_option maxRecDepth 20000 in
theorem ggX3_about_X3_in : GoodIn wsX3_about wsX3_in := goodIn_r _ [12] (by decide +kernel) (by decide +kernel)
set_option maxRecDepth 20000 in
theorem gX3_about_X3_in : GoodIn wsX3_about (va_wsS RX3 79 yX3_in wsX3_in) := goodIn_app (goodIn_of _ (by decide +kernel)) ggX3_about_X3_in
set_option maxRecDepth 20000 in
theorem ggX3_about_X3_isAlive : GoodIn wsX3_about wsX3_isAlive := goodIn_r _ [16, 17, 9, 10, 11, 12, 22, 23, 24, 25, 26, 27, 28, 29, 30, 31, 32, 33, 34, 35, 36, 37, 38, 39, 40, 41, 42, 43] (by decide +kernel) (by decide +kernel)
set_option maxRecDepth 20000 in
theorem gX3_about_X3_isAlive : GoodIn wsX3_about (wsV RX3 87 RX3 yX3_isAlive wsX3_isAlive) := goodIn_app (goodIn_of _ (by decide +kernel)) ggX3_about_X3_isAlive
set_option maxRecDepth 20000 in
theorem ggX3_about_X3_fail : GoodIn wsX3_about wsX3_fail := goodIn_r _ [21, 1, 22, 23, 24, 25, 26, 27, 28, 29, 30, 31, 32, 33, 34, 35, 36, 37, 38, 39, 40, 41, 42, 43] (by decide +kernel) (by decide +kernel)
set_option maxRecDepth 20000 in
theorem gX3_about_X3_fail : GoodIn wsX3_about (wsV RX3 106 RX3 yX3_fail wsX3_fail) := goodIn_app (goodIn_of _ (by decide +kernel)) ggX3_about_X3_fail
set_option maxRecDepth 20000 in
theorem ggX3_marks_X3_in : GoodIn wsX3_marks wsX3_in := goodIn_r _ [7] (by decide +kernel) (by decide +kernel)
set_option maxRecDepth 20000 in
theorem gX3_marks_X3_in : GoodIn wsX3_marks (va_wsS RX3 79 yX3_in wsX3_in) := goodIn_app (goodIn_of _ (by decide +kernel)) ggX3_marks_X3_in
set_option maxRecDepth 20000 in
theorem ggX3_marks_X3_isAlive : GoodIn wsX3_marks wsX3_isAlive := goodIn_r _ [11, 12, 4, 5, 6, 7, 17, 18, 19, 20, 21, 22, 23, 24, 25, 26, 27, 28, 29, 30, 31, 32, 33, 34, 35, 36, 37, 38] (by decide +kernel) (by decide +kernel)
set_option maxRecDepth 20000 in
theorem gX3_marks_X3_isAlive : GoodIn wsX3_marks (wsV RX3 87 RX3 yX3_isAlive wsX3_isAlive) := goodIn_app (goodIn_of _ (by decide +kernel)) ggX3_marks_X3_isAlive
set_option maxRecDepth 20000 in
theorem ggX3_marks_X3_fail : GoodIn wsX3_marks wsX3_fail := goodIn_r _ [16, 1, 17, 18, 19, 20, 21, 22, 23, 24, 25, 26, 27, 28, 29, 30, 31, 32, 33, 34, 35, 36, 37, 38] (by decide +kernel) (by decide +kernel)
set_option maxRecDepth 20000 in
theorem gX3_marks_X3_fail : GoodIn wsX3_marks (wsV RX3 106 RX3 yX3_fail wsX3_fail) := goodIn_app (goodIn_of _ (by decide +kernel)) ggX3_marks_X3_fail
set_option maxRecDepth 20000 in
theorem ggX3_nodes_X3_isPeer : GoodIn wsX3_nodes wsX3_isPeer := goodIn_r _ [7] (by decide +kernel) (by decide +kernel)
set_option maxRecDepth 20000 in
theorem gX3_nodes_X3_isPeer : GoodIn wsX3_nodes (va_wsS RX3 95 yX3_isPeer wsX3_isPeer) := goodIn_app (goodIn_of _ (by decide +kernel)) ggX3_nodes_X3_isPeer
set_option maxRecDepth 20000 in
theorem ggX3_nodes_X3_hasRevision : GoodIn wsX3_nodes wsX3_hasRevision := goodIn_r _ [11, 12, 13, 14, 15, 6, 16, 21, 22, 23, 24, 25, 26, 27, 28, 29, 30, 31, 32, 33, 34, 35, 36, 37, 38, 39, 40, 41, 42] (by decide +kernel) (by decide +kernel)
set_option maxRecDepth 20000 in
theorem gX3_nodes_X3_hasRevision : GoodIn wsX3_nodes (wsV RX3 99 RX3 yX3_hasRevision wsX3_hasRevision) := goodIn_app (goodIn_of _ (by decide +kernel)) ggX3_nodes_X3_hasRevision
set_option maxRecDepth 20000 in
theorem ggX3_nodes_X3_fail : GoodIn wsX3_nodes wsX3_fail := goodIn_r _ [20, 1, 21, 22, 23, 24, 25, 26, 27, 28, 29, 30, 31, 32, 33, 34, 35, 36, 37, 38, 39, 40, 41, 42] (by decide +kernel) (by decide +kernel)
set_option maxRecDepth 20000 in
theorem gX3_nodes_X3_fail : GoodIn wsX3_nodes (wsV RX3 106 RX3 yX3_fail wsX3_fail) := goodIn_app (goodIn_of _ (by decide +kernel)) ggX3_nodes_X3_fail
set_option maxRecDepth 20000 in
theorem ggX3_ancestors_X3_in : GoodIn wsX3_ancestors wsX3_in := goodIn_r _ [7] (by decide +kernel) (by decide +kernel)
set_option maxRecDepth 20000 in
theorem gX3_ancestors_X3_in : GoodIn wsX3_ancestors (va_wsS RX3 79 yX3_in wsX3_in) := goodIn_app (goodIn_of _ (by decide +kernel)) ggX3_ancestors_X3_in
set_option maxRecDepth 20000 in
theorem ggX3_ancestors_X3_fail : GoodIn wsX3_ancestors wsX3_fail := goodIn_r _ [11, 1, 12, 13, 14, 15, 16, 17, 18, 19, 20, 21, 22, 23, 24, 25, 26, 27, 28, 29, 30, 31, 32, 33] (by decide +kernel) (by decide +kernel)
set_option maxRecDepth 20000 in
theorem gX3_ancestors_X3_fail : GoodIn wsX3_ancestors (wsV RX3 106 RX3 yX3_fail wsX3_fail) := goodIn_app (goodIn_of _ (by decide +kernel)) ggX3_ancestors_X3_fail
set_option maxRecDepth 20000 in
theorem ggX3_certify_X3_isPeer : GoodIn wsX3_certify wsX3_isPeer := goodIn_r _ [6] (by decide +kernel) (by decide +kernel)
set_option maxRecDepth 20000 in
theorem gX3_certify_X3_isPeer : GoodIn wsX3_certify (va_wsS RX3 95 yX3_isPeer wsX3_isPeer) := goodIn_app (goodIn_of _ (by decide +kernel)) ggX3_certify_X3_isPeer
set_option maxRecDepth 20000 in
theorem ggX3_certify_X3_hasRevision : GoodIn wsX3_certify wsX3_hasRevision := goodIn_r _ [10, 11, 12, 13, 14, 5, 15, 16, 17, 18, 19, 20, 21, 22, 23, 24, 25, 26, 27, 28, 29, 30, 31, 32, 33, 34, 35, 36, 37] (by decide +kernel) (by decide +kernel)
set_option maxRecDepth 20000 in
theorem gX3_certify_X3_hasRevision : GoodIn wsX3_certify (wsV RX3 99 RX3 yX3_hasRevision wsX3_hasRevision) := goodIn_app (goodIn_of _ (by decide +kernel)) ggX3_certify_X3_hasRevision
set_option maxRecDepth 20000 in
theorem ggX3_certify_X3_in : GoodIn wsX3_certify wsX3_in := goodIn_r _ [15] (by decide +kernel) (by decide +kernel)
set_option maxRecDepth 20000 in
theorem gX3_certify_X3_in : GoodIn wsX3_certify (va_wsS RX3 79 yX3_in wsX3_in) := goodIn_app (goodIn_of _ (by decide +kernel)) ggX3_certify_X3_in
set_option maxRecDepth 20000 in
theorem ggX3_trust_X3_isPeer : GoodIn wsX3_trust wsX3_isPeer := goodIn_r _ [6] (by decide +kernel) (by decide +kernel)
set_option maxRecDepth 20000 in
theorem gX3_trust_X3_isPeer : GoodIn wsX3_trust (va_wsS RX3 95 yX3_isPeer wsX3_isPeer) := goodIn_app (goodIn_of _ (by decide +kernel)) ggX3_trust_X3_isPeer
set_option maxRecDepth 20000 in
theorem ggX3_trust_X3_in : GoodIn wsX3_trust wsX3_in := goodIn_r _ [9] (by decide +kernel) (by decide +kernel)
set_option maxRecDepth 20000 in
theorem gX3_trust_X3_in : GoodIn wsX3_trust (va_wsS RX3 79 yX3_in wsX3_in) := goodIn_app (goodIn_of _ (by decide +kernel)) ggX3_trust_X3_in
set_option maxRecDepth 20000 in
theorem ggX3_heads_X3_isPeer : GoodIn wsX3_heads wsX3_isPeer := goodIn_r _ [5] (by decide +kernel) (by decide +kernel)
set_option maxRecDepth 20000 in
theorem gX3_heads_X3_isPeer : GoodIn wsX3_heads (va_wsS RX3 95 yX3_isPeer wsX3_isPeer) := goodIn_app (goodIn_of _ (by decide +kernel)) ggX3_heads_X3_isPeer
set_option maxRecDepth 20000 in
theorem ggX3_heads_X3_in : GoodIn wsX3_heads wsX3_in := goodIn_r _ [8] (by decide +kernel) (by decide +kernel)
set_option maxRecDepth 20000 in
theorem gX3_heads_X3_in : GoodIn wsX3_heads (va_wsS RX3 79 yX3_in wsX3_in) := goodIn_app (goodIn_of _ (by decide +kernel)) ggX3_heads_X3_in
set_option maxRecDepth 20000 in
theorem ggX3_heads_X3_fail : GoodIn wsX3_heads wsX3_fail := goodIn_r _ [12, 1, 25, 26, 27, 28, 29, 30, 31, 32, 33, 34, 35, 36, 37, 38, 39, 40, 41, 42, 43, 44, 45, 46] (by decide +kernel) (by decide +kernel)
set_option maxRecDepth 20000 in
theorem gX3_heads_X3_fail : GoodIn wsX3_heads (wsV RX3 106 RX3 yX3_fail wsX3_fail) := goodIn_app (goodIn_of _ (by decide +kernel)) ggX3_heads_X3_fail
set_option maxRecDepth 20000 in
theorem ggX3_heads_X3_members : GoodIn wsX3_heads wsX3_members := goodIn_r _ [16, 17, 18, 25, 26, 27, 28, 29, 30, 31, 32, 33, 34, 35, 36, 37, 38, 39, 40, 41, 42, 43, 44, 45, 46] (by decide +kernel) (by decide +kernel)
set_option maxRecDepth 20000 in
theorem gX3_heads_X3_members : GoodIn wsX3_heads (wsV RX3 161 RX3 yX3_members wsX3_members) := goodIn_app (goodIn_of _ (by decide +kernel)) ggX3_heads_X3_members
set_option maxRecDepth 20000 in
theorem ggX3_heads_X3_latest : GoodIn wsX3_heads wsX3_latest := goodIn_r _ [22, 23, 24, 25, 26, 27, 28, 29, 30, 31, 32, 33, 34, 35, 36, 37, 38, 39, 40, 41, 42, 43, 44, 45, 46] (by decide +kernel) (by decide +kernel)
set_option maxRecDepth 20000 in
theorem gX3_heads_X3_latest : GoodIn wsX3_heads (wsV RX3 129 RX3 yX3_latest wsX3_latest) := goodIn_app (goodIn_of _ (by decide +kernel)) ggX3_heads_X3_latest
set_option maxRecDepth 20000 in
theorem ggX3_exchange_X3_in : GoodIn wsX3_exchange wsX3_in := goodIn_r _ [8] (by decide +kernel) (by decide +kernel)
set_option maxRecDepth 20000 in
theorem gX3_exchange_X3_in : GoodIn wsX3_exchange (va_wsS RX3 79 yX3_in wsX3_in) := goodIn_app (goodIn_of _ (by decide +kernel)) ggX3_exchange_X3_in
set_option maxRecDepth 20000 in
theorem ggX3_exchange_X3_fail : GoodIn wsX3_exchange wsX3_fail := goodIn_r _ [12, 1, 26, 27, 28, 29, 30, 31, 32, 33, 34, 35, 36, 37, 38, 39, 40, 41, 42, 43, 44, 45, 46, 47] (by decide +kernel) (by decide +kernel)
set_option maxRecDepth 20000 in
theorem gX3_exchange_X3_fail : GoodIn wsX3_exchange (wsV RX3 106 RX3 yX3_fail wsX3_fail) := goodIn_app (goodIn_of _ (by decide +kernel)) ggX3_exchange_X3_fail
set_option maxRecDepth 20000 in
theorem ggX3_exchange_X3_members : GoodIn wsX3_exchange wsX3_members := goodIn_r _ [16, 17, 4, 26, 27, 28, 29, 30, 31, 32, 33, 34, 35, 36, 37, 38, 39, 40, 41, 42, 43, 44, 45, 46, 47] (by decide +kernel) (by decide +kernel)
set_option maxRecDepth 20000 in
theorem gX3_exchange_X3_members : GoodIn wsX3_exchange (wsV RX3 161 RX3 yX3_members wsX3_members) := goodIn_app (goodIn_of _ (by decide +kernel)) ggX3_exchange_X3_members
