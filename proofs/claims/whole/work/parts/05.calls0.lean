set_option maxRecDepth 20000 in
theorem ggX0_init_X1_init : GoodIn wsX0_init wsX1_init := goodIn_r _ [19, 20, 2, 3, 21, 13, 22, 5, 23, 24, 25, 26, 41, 42, 43] (by decide +kernel) (by decide +kernel)
set_option maxRecDepth 20000 in
theorem gX0_init_X1_init : GoodIn wsX0_init (wsX1_init) := ggX0_init_X1_init
set_option maxRecDepth 20000 in
theorem ggX0_init_J7_fill_53178 : GoodIn wsX0_init wsJ7_fill_53178 := goodIn_r _ [30] (by decide +kernel) (by decide +kernel)
set_option maxRecDepth 20000 in
theorem gX0_init_J7_fill_53178 : GoodIn wsX0_init (va_wsS RX0 43 yJ7_fill_53178 wsJ7_fill_53178) := goodIn_app (goodIn_of _ (by decide +kernel)) ggX0_init_J7_fill_53178
set_option maxRecDepth 20000 in
theorem ggX0_forgetDecisions_J7_fill_53178 : GoodIn wsX0_forgetDecisions wsJ7_fill_53178 := goodIn_r _ [6] (by decide +kernel) (by decide +kernel)
set_option maxRecDepth 20000 in
theorem gX0_forgetDecisions_J7_fill_53178 : GoodIn wsX0_forgetDecisions (va_wsS RX0 43 yJ7_fill_53178 wsJ7_fill_53178) := goodIn_app (goodIn_of _ (by decide +kernel)) ggX0_forgetDecisions_J7_fill_53178
set_option maxRecDepth 20000 in
theorem ggX0_trusts_X2_isIn : GoodIn wsX0_trusts wsX2_isIn := goodIn_r _ [4] (by decide +kernel) (by decide +kernel)
set_option maxRecDepth 20000 in
theorem gX0_trusts_X2_isIn_n55 : GoodIn wsX0_trusts (wsX2_isIn) := ggX0_trusts_X2_isIn
set_option maxRecDepth 20000 in
theorem ggX0_membersOf_X0_trusts : GoodIn wsX0_membersOf wsX0_trusts := goodIn_r _ [6, 7, 8, 9, 10, 13, 14, 15, 16, 17, 18, 19, 20, 21, 22] (by decide +kernel) (by decide +kernel)
set_option maxRecDepth 20000 in
theorem gX0_membersOf_X0_trusts : GoodIn wsX0_membersOf (wsV RX0 59 RX0 yX0_trusts wsX0_trusts) := goodIn_app (goodIn_of _ (by decide +kernel)) ggX0_membersOf_X0_trusts
set_option maxRecDepth 20000 in
theorem ggX0_membersOf_X2_certificateKind : GoodIn wsX0_membersOf wsX2_certificateKind := goodIn_r _ [12] (by decide +kernel) (by decide +kernel)
set_option maxRecDepth 20000 in
theorem gX0_membersOf_X2_certificateKind_n63 : GoodIn wsX0_membersOf (wsX2_certificateKind) := ggX0_membersOf_X2_certificateKind
set_option maxRecDepth 20000 in
theorem ggX0_receive_J13_bitCount_95d88 : GoodIn wsX0_receive wsJ13_bitCount_95d88 := goodIn_r _ [7, 8, 9, 10] (by decide +kernel) (by decide +kernel)
set_option maxRecDepth 20000 in
theorem gX0_receive_J13_bitCount_95d88 : GoodIn wsX0_receive (va_wsS RX0 69 yJ13_bitCount_95d88 wsJ13_bitCount_95d88) := goodIn_app (goodIn_of _ (by decide +kernel)) ggX0_receive_J13_bitCount_95d88
set_option maxRecDepth 20000 in
theorem ggX1_init_X2_slot : GoodIn wsX1_init wsX2_slot := goodIn_r _ [11] (by decide +kernel) (by decide +kernel)
set_option maxRecDepth 20000 in
theorem gX1_init_X2_slot_n23 : GoodIn wsX1_init (wsX2_slot) := ggX1_init_X2_slot
set_option maxRecDepth 20000 in
theorem ggX1_isAlive_X2_isIn : GoodIn wsX1_isAlive wsX2_isIn := goodIn_r _ [4] (by decide +kernel) (by decide +kernel)
set_option maxRecDepth 20000 in
theorem gX1_isAlive_X2_isIn_n27 : GoodIn wsX1_isAlive (wsX2_isIn) := ggX1_isAlive_X2_isIn
set_option maxRecDepth 20000 in
theorem ggX1_valueOf_X2_slot : GoodIn wsX1_valueOf wsX2_slot := goodIn_r _ [4] (by decide +kernel) (by decide +kernel)
set_option maxRecDepth 20000 in
theorem gX1_valueOf_X2_slot_n23 : GoodIn wsX1_valueOf (wsX2_slot) := ggX1_valueOf_X2_slot
set_option maxRecDepth 20000 in
theorem ggX1_setValue_X2_slot : GoodIn wsX1_setValue wsX2_slot := goodIn_r _ [4] (by decide +kernel) (by decide +kernel)
set_option maxRecDepth 20000 in
theorem gX1_setValue_X2_slot_n23 : GoodIn wsX1_setValue (wsX2_slot) := ggX1_setValue_X2_slot
set_option maxRecDepth 20000 in
theorem ggX1_marksOf_X2_slot : GoodIn wsX1_marksOf wsX2_slot := goodIn_r _ [4] (by decide +kernel) (by decide +kernel)
set_option maxRecDepth 20000 in
theorem gX1_marksOf_X2_slot_n23 : GoodIn wsX1_marksOf (wsX2_slot) := ggX1_marksOf_X2_slot
set_option maxRecDepth 20000 in
theorem ggX1_setMarks_X2_slot : GoodIn wsX1_setMarks wsX2_slot := goodIn_r _ [4] (by decide +kernel) (by decide +kernel)
set_option maxRecDepth 20000 in
theorem gX1_setMarks_X2_slot_n23 : GoodIn wsX1_setMarks (wsX2_slot) := ggX1_setMarks_X2_slot
set_option maxRecDepth 20000 in
theorem ggX1_parentOf_X1_valueOf : GoodIn wsX1_parentOf wsX1_valueOf := goodIn_r _ [5, 6, 7, 8, 9, 10, 11, 12] (by decide +kernel) (by decide +kernel)
set_option maxRecDepth 20000 in
theorem gX1_parentOf_X1_valueOf : GoodIn wsX1_parentOf (wsV RX1 31 RX1 yX1_valueOf wsX1_valueOf) := goodIn_app (goodIn_of _ (by decide +kernel)) ggX1_parentOf_X1_valueOf
set_option maxRecDepth 20000 in
theorem ggX1_nameOf_X1_valueOf : GoodIn wsX1_nameOf wsX1_valueOf := goodIn_r _ [5, 6, 7, 8, 9, 10, 11, 12] (by decide +kernel) (by decide +kernel)
set_option maxRecDepth 20000 in
theorem gX1_nameOf_X1_valueOf : GoodIn wsX1_nameOf (wsV RX1 31 RX1 yX1_valueOf wsX1_valueOf) := goodIn_app (goodIn_of _ (by decide +kernel)) ggX1_nameOf_X1_valueOf
set_option maxRecDepth 20000 in
theorem ggX1_lowestAt_X1_isAlive : GoodIn wsX1_lowestAt wsX1_isAlive := goodIn_r _ [5, 6, 7, 8, 9, 17, 18, 19] (by decide +kernel) (by decide +kernel)
set_option maxRecDepth 20000 in
theorem gX1_lowestAt_X1_isAlive : GoodIn wsX1_lowestAt (wsV RX1 34 RX1 yX1_isAlive wsX1_isAlive) := goodIn_app (goodIn_of _ (by decide +kernel)) ggX1_lowestAt_X1_isAlive
set_option maxRecDepth 20000 in
theorem ggX1_lowestAt_X1_valueOf : GoodIn wsX1_lowestAt wsX1_valueOf := goodIn_r _ [13, 14, 15, 8, 16, 17, 18, 19] (by decide +kernel) (by decide +kernel)
set_option maxRecDepth 20000 in
theorem gX1_lowestAt_X1_valueOf : GoodIn wsX1_lowestAt (wsV RX1 31 RX1 yX1_valueOf wsX1_valueOf) := goodIn_app (goodIn_of _ (by decide +kernel)) ggX1_lowestAt_X1_valueOf
set_option maxRecDepth 20000 in
theorem ggX1_isParent_X1_isAlive : GoodIn wsX1_isParent wsX1_isAlive := goodIn_r _ [5, 6, 7, 8, 9, 21, 22, 23] (by decide +kernel) (by decide +kernel)
set_option maxRecDepth 20000 in
theorem gX1_isParent_X1_isAlive : GoodIn wsX1_isParent (wsV RX1 34 RX1 yX1_isAlive wsX1_isAlive) := goodIn_app (goodIn_of _ (by decide +kernel)) ggX1_isParent_X1_isAlive
set_option maxRecDepth 20000 in
theorem ggX1_isParent_X1_parentOf : GoodIn wsX1_isParent wsX1_parentOf := goodIn_r _ [13, 14, 15, 16, 4, 17, 18, 19, 8, 20, 21, 22, 23] (by decide +kernel) (by decide +kernel)
set_option maxRecDepth 20000 in
theorem gX1_isParent_X1_parentOf : GoodIn wsX1_isParent (wsV RX1 38 RX1 yX1_parentOf wsX1_parentOf) := goodIn_app (goodIn_of _ (by decide +kernel)) ggX1_isParent_X1_parentOf
set_option maxRecDepth 20000 in
theorem ggX1_leadsTo_X1_isAlive : GoodIn wsX1_leadsTo wsX1_isAlive := goodIn_r _ [5, 6, 7, 8, 9, 21, 22, 23] (by decide +kernel) (by decide +kernel)
set_option maxRecDepth 20000 in
theorem gX1_leadsTo_X1_isAlive : GoodIn wsX1_leadsTo (wsV RX1 34 RX1 yX1_isAlive wsX1_isAlive) := goodIn_app (goodIn_of _ (by decide +kernel)) ggX1_leadsTo_X1_isAlive
set_option maxRecDepth 20000 in
theorem ggX1_leadsTo_X1_parentOf : GoodIn wsX1_leadsTo wsX1_parentOf := goodIn_r _ [13, 14, 15, 16, 4, 17, 18, 19, 8, 20, 21, 22, 23] (by decide +kernel) (by decide +kernel)
set_option maxRecDepth 20000 in
theorem gX1_leadsTo_X1_parentOf : GoodIn wsX1_leadsTo (wsV RX1 38 RX1 yX1_parentOf wsX1_parentOf) := goodIn_app (goodIn_of _ (by decide +kernel)) ggX1_leadsTo_X1_parentOf
set_option maxRecDepth 20000 in
theorem ggX1_plant_X1_setValue : GoodIn wsX1_plant wsX1_setValue := goodIn_r _ [6, 7, 8, 9, 10, 11, 12, 13] (by decide +kernel) (by decide +kernel)
set_option maxRecDepth 20000 in
theorem gX1_plant_X1_setValue : GoodIn wsX1_plant (wsV RX1 42 RX1 yX1_setValue wsX1_setValue) := goodIn_app (goodIn_of _ (by decide +kernel)) ggX1_plant_X1_setValue
set_option maxRecDepth 20000 in
theorem ggX1_copyNode_X1_valueOf : GoodIn wsX1_copyNode wsX1_valueOf := goodIn_r _ [6, 7, 8, 9, 10, 24, 25, 26] (by decide +kernel) (by decide +kernel)
set_option maxRecDepth 20000 in
theorem gX1_copyNode_X1_valueOf : GoodIn wsX1_copyNode (wsV RX1 31 RX1 yX1_valueOf wsX1_valueOf) := goodIn_app (goodIn_of _ (by decide +kernel)) ggX1_copyNode_X1_valueOf
set_option maxRecDepth 20000 in
theorem ggX1_copyNode_X1_setValue : GoodIn wsX1_copyNode wsX1_setValue := goodIn_r _ [14, 7, 8, 9, 10, 24, 25, 26] (by decide +kernel) (by decide +kernel)
set_option maxRecDepth 20000 in
theorem gX1_copyNode_X1_setValue : GoodIn wsX1_copyNode (wsV RX1 42 RX1 yX1_setValue wsX1_setValue) := goodIn_app (goodIn_of _ (by decide +kernel)) ggX1_copyNode_X1_setValue
set_option maxRecDepth 20000 in
theorem ggX1_copyNode_X1_marksOf : GoodIn wsX1_copyNode wsX1_marksOf := goodIn_r _ [18, 19, 8, 9, 10, 24, 25, 26] (by decide +kernel) (by decide +kernel)
set_option maxRecDepth 20000 in
theorem gX1_copyNode_X1_marksOf : GoodIn wsX1_copyNode (wsV RX1 46 RX1 yX1_marksOf wsX1_marksOf) := goodIn_app (goodIn_of _ (by decide +kernel)) ggX1_copyNode_X1_marksOf
set_option maxRecDepth 20000 in
theorem ggX1_copyNode_X1_setMarks : GoodIn wsX1_copyNode wsX1_setMarks := goodIn_r _ [23, 19, 8, 9, 10, 24, 25, 26] (by decide +kernel) (by decide +kernel)
set_option maxRecDepth 20000 in
theorem gX1_copyNode_X1_setMarks : GoodIn wsX1_copyNode (wsV RX1 50 RX1 yX1_setMarks wsX1_setMarks) := goodIn_app (goodIn_of _ (by decide +kernel)) ggX1_copyNode_X1_setMarks
set_option maxRecDepth 20000 in
theorem ggX1_sameAs_X1_isAlive : GoodIn wsX1_sameAs wsX1_isAlive := goodIn_r _ [6, 1, 7, 8, 9, 17, 18, 19] (by decide +kernel) (by decide +kernel)
set_option maxRecDepth 20000 in
theorem gX1_sameAs_X1_isAlive : GoodIn wsX1_sameAs (wsV RX1 34 RX1 yX1_isAlive wsX1_isAlive) := goodIn_app (goodIn_of _ (by decide +kernel)) ggX1_sameAs_X1_isAlive
set_option maxRecDepth 20000 in
theorem ggX1_sameAs_X1_valueOf : GoodIn wsX1_sameAs wsX1_valueOf := goodIn_r _ [13, 14, 15, 8, 16, 17, 18, 19] (by decide +kernel) (by decide +kernel)
set_option maxRecDepth 20000 in
theorem gX1_sameAs_X1_valueOf : GoodIn wsX1_sameAs (wsV RX1 31 RX1 yX1_valueOf wsX1_valueOf) := goodIn_app (goodIn_of _ (by decide +kernel)) ggX1_sameAs_X1_valueOf
set_option maxRecDepth 20000 in
theorem ggX2_init_X0_init : GoodIn wsX2_init wsX0_init := goodIn_r _ [23, 24, 2, 3, 25, 11, 26, 27, 28, 18, 19, 29, 30, 14, 31, 32, 33, 34, 35, 36, 37, 38, 39, 40, 41, 42, 43, 44, 45, 46, 47, 49, 50, 51, 52, 53, 54, 55, 56, 57, 58, 69, 70, 71] (by decide +kernel) (by decide +kernel)
set_option maxRecDepth 20000 in
theorem gX2_init_X0_init : GoodIn wsX2_init (wsX0_init) := ggX2_init_X0_init
set_option maxRecDepth 20000 in
theorem ggX2_init_X1_init : GoodIn wsX2_init wsX1_init := goodIn_r _ [36, 37, 2, 3, 38, 14, 39, 11, 40, 41, 42, 43, 69, 70, 71] (by decide +kernel) (by decide +kernel)
set_option maxRecDepth 20000 in
theorem gX2_init_X1_init : GoodIn wsX2_init (wsX1_init) := ggX2_init_X1_init
set_option maxRecDepth 20000 in
theorem ggX2_open_X2_peerOf : GoodIn wsX2_open wsX2_peerOf := goodIn_ca (goodIn_r _ [8, 9, 10, 11, 12, 48, 49, 50, 51, 52, 53, 54, 55, 56, 57] (by decide +kernel) (by decide +kernel)) (goodIn_sub (fun _ h => List.mem_cons_of_mem _ (List.mem_append_right _ h)) (by decide +kernel))
set_option maxRecDepth 20000 in
theorem gX2_open_X2_peerOf : GoodIn wsX2_open (wsV RX2 48 RX2 yX2_peerOf wsX2_peerOf) := goodIn_app (goodIn_of _ (by decide +kernel)) ggX2_open_X2_peerOf
set_option maxRecDepth 20000 in
theorem ggX2_open_X2_requireHeld : GoodIn wsX2_open wsX2_requireHeld := goodIn_ca (goodIn_r _ [16, 9, 10, 17, 18, 19, 20, 7, 21, 22, 23, 24, 25, 38, 39, 40, 41, 42, 43, 44, 45, 46, 47, 48, 49, 50, 51, 52, 53, 54, 55, 56, 57] (by decide +kernel) (by decide +kernel)) (goodIn_sub (fun _ h => List.mem_cons_of_mem _ (List.mem_append_right _ h)) (by decide +kernel))
set_option maxRecDepth 20000 in
theorem gX2_open_X2_requireHeld : GoodIn wsX2_open (wsV RX2 52 RX2 yX2_requireHeld wsX2_requireHeld) := goodIn_app (goodIn_of _ (by decide +kernel)) ggX2_open_X2_requireHeld
set_option maxRecDepth 20000 in
theorem ggX2_open_X1_copyFrom : GoodIn wsX2_open wsX1_copyFrom := goodIn_r _ [30, 31, 32, 33, 34, 35, 36, 37, 58, 59, 60] (by decide +kernel) (by decide +kernel)
set_option maxRecDepth 20000 in
theorem gX2_open_X1_copyFrom : GoodIn wsX2_open (wsV RX2 59 RX1 yX1_copyFrom wsX1_copyFrom) := goodIn_app (goodIn_of _ (by decide +kernel)) ggX2_open_X1_copyFrom
set_option maxRecDepth 20000 in
theorem ggX2_add_X2_workspaceOf : GoodIn wsX2_add wsX2_workspaceOf := goodIn_ca (goodIn_ca (goodIn_r _ [11, 12, 13, 14, 15, 10, 16, 17, 18, 19, 20, 21, 22, 23, 3, 4, 24, 78, 79, 80, 81, 82, 83, 84, 85, 86, 87, 68, 69, 70, 71, 72, 73, 74, 75, 76, 77] (by decide +kernel) (by decide +kernel)) (goodIn_sub (fun _ h => List.mem_cons_of_mem _ (List.mem_append_right _ h)) (by decide +kernel))) (goodIn_sub (fun _ h => List.mem_cons_of_mem _ (List.mem_append_left _ (List.mem_append_right _ h))) (by decide +kernel))
set_option maxRecDepth 20000 in
theorem gX2_add_X2_workspaceOf : GoodIn wsX2_add (wsV RX2 66 RX2 yX2_workspaceOf wsX2_workspaceOf) := goodIn_app (goodIn_of _ (by decide +kernel)) ggX2_add_X2_workspaceOf
set_option maxRecDepth 20000 in
theorem ggX2_add_X2_requireAlive : GoodIn wsX2_add wsX2_requireAlive := goodIn_ca (goodIn_r _ [27, 17, 18, 28, 29, 30, 31, 32, 33, 34, 10, 35, 88, 89, 90] (by decide +kernel) (by decide +kernel)) (goodIn_sub (fun _ h => List.mem_cons_of_mem _ (List.mem_append_right _ h)) (by decide +kernel))
set_option maxRecDepth 20000 in
theorem gX2_add_X2_requireAlive : GoodIn wsX2_add (va_wsS RX2 70 yX2_requireAlive wsX2_requireAlive) := goodIn_app (goodIn_of _ (by decide +kernel)) ggX2_add_X2_requireAlive
set_option maxRecDepth 20000 in
theorem ggX2_add_X2_requirePlace : GoodIn wsX2_add wsX2_requirePlace := goodIn_ca (goodIn_r _ [39, 1, 2, 40, 41, 42, 10, 43, 6, 44, 34, 35, 68, 69, 70, 71, 72, 73, 74, 75, 76, 77] (by decide +kernel) (by decide +kernel)) (goodIn_sub (fun _ h => List.mem_cons_of_mem _ (List.mem_append_left _ (List.mem_append_left _ (List.mem_append_right _ h)))) (by decide +kernel))
set_option maxRecDepth 20000 in
theorem gX2_add_X2_requirePlace : GoodIn wsX2_add (wsV RX2 74 RX2 yX2_requirePlace wsX2_requirePlace) := goodIn_app (goodIn_of _ (by decide +kernel)) ggX2_add_X2_requirePlace
set_option maxRecDepth 20000 in
theorem ggX2_add_X2_placeOf : GoodIn wsX2_add wsX2_placeOf := goodIn_r _ [47] (by decide +kernel) (by decide +kernel)
set_option maxRecDepth 20000 in
theorem gX2_add_X2_placeOf : GoodIn wsX2_add (va_wsS RX2 78 yX2_placeOf wsX2_placeOf) := goodIn_app (goodIn_of _ (by decide +kernel)) ggX2_add_X2_placeOf
set_option maxRecDepth 20000 in
theorem ggX2_add_X1_lowestAt : GoodIn wsX2_add wsX1_lowestAt := goodIn_r _ [51, 52, 29, 30, 31, 32, 33, 34, 10, 35, 53, 54, 55, 56, 57, 58, 59, 88, 89, 90] (by decide +kernel) (by decide +kernel)
set_option maxRecDepth 20000 in
theorem gX2_add_X1_lowestAt : GoodIn wsX2_add (wsV RX2 82 RX1 yX1_lowestAt wsX1_lowestAt) := goodIn_app (goodIn_of _ (by decide +kernel)) ggX2_add_X1_lowestAt
set_option maxRecDepth 20000 in
theorem ggX2_add_X1_plant : GoodIn wsX2_add wsX1_plant := goodIn_r _ [63, 33, 64, 65, 66, 31, 67, 57, 58, 10, 59, 88, 89, 90] (by decide +kernel) (by decide +kernel)
set_option maxRecDepth 20000 in
theorem gX2_add_X1_plant : GoodIn wsX2_add (wsV RX2 98 RX1 yX1_plant wsX1_plant) := goodIn_app (goodIn_of _ (by decide +kernel)) ggX2_add_X1_plant
set_option maxRecDepth 20000 in
theorem ggX2_drop_X2_workspaceOf : GoodIn wsX2_drop wsX2_workspaceOf := goodIn_ca (goodIn_ca (goodIn_r _ [7, 8, 9, 10, 11, 6, 12, 13, 14, 15, 16, 17, 18, 19, 20, 21, 22, 57, 58, 59, 60, 61, 62, 63, 64, 65, 66, 67, 68, 69, 70, 71, 72, 73, 74, 75, 76] (by decide +kernel) (by decide +kernel)) (goodIn_sub (fun _ h => List.mem_cons_of_mem _ (List.mem_append_left _ (List.mem_append_right _ h))) (by decide +kernel))) (goodIn_sub (fun _ h => List.mem_cons_of_mem _ (List.mem_append_right _ h)) (by decide +kernel))
set_option maxRecDepth 20000 in
theorem gX2_drop_X2_workspaceOf : GoodIn wsX2_drop (wsV RX2 66 RX2 yX2_workspaceOf wsX2_workspaceOf) := goodIn_app (goodIn_of _ (by decide +kernel)) ggX2_drop_X2_workspaceOf
set_option maxRecDepth 20000 in
theorem ggX2_drop_X2_requireAlive : GoodIn wsX2_drop wsX2_requireAlive := goodIn_ca (goodIn_r _ [25, 13, 14, 26, 27, 28, 29, 30, 31, 32, 6, 33, 77, 78, 79] (by decide +kernel) (by decide +kernel)) (goodIn_sub (fun _ h => List.mem_cons_of_mem _ (List.mem_append_left _ (List.mem_append_right _ h))) (by decide +kernel))
set_option maxRecDepth 20000 in
theorem gX2_drop_X2_requireAlive : GoodIn wsX2_drop (va_wsS RX2 70 yX2_requireAlive wsX2_requireAlive) := goodIn_app (goodIn_of _ (by decide +kernel)) ggX2_drop_X2_requireAlive
set_option maxRecDepth 20000 in
theorem ggX2_drop_X2_requireNotRoot : GoodIn wsX2_drop wsX2_requireNotRoot := goodIn_ca (goodIn_r _ [36, 1, 2] (by decide +kernel) (by decide +kernel)) (goodIn_sub (fun _ h => List.mem_cons_of_mem _ (List.mem_append_left _ (List.mem_append_left _ (List.mem_append_right _ h)))) (by decide +kernel))
set_option maxRecDepth 20000 in
theorem gX2_drop_X2_requireNotRoot : GoodIn wsX2_drop (va_wsS RX2 101 yX2_requireNotRoot wsX2_requireNotRoot) := goodIn_app (goodIn_of _ (by decide +kernel)) ggX2_drop_X2_requireNotRoot
set_option maxRecDepth 20000 in
theorem ggX2_drop_X1_isParent : GoodIn wsX2_drop wsX1_isParent := goodIn_r _ [40, 41, 27, 28, 29, 30, 31, 32, 6, 33, 42, 43, 44, 45, 46, 47, 48, 49, 50, 51, 52, 77, 78, 79] (by decide +kernel) (by decide +kernel)
set_option maxRecDepth 20000 in
theorem gX2_drop_X1_isParent : GoodIn wsX2_drop (wsV RX2 105 RX1 yX1_isParent wsX1_isParent) := goodIn_app (goodIn_of _ (by decide +kernel)) ggX2_drop_X1_isParent
set_option maxRecDepth 20000 in
theorem ggX2_drop_X1_takeOut : GoodIn wsX2_drop wsX1_takeOut := goodIn_r _ [56, 31, 77, 78, 79] (by decide +kernel) (by decide +kernel)
set_option maxRecDepth 20000 in
theorem gX2_drop_X1_takeOut : GoodIn wsX2_drop (wsV RX2 111 RX1 yX1_takeOut wsX1_takeOut) := goodIn_app (goodIn_of _ (by decide +kernel)) ggX2_drop_X1_takeOut
set_option maxRecDepth 20000 in
theorem ggX2_move_X2_workspaceOf : GoodIn wsX2_move wsX2_workspaceOf := goodIn_ca (goodIn_ca (goodIn_r _ [7, 8, 9, 10, 11, 6, 12, 13, 14, 15, 16, 17, 18, 19, 20, 21, 22, 74, 75, 76, 77, 78, 79, 80, 81, 82, 83, 84, 85, 86, 87, 88, 89, 90, 91, 92, 93] (by decide +kernel) (by decide +kernel)) (goodIn_sub (fun _ h => List.mem_cons_of_mem _ (List.mem_append_left _ (List.mem_append_right _ h))) (by decide +kernel))) (goodIn_sub (fun _ h => List.mem_cons_of_mem _ (List.mem_append_right _ h)) (by decide +kernel))
set_option maxRecDepth 20000 in
theorem gX2_move_X2_workspaceOf : GoodIn wsX2_move (wsV RX2 66 RX2 yX2_workspaceOf wsX2_workspaceOf) := goodIn_app (goodIn_of _ (by decide +kernel)) ggX2_move_X2_workspaceOf
set_option maxRecDepth 20000 in
theorem ggX2_move_X2_requireAlive : GoodIn wsX2_move wsX2_requireAlive := goodIn_ca (goodIn_r _ [25, 13, 14, 26, 27, 28, 29, 30, 31, 32, 6, 33, 94, 95, 96] (by decide +kernel) (by decide +kernel)) (goodIn_sub (fun _ h => List.mem_cons_of_mem _ (List.mem_append_left _ (List.mem_append_right _ h))) (by decide +kernel))
set_option maxRecDepth 20000 in
theorem gX2_move_X2_requireAlive : GoodIn wsX2_move (va_wsS RX2 70 yX2_requireAlive wsX2_requireAlive) := goodIn_app (goodIn_of _ (by decide +kernel)) ggX2_move_X2_requireAlive
set_option maxRecDepth 20000 in
theorem ggX2_move_X2_requireNotRoot : GoodIn wsX2_move wsX2_requireNotRoot := goodIn_ca (goodIn_r _ [36, 1, 2] (by decide +kernel) (by decide +kernel)) (goodIn_sub (fun _ h => List.mem_cons_of_mem _ (List.mem_append_left _ (List.mem_append_left _ (List.mem_append_right _ h)))) (by decide +kernel))
set_option maxRecDepth 20000 in
theorem gX2_move_X2_requireNotRoot : GoodIn wsX2_move (va_wsS RX2 101 yX2_requireNotRoot wsX2_requireNotRoot) := goodIn_app (goodIn_of _ (by decide +kernel)) ggX2_move_X2_requireNotRoot
set_option maxRecDepth 20000 in
theorem ggX2_move_X2_requirePlace : GoodIn wsX2_move wsX2_requirePlace := goodIn_ca (goodIn_r _ [40, 1, 2, 41, 42, 43, 6, 44, 45, 46, 32, 33, 84, 85, 86, 87, 88, 89, 90, 91, 92, 93] (by decide +kernel) (by decide +kernel)) (goodIn_sub (fun _ h => List.mem_cons_of_mem _ (List.mem_append_left _ (List.mem_append_left _ (List.mem_append_right _ h)))) (by decide +kernel))
set_option maxRecDepth 20000 in
theorem gX2_move_X2_requirePlace : GoodIn wsX2_move (wsV RX2 74 RX2 yX2_requirePlace wsX2_requirePlace) := goodIn_app (goodIn_of _ (by decide +kernel)) ggX2_move_X2_requirePlace
set_option maxRecDepth 20000 in
theorem ggX2_move_X2_placeOf : GoodIn wsX2_move wsX2_placeOf := goodIn_r _ [49] (by decide +kernel) (by decide +kernel)
set_option maxRecDepth 20000 in
theorem gX2_move_X2_placeOf : GoodIn wsX2_move (va_wsS RX2 78 yX2_placeOf wsX2_placeOf) := goodIn_app (goodIn_of _ (by decide +kernel)) ggX2_move_X2_placeOf
set_option maxRecDepth 20000 in
theorem ggX2_move_X1_lowestAt : GoodIn wsX2_move wsX1_lowestAt := goodIn_r _ [53, 54, 27, 28, 29, 30, 31, 32, 6, 33, 55, 56, 57, 58, 59, 60, 61, 94, 95, 96] (by decide +kernel) (by decide +kernel)
set_option maxRecDepth 20000 in
theorem gX2_move_X1_lowestAt : GoodIn wsX2_move (wsV RX2 82 RX1 yX1_lowestAt wsX1_lowestAt) := goodIn_app (goodIn_of _ (by decide +kernel)) ggX2_move_X1_lowestAt
set_option maxRecDepth 20000 in
theorem ggX2_move_X1_leadsTo : GoodIn wsX2_move wsX1_leadsTo := goodIn_r _ [65, 54, 27, 28, 29, 30, 31, 32, 6, 33, 66, 67, 68, 69, 55, 56, 57, 58, 59, 60, 61, 94, 95, 96] (by decide +kernel) (by decide +kernel)
set_option maxRecDepth 20000 in
theorem gX2_move_X1_leadsTo : GoodIn wsX2_move (wsV RX2 116 RX1 yX1_leadsTo wsX1_leadsTo) := goodIn_app (goodIn_of _ (by decide +kernel)) ggX2_move_X1_leadsTo
set_option maxRecDepth 20000 in
theorem ggX2_move_X1_setValue : GoodIn wsX2_move wsX1_setValue := goodIn_r _ [73, 59, 60, 6, 61, 94, 95, 96] (by decide +kernel) (by decide +kernel)
set_option maxRecDepth 20000 in
theorem gX2_move_X1_setValue : GoodIn wsX2_move (wsV RX2 122 RX1 yX1_setValue wsX1_setValue) := goodIn_app (goodIn_of _ (by decide +kernel)) ggX2_move_X1_setValue
set_option maxRecDepth 20000 in
theorem ggX2_write_X2_workspaceOf : GoodIn wsX2_write wsX2_workspaceOf := goodIn_ca (goodIn_ca (goodIn_r _ [7, 8, 9, 10, 11, 6, 12, 13, 14, 15, 16, 17, 18, 19, 20, 21, 22, 50, 51, 52, 53, 54, 55, 56, 57, 58, 59, 60, 61, 62, 63, 64, 65, 66, 67, 68, 69] (by decide +kernel) (by decide +kernel)) (goodIn_sub (fun _ h => List.mem_cons_of_mem _ (List.mem_append_left _ (List.mem_append_right _ h))) (by decide +kernel))) (goodIn_sub (fun _ h => List.mem_cons_of_mem _ (List.mem_append_right _ h)) (by decide +kernel))
set_option maxRecDepth 20000 in
theorem gX2_write_X2_workspaceOf : GoodIn wsX2_write (wsV RX2 66 RX2 yX2_workspaceOf wsX2_workspaceOf) := goodIn_app (goodIn_of _ (by decide +kernel)) ggX2_write_X2_workspaceOf
set_option maxRecDepth 20000 in
theorem ggX2_write_X2_requireAlive : GoodIn wsX2_write wsX2_requireAlive := goodIn_ca (goodIn_r _ [25, 13, 14, 26, 27, 28, 29, 30, 31, 32, 6, 33, 70, 71, 72] (by decide +kernel) (by decide +kernel)) (goodIn_sub (fun _ h => List.mem_cons_of_mem _ (List.mem_append_left _ (List.mem_append_right _ h))) (by decide +kernel))
set_option maxRecDepth 20000 in
theorem gX2_write_X2_requireAlive : GoodIn wsX2_write (va_wsS RX2 70 yX2_requireAlive wsX2_requireAlive) := goodIn_app (goodIn_of _ (by decide +kernel)) ggX2_write_X2_requireAlive
set_option maxRecDepth 20000 in
theorem ggX2_write_X2_requireNotRoot : GoodIn wsX2_write wsX2_requireNotRoot := goodIn_ca (goodIn_r _ [36, 1, 2] (by decide +kernel) (by decide +kernel)) (goodIn_sub (fun _ h => List.mem_cons_of_mem _ (List.mem_append_left _ (List.mem_append_left _ (List.mem_append_right _ h)))) (by decide +kernel))
set_option maxRecDepth 20000 in
theorem gX2_write_X2_requireNotRoot : GoodIn wsX2_write (va_wsS RX2 101 yX2_requireNotRoot wsX2_requireNotRoot) := goodIn_app (goodIn_of _ (by decide +kernel)) ggX2_write_X2_requireNotRoot
set_option maxRecDepth 20000 in
theorem ggX2_write_X2_isDirectory : GoodIn wsX2_write wsX2_isDirectory := goodIn_r _ [40, 41, 42, 32, 6, 33, 60, 61, 62, 63, 64, 65, 66, 67, 68, 69] (by decide +kernel) (by decide +kernel)
set_option maxRecDepth 20000 in
theorem gX2_write_X2_isDirectory : GoodIn wsX2_write (wsV RX2 128 RX2 yX2_isDirectory wsX2_isDirectory) := goodIn_app (goodIn_of _ (by decide +kernel)) ggX2_write_X2_isDirectory
set_option maxRecDepth 20000 in
theorem ggX2_write_X1_setValue : GoodIn wsX2_write wsX1_setValue := goodIn_r _ [46, 47, 48, 6, 49, 70, 71, 72] (by decide +kernel) (by decide +kernel)
set_option maxRecDepth 20000 in
theorem gX2_write_X1_setValue : GoodIn wsX2_write (wsV RX2 122 RX1 yX1_setValue wsX1_setValue) := goodIn_app (goodIn_of _ (by decide +kernel)) ggX2_write_X1_setValue
set_option maxRecDepth 20000 in
theorem ggX2_commit_X2_peerOf : GoodIn wsX2_commit wsX2_peerOf := goodIn_ca (goodIn_r _ [10, 11, 12, 13, 14, 87, 88, 89, 90, 91, 92, 93, 94, 95, 96] (by decide +kernel) (by decide +kernel)) (goodIn_sub (fun _ h => List.mem_cons_of_mem _ (List.mem_append_right _ h)) (by decide +kernel))
set_option maxRecDepth 20000 in
theorem gX2_commit_X2_peerOf : GoodIn wsX2_commit (wsV RX2 48 RX2 yX2_peerOf wsX2_peerOf) := goodIn_app (goodIn_of _ (by decide +kernel)) ggX2_commit_X2_peerOf
set_option maxRecDepth 20000 in
theorem ggX2_commit_X2_requireWorkspace : GoodIn wsX2_commit wsX2_requireWorkspace := goodIn_ca (goodIn_r _ [17, 1, 2, 3, 77, 78, 79, 80, 81, 82, 83, 84, 85, 86] (by decide +kernel) (by decide +kernel)) (goodIn_sub (fun _ h => List.mem_cons_of_mem _ (List.mem_append_left _ (List.mem_append_right _ h))) (by decide +kernel))
set_option maxRecDepth 20000 in
theorem gX2_commit_X2_requireWorkspace : GoodIn wsX2_commit (va_wsS RX2 133 yX2_requireWorkspace wsX2_requireWorkspace) := goodIn_app (goodIn_of _ (by decide +kernel)) ggX2_commit_X2_requireWorkspace
set_option maxRecDepth 20000 in
theorem ggX2_commit_X1_sameAs : GoodIn wsX2_commit wsX1_sameAs := goodIn_r _ [22, 23, 24, 25, 26, 21, 27, 28, 9, 29, 30, 31, 32, 33, 34, 35, 36, 97, 98, 99] (by decide +kernel) (by decide +kernel)
set_option maxRecDepth 20000 in
theorem gX2_commit_X1_sameAs : GoodIn wsX2_commit (wsV RX2 137 RX1 yX1_sameAs wsX1_sameAs) := goodIn_app (goodIn_of _ (by decide +kernel)) ggX2_commit_X1_sameAs
set_option maxRecDepth 20000 in
theorem ggX2_commit_X2_requireRoomForRevision : GoodIn wsX2_commit wsX2_requireRoomForRevision := goodIn_ca (goodIn_r _ [40, 1, 2, 41, 87, 88, 89, 90, 91, 92, 93, 94, 95, 96] (by decide +kernel) (by decide +kernel)) (goodIn_sub (fun _ h => List.mem_cons_of_mem _ (List.mem_append_left _ (List.mem_append_right _ h))) (by decide +kernel))
set_option maxRecDepth 20000 in
theorem gX2_commit_X2_requireRoomForRevision : GoodIn wsX2_commit (wsV RX2 143 RX2 yX2_requireRoomForRevision wsX2_requireRoomForRevision) := goodIn_app (goodIn_of _ (by decide +kernel)) ggX2_commit_X2_requireRoomForRevision
set_option maxRecDepth 20000 in
theorem ggX2_commit_X2_upTo : GoodIn wsX2_commit wsX2_upTo := goodIn_r _ [45, 46, 87, 88, 89, 90, 91, 92, 93, 94, 95, 96] (by decide +kernel) (by decide +kernel)
set_option maxRecDepth 20000 in
theorem gX2_commit_X2_upTo : GoodIn wsX2_commit (wsV RX2 146 RX2 yX2_upTo wsX2_upTo) := goodIn_app (goodIn_of _ (by decide +kernel)) ggX2_commit_X2_upTo
set_option maxRecDepth 20000 in
theorem ggX2_commit_X2_makeRevision : GoodIn wsX2_commit wsX2_makeRevision := goodIn_r _ [50, 41, 46, 5, 51, 52, 53, 54, 21, 55, 23, 34, 56, 57, 58, 59, 60, 87, 88, 89, 90, 91, 92, 93, 94, 95, 96, 77, 78, 79, 80, 81, 82, 83, 84, 85, 86, 97, 98, 99] (by decide +kernel) (by decide +kernel)
set_option maxRecDepth 20000 in
theorem gX2_commit_X2_makeRevision : GoodIn wsX2_commit (wsV RX2 150 RX2 yX2_makeRevision wsX2_makeRevision) := goodIn_app (goodIn_of _ (by decide +kernel)) ggX2_commit_X2_makeRevision
set_option maxRecDepth 20000 in
theorem ggX2_commit_X2_markChanges : GoodIn wsX2_commit wsX2_markChanges := goodIn_r _ [64, 5, 65, 66, 67, 25, 26, 21, 27, 23, 28, 9, 29, 68, 31, 32, 33, 34, 35, 36, 69, 70, 71, 72, 60, 73, 74, 75, 76, 87, 88, 89, 90, 91, 92, 93, 94, 95, 96, 97, 98, 99] (by decide +kernel) (by decide +kernel)
set_option maxRecDepth 20000 in
theorem gX2_commit_X2_markChanges : GoodIn wsX2_commit (wsV RX2 154 RX2 yX2_markChanges wsX2_markChanges) := goodIn_app (goodIn_of _ (by decide +kernel)) ggX2_commit_X2_markChanges
set_option maxRecDepth 20000 in
theorem ggX2_decide_X2_peerOf : GoodIn wsX2_decide wsX2_peerOf := goodIn_ca (goodIn_r _ [8, 9, 10, 11, 12, 37, 38, 39, 40, 41, 42, 43, 44, 45, 46] (by decide +kernel) (by decide +kernel)) (goodIn_sub (fun _ h => List.mem_cons_of_mem _ (List.mem_append_right _ h)) (by decide +kernel))
set_option maxRecDepth 20000 in
theorem gX2_decide_X2_peerOf : GoodIn wsX2_decide (wsV RX2 48 RX2 yX2_peerOf wsX2_peerOf) := goodIn_app (goodIn_of _ (by decide +kernel)) ggX2_decide_X2_peerOf
set_option maxRecDepth 20000 in
theorem ggX2_decide_X2_requireAdded : GoodIn wsX2_decide wsX2_requireAdded := goodIn_ca (goodIn_r _ [16, 9, 10, 17, 37, 38, 39, 40, 41, 42, 43, 44, 45, 46] (by decide +kernel) (by decide +kernel)) (goodIn_sub (fun _ h => List.mem_cons_of_mem _ (List.mem_append_right _ h)) (by decide +kernel))
set_option maxRecDepth 20000 in
theorem gX2_decide_X2_requireAdded : GoodIn wsX2_decide (wsV RX2 157 RX2 yX2_requireAdded wsX2_requireAdded) := goodIn_app (goodIn_of _ (by decide +kernel)) ggX2_decide_X2_requireAdded
set_option maxRecDepth 20000 in
theorem ggX2_decide_X2_requireNotRoot : GoodIn wsX2_decide wsX2_requireNotRoot := goodIn_ca (goodIn_r _ [20, 1, 2] (by decide +kernel) (by decide +kernel)) (goodIn_sub (fun _ h => List.mem_cons_of_mem _ (List.mem_append_left _ (List.mem_append_right _ h))) (by decide +kernel))
set_option maxRecDepth 20000 in
theorem gX2_decide_X2_requireNotRoot : GoodIn wsX2_decide (va_wsS RX2 101 yX2_requireNotRoot wsX2_requireNotRoot) := goodIn_app (goodIn_of _ (by decide +kernel)) ggX2_decide_X2_requireNotRoot
set_option maxRecDepth 20000 in
theorem ggX2_decide_X2_requireScalar : GoodIn wsX2_decide wsX2_requireScalar := goodIn_ca (goodIn_r _ [23, 1, 2] (by decide +kernel) (by decide +kernel)) (goodIn_sub (fun _ h => List.mem_cons_of_mem _ (List.mem_append_left _ (List.mem_append_right _ h))) (by decide +kernel))
set_option maxRecDepth 20000 in
theorem gX2_decide_X2_requireScalar : GoodIn wsX2_decide (va_wsS RX2 160 yX2_requireScalar wsX2_requireScalar) := goodIn_app (goodIn_of _ (by decide +kernel)) ggX2_decide_X2_requireScalar
set_option maxRecDepth 20000 in
theorem ggX2_decide_X2_slot : GoodIn wsX2_decide wsX2_slot := goodIn_r _ [26] (by decide +kernel) (by decide +kernel)
set_option maxRecDepth 20000 in
theorem gX2_decide_X2_slot : GoodIn wsX2_decide (va_wsS RX2 168 yX2_slot wsX2_slot) := goodIn_app (goodIn_of _ (by decide +kernel)) ggX2_decide_X2_slot
set_option maxRecDepth 20000 in
theorem ggX2_bury_X2_peerOf : GoodIn wsX2_bury wsX2_peerOf := goodIn_ca (goodIn_r _ [6, 7, 8, 9, 10, 31, 32, 33, 34, 35, 36, 37, 38, 39, 40] (by decide +kernel) (by decide +kernel)) (goodIn_sub (fun _ h => List.mem_cons_of_mem _ (List.mem_append_left _ (List.mem_append_right _ h))) (by decide +kernel))
set_option maxRecDepth 20000 in
theorem gX2_bury_X2_peerOf : GoodIn wsX2_bury (wsV RX2 48 RX2 yX2_peerOf wsX2_peerOf) := goodIn_app (goodIn_of _ (by decide +kernel)) ggX2_bury_X2_peerOf
set_option maxRecDepth 20000 in
theorem ggX2_bury_X2_requireAdded : GoodIn wsX2_bury wsX2_requireAdded := goodIn_ca (goodIn_r _ [14, 7, 8, 15, 31, 32, 33, 34, 35, 36, 37, 38, 39, 40] (by decide +kernel) (by decide +kernel)) (goodIn_sub (fun _ h => List.mem_cons_of_mem _ (List.mem_append_left _ (List.mem_append_right _ h))) (by decide +kernel))
set_option maxRecDepth 20000 in
theorem gX2_bury_X2_requireAdded : GoodIn wsX2_bury (wsV RX2 157 RX2 yX2_requireAdded wsX2_requireAdded) := goodIn_app (goodIn_of _ (by decide +kernel)) ggX2_bury_X2_requireAdded
set_option maxRecDepth 20000 in
theorem ggX2_bury_X2_requireNotRoot : GoodIn wsX2_bury wsX2_requireNotRoot := goodIn_ca (goodIn_r _ [18, 19, 20] (by decide +kernel) (by decide +kernel)) (goodIn_sub (fun _ h => List.mem_cons_of_mem _ (List.mem_append_right _ h)) (by decide +kernel))
set_option maxRecDepth 20000 in
theorem gX2_bury_X2_requireNotRoot : GoodIn wsX2_bury (va_wsS RX2 101 yX2_requireNotRoot wsX2_requireNotRoot) := goodIn_app (goodIn_of _ (by decide +kernel)) ggX2_bury_X2_requireNotRoot
set_option maxRecDepth 20000 in
theorem ggX2_merge_X2_peerOf : GoodIn wsX2_merge wsX2_peerOf := goodIn_ca (goodIn_r _ [9, 10, 11, 12, 13, 170, 171, 172, 173, 174, 175, 176, 177, 178, 179] (by decide +kernel) (by decide +kernel)) (goodIn_sub (fun _ h => List.mem_cons_of_mem _ (List.mem_append_left _ (List.mem_append_right _ h))) (by decide +kernel))
set_option maxRecDepth 20000 in
theorem gX2_merge_X2_peerOf : GoodIn wsX2_merge (wsV RX2 48 RX2 yX2_peerOf wsX2_peerOf) := goodIn_app (goodIn_of _ (by decide +kernel)) ggX2_merge_X2_peerOf
set_option maxRecDepth 20000 in
theorem ggX2_merge_X2_requireHeld : GoodIn wsX2_merge wsX2_requireHeld := goodIn_ca (goodIn_r _ [17, 10, 11, 18, 19, 20, 21, 8, 22, 23, 24, 25, 26, 160, 161, 162, 163, 164, 165, 166, 167, 168, 169, 170, 171, 172, 173, 174, 175, 176, 177, 178, 179] (by decide +kernel) (by decide +kernel)) (goodIn_sub (fun _ h => List.mem_cons_of_mem _ (List.mem_append_left _ (List.mem_append_right _ h))) (by decide +kernel))
set_option maxRecDepth 20000 in
theorem gX2_merge_X2_requireHeld : GoodIn wsX2_merge (wsV RX2 52 RX2 yX2_requireHeld wsX2_requireHeld) := goodIn_app (goodIn_of _ (by decide +kernel)) ggX2_merge_X2_requireHeld
set_option maxRecDepth 20000 in
theorem ggX2_merge_X2_upTo : GoodIn wsX2_merge wsX2_upTo := goodIn_r _ [30, 31, 170, 171, 172, 173, 174, 175, 176, 177, 178, 179] (by decide +kernel) (by decide +kernel)
set_option maxRecDepth 20000 in
theorem gX2_merge_X2_upTo : GoodIn wsX2_merge (wsV RX2 146 RX2 yX2_upTo wsX2_upTo) := goodIn_app (goodIn_of _ (by decide +kernel)) ggX2_merge_X2_upTo
set_option maxRecDepth 20000 in
theorem ggX2_merge_X2_isIn : GoodIn wsX2_merge wsX2_isIn := goodIn_r _ [26] (by decide +kernel) (by decide +kernel)
set_option maxRecDepth 20000 in
theorem gX2_merge_X2_isIn : GoodIn wsX2_merge (va_wsS RX2 174 yX2_isIn wsX2_isIn) := goodIn_app (goodIn_of _ (by decide +kernel)) ggX2_merge_X2_isIn
set_option maxRecDepth 20000 in
theorem ggX2_merge_X2_requireRoomForRevision : GoodIn wsX2_merge wsX2_requireRoomForRevision := goodIn_ca (goodIn_r _ [35, 36, 37, 23, 170, 171, 172, 173, 174, 175, 176, 177, 178, 179] (by decide +kernel) (by decide +kernel)) (goodIn_sub (fun _ h => List.mem_cons_of_mem _ (List.mem_append_right _ h)) (by decide +kernel))
set_option maxRecDepth 20000 in
theorem gX2_merge_X2_requireRoomForRevision : GoodIn wsX2_merge (wsV RX2 143 RX2 yX2_requireRoomForRevision wsX2_requireRoomForRevision) := goodIn_app (goodIn_of _ (by decide +kernel)) ggX2_merge_X2_requireRoomForRevision
set_option maxRecDepth 20000 in
theorem ggX2_merge_X2_mergeTrees : GoodIn wsX2_merge wsX2_mergeTrees := goodIn_r _ [41, 4, 42, 43, 44, 45, 46, 47, 48, 49, 50, 51, 52, 24, 25, 8, 26, 53, 54, 55, 56, 57, 58, 59, 60, 61, 62, 63, 64, 65, 66, 67, 68, 69, 70, 71, 72, 73, 74, 75, 76, 77, 78, 79, 80, 81, 82, 83, 84, 85, 86, 27, 28, 29, 30, 31, 87, 88, 89, 90, 91, 92, 23, 93, 94, 95, 96, 97, 98, 99, 100, 101, 102, 103, 104, 105, 106, 107, 170, 171, 172, 173, 174, 175, 176, 177, 178, 179, 160, 161, 162, 163, 164, 165, 166, 167, 168, 169, 180, 181, 182] (by decide +kernel) (by decide +kernel)
set_option maxRecDepth 20000 in
theorem gX2_merge_X2_mergeTrees : GoodIn wsX2_merge (wsV RX2 180 RX2 yX2_mergeTrees wsX2_mergeTrees) := goodIn_app (goodIn_of _ (by decide +kernel)) ggX2_merge_X2_mergeTrees
set_option maxRecDepth 20000 in
theorem ggX2_merge_X2_listConflicts : GoodIn wsX2_merge wsX2_listConflicts := goodIn_r _ [111, 3, 43, 4, 42, 53, 54, 55, 50, 56, 52, 25, 8, 26, 87, 71, 72, 24, 112, 113, 114, 115, 116, 117, 118, 119, 120, 121, 122, 123, 124, 125, 126, 127, 105, 79, 80, 81, 70, 78, 128, 129, 130, 131, 132, 133, 134, 135, 136, 137, 160, 161, 162, 163, 164, 165, 166, 167, 168, 169, 170, 171, 172, 173, 174, 175, 176, 177, 178, 179, 180, 181, 182] (by decide +kernel) (by decide +kernel)
set_option maxRecDepth 20000 in
theorem gX2_merge_X2_listConflicts : GoodIn wsX2_merge (wsV RX2 184 RX2 yX2_listConflicts wsX2_listConflicts) := goodIn_app (goodIn_of _ (by decide +kernel)) ggX2_merge_X2_listConflicts
set_option maxRecDepth 20000 in
theorem ggX2_merge_X0_forgetDecisions : GoodIn wsX2_merge wsX0_forgetDecisions := goodIn_r _ [141, 142, 143, 144, 145, 146, 147, 160, 161, 162, 163, 164, 165, 166, 167, 168, 169] (by decide +kernel) (by decide +kernel)
set_option maxRecDepth 20000 in
theorem gX2_merge_X0_forgetDecisions : GoodIn wsX2_merge (wsV RX2 190 RX0 yX0_forgetDecisions wsX0_forgetDecisions) := goodIn_app (goodIn_of _ (by decide +kernel)) ggX2_merge_X0_forgetDecisions
