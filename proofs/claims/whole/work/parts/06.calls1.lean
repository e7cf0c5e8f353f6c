set_option maxRecDepth 20000 in
theorem ggX2_merge_X2_makeRevision : GoodIn wsX2_merge wsX2_makeRevision := goodIn_r _ [151, 23, 31, 45, 18, 152, 153, 154, 50, 155, 52, 70, 156, 157, 158, 159, 86, 170, 171, 172, 173, 174, 175, 176, 177, 178, 179, 160, 161, 162, 163, 164, 165, 166, 167, 168, 169, 180, 181, 182] (by decide +kernel) (by decide +kernel)
set_option maxRecDepth 20000 in
theorem gX2_merge_X2_makeRevision : GoodIn wsX2_merge (wsV RX2 150 RX2 yX2_makeRevision wsX2_makeRevision) := goodIn_app (goodIn_of _ (by decide +kernel)) ggX2_merge_X2_makeRevision
set_option maxRecDepth 20000 in
theorem ggX2_conflict_X2_peerOf : GoodIn wsX2_conflict wsX2_peerOf := goodIn_ca (goodIn_r _ [10, 11, 12, 13, 14, 25, 26, 27, 28, 29, 30, 31, 32, 33, 34] (by decide +kernel) (by decide +kernel)) (goodIn_sub (fun _ h => List.mem_cons_of_mem _ (List.mem_append_right _ h)) (by decide +kernel))
set_option maxRecDepth 20000 in
theorem gX2_conflict_X2_peerOf : GoodIn wsX2_conflict (wsV RX2 48 RX2 yX2_peerOf wsX2_peerOf) := goodIn_app (goodIn_of _ (by decide +kernel)) ggX2_conflict_X2_peerOf
set_option maxRecDepth 20000 in
theorem ggX2_about_X2_requireRevision : GoodIn wsX2_about wsX2_requireRevision := goodIn_ca (goodIn_r _ [9, 10, 11, 12, 46, 47, 48, 49, 50, 51, 52, 53, 54, 55] (by decide +kernel) (by decide +kernel)) (goodIn_sub (fun _ h => List.mem_cons_of_mem _ (List.mem_append_right _ h)) (by decide +kernel))
set_option maxRecDepth 20000 in
theorem gX2_about_X2_requireRevision : GoodIn wsX2_about (wsV RX2 203 RX2 yX2_requireRevision wsX2_requireRevision) := goodIn_app (goodIn_of _ (by decide +kernel)) ggX2_about_X2_requireRevision
set_option maxRecDepth 20000 in
theorem ggX2_about_X2_requireAlive : GoodIn wsX2_about wsX2_requireAlive := goodIn_ca (goodIn_r _ [15, 10, 11, 16, 17, 18, 19, 20, 21, 22, 8, 23, 56, 57, 58] (by decide +kernel) (by decide +kernel)) (goodIn_sub (fun _ h => List.mem_cons_of_mem _ (List.mem_append_right _ h)) (by decide +kernel))
set_option maxRecDepth 20000 in
theorem gX2_about_X2_requireAlive : GoodIn wsX2_about (va_wsS RX2 70 yX2_requireAlive wsX2_requireAlive) := goodIn_app (goodIn_of _ (by decide +kernel)) ggX2_about_X2_requireAlive
set_option maxRecDepth 20000 in
theorem ggX2_about_X1_parentOf : GoodIn wsX2_about wsX1_parentOf := goodIn_r _ [27, 28, 29, 30, 19, 31, 32, 33, 8, 34, 56, 57, 58] (by decide +kernel) (by decide +kernel)
set_option maxRecDepth 20000 in
theorem gX2_about_X1_parentOf : GoodIn wsX2_about (wsV RX2 206 RX1 yX1_parentOf wsX1_parentOf) := goodIn_app (goodIn_of _ (by decide +kernel)) ggX2_about_X1_parentOf
set_option maxRecDepth 20000 in
theorem ggX2_about_X1_nameOf : GoodIn wsX2_about wsX1_nameOf := goodIn_r _ [38, 28, 29, 30, 19, 31, 32, 33, 8, 34, 56, 57, 58] (by decide +kernel) (by decide +kernel)
set_option maxRecDepth 20000 in
theorem gX2_about_X1_nameOf : GoodIn wsX2_about (wsV RX2 209 RX1 yX1_nameOf wsX1_nameOf) := goodIn_app (goodIn_of _ (by decide +kernel)) ggX2_about_X1_nameOf
set_option maxRecDepth 20000 in
theorem ggX2_about_X1_valueOf : GoodIn wsX2_about wsX1_valueOf := goodIn_r _ [31, 32, 33, 8, 34, 56, 57, 58] (by decide +kernel) (by decide +kernel)
set_option maxRecDepth 20000 in
theorem gX2_about_X1_valueOf : GoodIn wsX2_about (wsV RX2 212 RX1 yX1_valueOf wsX1_valueOf) := goodIn_app (goodIn_of _ (by decide +kernel)) ggX2_about_X1_valueOf
set_option maxRecDepth 20000 in
theorem ggX2_about_X2_isDirectory : GoodIn wsX2_about wsX2_isDirectory := goodIn_r _ [43, 44, 45, 22, 8, 23, 46, 47, 48, 49, 50, 51, 52, 53, 54, 55] (by decide +kernel) (by decide +kernel)
set_option maxRecDepth 20000 in
theorem gX2_about_X2_isDirectory : GoodIn wsX2_about (wsV RX2 128 RX2 yX2_isDirectory wsX2_isDirectory) := goodIn_app (goodIn_of _ (by decide +kernel)) ggX2_about_X2_isDirectory
set_option maxRecDepth 20000 in
theorem ggX2_marks_X2_requireRevision : GoodIn wsX2_marks wsX2_requireRevision := goodIn_ca (goodIn_r _ [6, 7, 8, 9, 36, 37, 38, 39, 40, 41, 42, 43, 44, 45] (by decide +kernel) (by decide +kernel)) (goodIn_sub (fun _ h => List.mem_cons_of_mem _ (List.mem_append_left _ (List.mem_append_right _ h))) (by decide +kernel))
set_option maxRecDepth 20000 in
theorem gX2_marks_X2_requireRevision : GoodIn wsX2_marks (wsV RX2 203 RX2 yX2_requireRevision wsX2_requireRevision) := goodIn_app (goodIn_of _ (by decide +kernel)) ggX2_marks_X2_requireRevision
set_option maxRecDepth 20000 in
theorem ggX2_marks_X2_requireAlive : GoodIn wsX2_marks wsX2_requireAlive := goodIn_ca (goodIn_r _ [12, 7, 8, 13, 14, 15, 16, 17, 18, 19, 5, 20, 46, 47, 48] (by decide +kernel) (by decide +kernel)) (goodIn_sub (fun _ h => List.mem_cons_of_mem _ (List.mem_append_left _ (List.mem_append_right _ h))) (by decide +kernel))
set_option maxRecDepth 20000 in
theorem gX2_marks_X2_requireAlive : GoodIn wsX2_marks (va_wsS RX2 70 yX2_requireAlive wsX2_requireAlive) := goodIn_app (goodIn_of _ (by decide +kernel)) ggX2_marks_X2_requireAlive
set_option maxRecDepth 20000 in
theorem ggX2_marks_X2_requireNotRoot : GoodIn wsX2_marks wsX2_requireNotRoot := goodIn_ca (goodIn_r _ [23, 24, 25] (by decide +kernel) (by decide +kernel)) (goodIn_sub (fun _ h => List.mem_cons_of_mem _ (List.mem_append_right _ h)) (by decide +kernel))
set_option maxRecDepth 20000 in
theorem gX2_marks_X2_requireNotRoot : GoodIn wsX2_marks (va_wsS RX2 101 yX2_requireNotRoot wsX2_requireNotRoot) := goodIn_app (goodIn_of _ (by decide +kernel)) ggX2_marks_X2_requireNotRoot
set_option maxRecDepth 20000 in
theorem ggX2_marks_X2_requireScalar : GoodIn wsX2_marks wsX2_requireScalar := goodIn_ca (goodIn_r _ [28, 24, 25] (by decide +kernel) (by decide +kernel)) (goodIn_sub (fun _ h => List.mem_cons_of_mem _ (List.mem_append_right _ h)) (by decide +kernel))
set_option maxRecDepth 20000 in
theorem gX2_marks_X2_requireScalar : GoodIn wsX2_marks (va_wsS RX2 160 yX2_requireScalar wsX2_requireScalar) := goodIn_app (goodIn_of _ (by decide +kernel)) ggX2_marks_X2_requireScalar
set_option maxRecDepth 20000 in
theorem ggX2_marks_X1_marksOf : GoodIn wsX2_marks wsX1_marksOf := goodIn_r _ [32, 33, 34, 5, 35, 46, 47, 48] (by decide +kernel) (by decide +kernel)
set_option maxRecDepth 20000 in
theorem gX2_marks_X1_marksOf : GoodIn wsX2_marks (wsV RX2 217 RX1 yX1_marksOf wsX1_marksOf) := goodIn_app (goodIn_of _ (by decide +kernel)) ggX2_marks_X1_marksOf
set_option maxRecDepth 20000 in
theorem ggX2_nodes_X2_peerOf : GoodIn wsX2_nodes wsX2_peerOf := goodIn_ca (goodIn_r _ [9, 10, 11, 12, 13, 40, 41, 42, 43, 44, 45, 46, 47, 48, 49] (by decide +kernel) (by decide +kernel)) (goodIn_sub (fun _ h => List.mem_cons_of_mem _ (List.mem_append_right _ h)) (by decide +kernel))
set_option maxRecDepth 20000 in
theorem gX2_nodes_X2_peerOf : GoodIn wsX2_nodes (wsV RX2 48 RX2 yX2_peerOf wsX2_peerOf) := goodIn_app (goodIn_of _ (by decide +kernel)) ggX2_nodes_X2_peerOf
set_option maxRecDepth 20000 in
theorem ggX2_nodes_X2_requireHeld : GoodIn wsX2_nodes wsX2_requireHeld := goodIn_ca (goodIn_r _ [17, 10, 11, 18, 19, 20, 21, 8, 22, 23, 24, 25, 26, 27, 28, 29, 30, 31, 32, 33, 34, 35, 36, 40, 41, 42, 43, 44, 45, 46, 47, 48, 49] (by decide +kernel) (by decide +kernel)) (goodIn_sub (fun _ h => List.mem_cons_of_mem _ (List.mem_append_right _ h)) (by decide +kernel))
set_option maxRecDepth 20000 in
theorem gX2_nodes_X2_requireHeld : GoodIn wsX2_nodes (wsV RX2 52 RX2 yX2_requireHeld wsX2_requireHeld) := goodIn_app (goodIn_of _ (by decide +kernel)) ggX2_nodes_X2_requireHeld
set_option maxRecDepth 20000 in
theorem ggX2_ancestors_X2_requireRevision : GoodIn wsX2_ancestors wsX2_requireRevision := goodIn_ca (goodIn_r _ [6, 7, 8, 9, 10, 11, 12, 13, 14, 15, 16, 17, 18, 19] (by decide +kernel) (by decide +kernel)) (goodIn_sub (fun _ h => List.mem_cons_of_mem _ (List.mem_append_right _ h)) (by decide +kernel))
set_option maxRecDepth 20000 in
theorem gX2_ancestors_X2_requireRevision : GoodIn wsX2_ancestors (wsV RX2 203 RX2 yX2_requireRevision wsX2_requireRevision) := goodIn_app (goodIn_of _ (by decide +kernel)) ggX2_ancestors_X2_requireRevision
set_option maxRecDepth 20000 in
theorem ggX2_certify_X2_peerOf : GoodIn wsX2_certify wsX2_peerOf := goodIn_ca (goodIn_r _ [6, 7, 8, 9, 10, 43, 44, 45, 46, 47, 48, 49, 50, 51, 52] (by decide +kernel) (by decide +kernel)) (goodIn_sub (fun _ h => List.mem_cons_of_mem _ (List.mem_append_right _ h)) (by decide +kernel))
set_option maxRecDepth 20000 in
theorem gX2_certify_X2_peerOf : GoodIn wsX2_certify (wsV RX2 48 RX2 yX2_peerOf wsX2_peerOf) := goodIn_app (goodIn_of _ (by decide +kernel)) ggX2_certify_X2_peerOf
set_option maxRecDepth 20000 in
theorem ggX2_certify_X2_requireHeld : GoodIn wsX2_certify wsX2_requireHeld := goodIn_ca (goodIn_r _ [14, 7, 8, 15, 16, 17, 18, 5, 19, 20, 21, 22, 23, 33, 34, 35, 36, 37, 38, 39, 40, 41, 42, 43, 44, 45, 46, 47, 48, 49, 50, 51, 52] (by decide +kernel) (by decide +kernel)) (goodIn_sub (fun _ h => List.mem_cons_of_mem _ (List.mem_append_right _ h)) (by decide +kernel))
set_option maxRecDepth 20000 in
theorem gX2_certify_X2_requireHeld : GoodIn wsX2_certify (wsV RX2 52 RX2 yX2_requireHeld wsX2_requireHeld) := goodIn_app (goodIn_of _ (by decide +kernel)) ggX2_certify_X2_requireHeld
set_option maxRecDepth 20000 in
theorem ggX2_certify_X2_requireKey : GoodIn wsX2_certify wsX2_requireKey := goodIn_ca (goodIn_r _ [26, 7, 8] (by decide +kernel) (by decide +kernel)) (goodIn_sub (fun _ h => List.mem_cons_of_mem _ (List.mem_append_right _ h)) (by decide +kernel))
set_option maxRecDepth 20000 in
theorem gX2_certify_X2_requireKey : GoodIn wsX2_certify (va_wsS RX2 224 yX2_requireKey wsX2_requireKey) := goodIn_app (goodIn_of _ (by decide +kernel)) ggX2_certify_X2_requireKey
set_option maxRecDepth 20000 in
theorem ggX2_certify_X2_requireBranch : GoodIn wsX2_certify wsX2_requireBranch := goodIn_ca (goodIn_r _ [29, 7, 8] (by decide +kernel) (by decide +kernel)) (goodIn_sub (fun _ h => List.mem_cons_of_mem _ (List.mem_append_right _ h)) (by decide +kernel))
set_option maxRecDepth 20000 in
theorem gX2_certify_X2_requireBranch : GoodIn wsX2_certify (va_wsS RX2 227 yX2_requireBranch wsX2_requireBranch) := goodIn_app (goodIn_of _ (by decide +kernel)) ggX2_certify_X2_requireBranch
set_option maxRecDepth 20000 in
theorem ggX2_certify_X2_certificateKind : GoodIn wsX2_certify wsX2_certificateKind := goodIn_r _ [32] (by decide +kernel) (by decide +kernel)
set_option maxRecDepth 20000 in
theorem gX2_certify_X2_certificateKind : GoodIn wsX2_certify (va_wsS RX2 230 yX2_certificateKind wsX2_certificateKind) := goodIn_app (goodIn_of _ (by decide +kernel)) ggX2_certify_X2_certificateKind
set_option maxRecDepth 20000 in
theorem ggX2_certify_X2_isIn : GoodIn wsX2_certify wsX2_isIn := goodIn_r _ [23] (by decide +kernel) (by decide +kernel)
set_option maxRecDepth 20000 in
theorem gX2_certify_X2_isIn : GoodIn wsX2_certify (va_wsS RX2 174 yX2_isIn wsX2_isIn) := goodIn_app (goodIn_of _ (by decide +kernel)) ggX2_certify_X2_isIn
set_option maxRecDepth 20000 in
theorem ggX2_trust_X2_peerOf : GoodIn wsX2_trust wsX2_peerOf := goodIn_ca (goodIn_r _ [6, 7, 8, 9, 10, 32, 33, 34, 35, 36, 37, 38, 39, 40, 41] (by decide +kernel) (by decide +kernel)) (goodIn_sub (fun _ h => List.mem_cons_of_mem _ (List.mem_append_right _ h)) (by decide +kernel))
set_option maxRecDepth 20000 in
theorem gX2_trust_X2_peerOf : GoodIn wsX2_trust (wsV RX2 48 RX2 yX2_peerOf wsX2_peerOf) := goodIn_app (goodIn_of _ (by decide +kernel)) ggX2_trust_X2_peerOf
set_option maxRecDepth 20000 in
theorem ggX2_trust_X2_requireKey : GoodIn wsX2_trust wsX2_requireKey := goodIn_ca (goodIn_r _ [13, 7, 8] (by decide +kernel) (by decide +kernel)) (goodIn_sub (fun _ h => List.mem_cons_of_mem _ (List.mem_append_right _ h)) (by decide +kernel))
set_option maxRecDepth 20000 in
theorem gX2_trust_X2_requireKey : GoodIn wsX2_trust (va_wsS RX2 224 yX2_requireKey wsX2_requireKey) := goodIn_app (goodIn_of _ (by decide +kernel)) ggX2_trust_X2_requireKey
set_option maxRecDepth 20000 in
theorem ggX2_trust_X0_trusts : GoodIn wsX2_trust wsX0_trusts := goodIn_r _ [18, 19, 20, 5, 21, 22, 23, 24, 25, 26, 27, 28, 29, 30, 31] (by decide +kernel) (by decide +kernel)
set_option maxRecDepth 20000 in
theorem gX2_trust_X0_trusts : GoodIn wsX2_trust (wsV RX2 236 RX0 yX0_trusts wsX0_trusts) := goodIn_app (goodIn_of _ (by decide +kernel)) ggX2_trust_X0_trusts
set_option maxRecDepth 20000 in
theorem ggX2_heads_X2_peerOf : GoodIn wsX2_heads wsX2_peerOf := goodIn_ca (goodIn_r _ [5, 6, 7, 8, 9, 36, 37, 38, 39, 40, 41, 42, 43, 44, 45] (by decide +kernel) (by decide +kernel)) (goodIn_sub (fun _ h => List.mem_cons_of_mem _ (List.mem_append_right _ h)) (by decide +kernel))
set_option maxRecDepth 20000 in
theorem gX2_heads_X2_peerOf : GoodIn wsX2_heads (wsV RX2 48 RX2 yX2_peerOf wsX2_peerOf) := goodIn_app (goodIn_of _ (by decide +kernel)) ggX2_heads_X2_peerOf
set_option maxRecDepth 20000 in
theorem ggX2_heads_X2_requireBranch : GoodIn wsX2_heads wsX2_requireBranch := goodIn_ca (goodIn_r _ [12, 6, 7] (by decide +kernel) (by decide +kernel)) (goodIn_sub (fun _ h => List.mem_cons_of_mem _ (List.mem_append_right _ h)) (by decide +kernel))
set_option maxRecDepth 20000 in
theorem gX2_heads_X2_requireBranch : GoodIn wsX2_heads (va_wsS RX2 227 yX2_requireBranch wsX2_requireBranch) := goodIn_app (goodIn_of _ (by decide +kernel)) ggX2_heads_X2_requireBranch
set_option maxRecDepth 20000 in
theorem ggX2_heads_X0_membersOf : GoodIn wsX2_heads wsX0_membersOf := goodIn_r _ [17, 18, 19, 20, 21, 16, 22, 23, 24, 4, 25, 26, 27, 46, 47, 48, 49, 50, 51, 52, 53, 54, 55] (by decide +kernel) (by decide +kernel)
set_option maxRecDepth 20000 in
theorem gX2_heads_X0_membersOf : GoodIn wsX2_heads (wsV RX2 242 RX0 yX0_membersOf wsX0_membersOf) := goodIn_app (goodIn_of _ (by decide +kernel)) ggX2_heads_X0_membersOf
set_option maxRecDepth 20000 in
theorem ggX2_heads_X2_latestOf : GoodIn wsX2_heads wsX2_latestOf := goodIn_r _ [31, 32, 33, 34, 35, 24, 4, 25, 36, 37, 38, 39, 40, 41, 42, 43, 44, 45] (by decide +kernel) (by decide +kernel)
set_option maxRecDepth 20000 in
theorem gX2_heads_X2_latestOf : GoodIn wsX2_heads (wsV RX2 245 RX2 yX2_latestOf wsX2_latestOf) := goodIn_app (goodIn_of _ (by decide +kernel)) ggX2_heads_X2_latestOf
set_option maxRecDepth 20000 in
theorem ggX2_exchange_X2_requireBranch : GoodIn wsX2_exchange wsX2_requireBranch := goodIn_ca (goodIn_r _ [6, 7, 8] (by decide +kernel) (by decide +kernel)) (goodIn_sub (fun _ h => List.mem_cons_of_mem _ (List.mem_append_right _ h)) (by decide +kernel))
set_option maxRecDepth 20000 in
theorem gX2_exchange_X2_requireBranch : GoodIn wsX2_exchange (va_wsS RX2 227 yX2_requireBranch wsX2_requireBranch) := goodIn_app (goodIn_of _ (by decide +kernel)) ggX2_exchange_X2_requireBranch
set_option maxRecDepth 20000 in
theorem ggX2_exchange_X0_membersOf : GoodIn wsX2_exchange wsX0_membersOf := goodIn_r _ [13, 14, 15, 16, 17, 12, 18, 19, 20, 5, 21, 22, 23, 54, 55, 56, 57, 58, 59, 60, 61, 62, 63] (by decide +kernel) (by decide +kernel)
set_option maxRecDepth 20000 in
theorem gX2_exchange_X0_membersOf : GoodIn wsX2_exchange (wsV RX2 242 RX0 yX0_membersOf wsX0_membersOf) := goodIn_app (goodIn_of _ (by decide +kernel)) ggX2_exchange_X0_membersOf
set_option maxRecDepth 20000 in
theorem ggX2_exchange_X2_withAncestors : GoodIn wsX2_exchange wsX2_withAncestors := goodIn_r _ [27, 28, 29, 30, 20, 5, 21, 44, 45, 46, 47, 48, 49, 50, 51, 52, 53] (by decide +kernel) (by decide +kernel)
set_option maxRecDepth 20000 in
theorem gX2_exchange_X2_withAncestors : GoodIn wsX2_exchange (wsV RX2 249 RX2 yX2_withAncestors wsX2_withAncestors) := goodIn_app (goodIn_of _ (by decide +kernel)) ggX2_exchange_X2_withAncestors
set_option maxRecDepth 20000 in
theorem ggX2_exchange_X0_receive : GoodIn wsX2_exchange wsX0_receive := goodIn_r _ [34, 35, 36, 14, 37, 38, 39, 40, 41, 42, 43, 54, 55, 56, 57, 58, 59, 60, 61, 62, 63] (by decide +kernel) (by decide +kernel)
set_option maxRecDepth 20000 in
theorem gX2_exchange_X0_receive : GoodIn wsX2_exchange (wsV RX2 252 RX0 yX0_receive wsX0_receive) := goodIn_app (goodIn_of _ (by decide +kernel)) ggX2_exchange_X0_receive
set_option maxRecDepth 20000 in
theorem ggX2_has_X2_peerOf : GoodIn wsX2_has wsX2_peerOf := goodIn_ca (goodIn_r _ [6, 7, 8, 9, 10, 21, 22, 23, 24, 25, 26, 27, 28, 29, 30] (by decide +kernel) (by decide +kernel)) (goodIn_sub (fun _ h => List.mem_cons_of_mem _ (List.mem_append_right _ h)) (by decide +kernel))
set_option maxRecDepth 20000 in
theorem gX2_has_X2_peerOf : GoodIn wsX2_has (wsV RX2 48 RX2 yX2_peerOf wsX2_peerOf) := goodIn_app (goodIn_of _ (by decide +kernel)) ggX2_has_X2_peerOf
set_option maxRecDepth 20000 in
theorem ggX2_workspaceOf_X2_peerOf : GoodIn wsX2_workspaceOf wsX2_peerOf := goodIn_ca (goodIn_r _ [6, 7, 8, 9, 10, 27, 28, 29, 30, 31, 32, 33, 34, 35, 36] (by decide +kernel) (by decide +kernel)) (goodIn_sub (fun _ h => List.mem_cons_of_mem _ (List.mem_append_left _ (List.mem_append_right _ h))) (by decide +kernel))
set_option maxRecDepth 20000 in
theorem gX2_workspaceOf_X2_peerOf : GoodIn wsX2_workspaceOf (wsV RX2 48 RX2 yX2_peerOf wsX2_peerOf) := goodIn_app (goodIn_of _ (by decide +kernel)) ggX2_workspaceOf_X2_peerOf
set_option maxRecDepth 20000 in
theorem ggX2_workspaceOf_X2_requireWorkspace : GoodIn wsX2_workspaceOf wsX2_requireWorkspace := goodIn_ca (goodIn_r _ [13, 14, 15, 16, 17, 18, 19, 20, 21, 22, 23, 24, 25, 26] (by decide +kernel) (by decide +kernel)) (goodIn_sub (fun _ h => List.mem_cons_of_mem _ (List.mem_append_right _ h)) (by decide +kernel))
set_option maxRecDepth 20000 in
theorem gX2_workspaceOf_X2_requireWorkspace : GoodIn wsX2_workspaceOf (va_wsS RX2 133 yX2_requireWorkspace wsX2_requireWorkspace) := goodIn_app (goodIn_of _ (by decide +kernel)) ggX2_workspaceOf_X2_requireWorkspace
set_option maxRecDepth 20000 in
theorem ggX2_requireHeld_X2_requireRevision : GoodIn wsX2_requireHeld wsX2_requireRevision := goodIn_ca (goodIn_r _ [8, 1, 2, 9, 23, 24, 25, 26, 27, 28, 29, 30, 31, 32] (by decide +kernel) (by decide +kernel)) (goodIn_sub (fun _ h => List.mem_cons_of_mem _ (List.mem_append_right _ h)) (by decide +kernel))
set_option maxRecDepth 20000 in
theorem gX2_requireHeld_X2_requireRevision : GoodIn wsX2_requireHeld (wsV RX2 203 RX2 yX2_requireRevision wsX2_requireRevision) := goodIn_app (goodIn_of _ (by decide +kernel)) ggX2_requireHeld_X2_requireRevision
set_option maxRecDepth 20000 in
theorem ggX2_requireHeld_X2_isIn : GoodIn wsX2_requireHeld wsX2_isIn := goodIn_r _ [12] (by decide +kernel) (by decide +kernel)
set_option maxRecDepth 20000 in
theorem gX2_requireHeld_X2_isIn : GoodIn wsX2_requireHeld (va_wsS RX2 174 yX2_isIn wsX2_isIn) := goodIn_app (goodIn_of _ (by decide +kernel)) ggX2_requireHeld_X2_isIn
set_option maxRecDepth 20000 in
theorem ggX2_requireAlive_X1_isAlive : GoodIn wsX2_requireAlive wsX1_isAlive := goodIn_r _ [7, 8, 9, 10, 11, 12, 13, 14] (by decide +kernel) (by decide +kernel)
set_option maxRecDepth 20000 in
theorem gX2_requireAlive_X1_isAlive : GoodIn wsX2_requireAlive (wsV RX2 273 RX1 yX1_isAlive wsX1_isAlive) := goodIn_app (goodIn_of _ (by decide +kernel)) ggX2_requireAlive_X1_isAlive
set_option maxRecDepth 20000 in
theorem ggX2_requirePlace_X2_isDirectory : GoodIn wsX2_requirePlace wsX2_isDirectory := goodIn_r _ [7, 8, 9, 10, 6, 11, 12, 13, 14, 15, 16, 17, 18, 19, 20, 21] (by decide +kernel) (by decide +kernel)
set_option maxRecDepth 20000 in
theorem gX2_requirePlace_X2_isDirectory : GoodIn wsX2_requirePlace (wsV RX2 128 RX2 yX2_isDirectory wsX2_isDirectory) := goodIn_app (goodIn_of _ (by decide +kernel)) ggX2_requirePlace_X2_isDirectory
set_option maxRecDepth 20000 in
theorem ggX2_isDirectory_X2_isIn : GoodIn wsX2_isDirectory wsX2_isIn := goodIn_r _ [5] (by decide +kernel) (by decide +kernel)
set_option maxRecDepth 20000 in
theorem gX2_isDirectory_X2_isIn : GoodIn wsX2_isDirectory (va_wsS RX2 174 yX2_isIn wsX2_isIn) := goodIn_app (goodIn_of _ (by decide +kernel)) ggX2_isDirectory_X2_isIn
set_option maxRecDepth 20000 in
theorem ggX2_withAncestors_X2_isIn : GoodIn wsX2_withAncestors wsX2_isIn := goodIn_r _ [6] (by decide +kernel) (by decide +kernel)
set_option maxRecDepth 20000 in
theorem gX2_withAncestors_X2_isIn : GoodIn wsX2_withAncestors (va_wsS RX2 174 yX2_isIn wsX2_isIn) := goodIn_app (goodIn_of _ (by decide +kernel)) ggX2_withAncestors_X2_isIn
set_option maxRecDepth 20000 in
theorem ggX2_latestOf_X2_isIn : GoodIn wsX2_latestOf wsX2_isIn := goodIn_r _ [7] (by decide +kernel) (by decide +kernel)
set_option maxRecDepth 20000 in
theorem gX2_latestOf_X2_isIn : GoodIn wsX2_latestOf (va_wsS RX2 174 yX2_isIn wsX2_isIn) := goodIn_app (goodIn_of _ (by decide +kernel)) ggX2_latestOf_X2_isIn
set_option maxRecDepth 20000 in
theorem ggX2_makeRevision_X1_copyFrom : GoodIn wsX2_makeRevision wsX1_copyFrom := goodIn_r _ [9, 10, 11, 12, 13, 14, 15, 16, 37, 38, 39] (by decide +kernel) (by decide +kernel)
set_option maxRecDepth 20000 in
theorem gX2_makeRevision_X1_copyFrom : GoodIn wsX2_makeRevision (wsV RX2 59 RX1 yX1_copyFrom wsX1_copyFrom) := goodIn_app (goodIn_of _ (by decide +kernel)) ggX2_makeRevision_X1_copyFrom
set_option maxRecDepth 20000 in
theorem ggX2_markChanges_X1_isAlive : GoodIn wsX2_markChanges wsX1_isAlive := goodIn_r _ [8, 9, 10, 11, 12, 39, 40, 41] (by decide +kernel) (by decide +kernel)
set_option maxRecDepth 20000 in
theorem gX2_markChanges_X1_isAlive : GoodIn wsX2_markChanges (wsV RX2 273 RX1 yX1_isAlive wsX1_isAlive) := goodIn_app (goodIn_of _ (by decide +kernel)) ggX2_markChanges_X1_isAlive
set_option maxRecDepth 20000 in
theorem ggX2_markChanges_X1_valueOf : GoodIn wsX2_markChanges wsX1_valueOf := goodIn_r _ [16, 17, 18, 11, 19, 39, 40, 41] (by decide +kernel) (by decide +kernel)
set_option maxRecDepth 20000 in
theorem gX2_markChanges_X1_valueOf : GoodIn wsX2_markChanges (wsV RX2 212 RX1 yX1_valueOf wsX1_valueOf) := goodIn_app (goodIn_of _ (by decide +kernel)) ggX2_markChanges_X1_valueOf
set_option maxRecDepth 20000 in
theorem ggX2_markChanges_X1_marksOf : GoodIn wsX2_markChanges wsX1_marksOf := goodIn_r _ [23, 24, 18, 11, 19, 39, 40, 41] (by decide +kernel) (by decide +kernel)
set_option maxRecDepth 20000 in
theorem gX2_markChanges_X1_marksOf : GoodIn wsX2_markChanges (wsV RX2 217 RX1 yX1_marksOf wsX1_marksOf) := goodIn_app (goodIn_of _ (by decide +kernel)) ggX2_markChanges_X1_marksOf
set_option maxRecDepth 20000 in
theorem ggX2_markChanges_X1_setMarks : GoodIn wsX2_markChanges wsX1_setMarks := goodIn_r _ [28, 24, 18, 11, 19, 39, 40, 41] (by decide +kernel) (by decide +kernel)
set_option maxRecDepth 20000 in
theorem gX2_markChanges_X1_setMarks : GoodIn wsX2_markChanges (wsV RX2 294 RX1 yX1_setMarks wsX1_setMarks) := goodIn_app (goodIn_of _ (by decide +kernel)) ggX2_markChanges_X1_setMarks
set_option maxRecDepth 20000 in
theorem ggX2_mergeTrees_X1_clear : GoodIn wsX2_mergeTrees wsX1_clear := goodIn_r _ [11, 12, 98, 99, 100] (by decide +kernel) (by decide +kernel)
set_option maxRecDepth 20000 in
theorem gX2_mergeTrees_X1_clear : GoodIn wsX2_mergeTrees (wsV RX2 298 RX1 yX1_clear wsX1_clear) := goodIn_app (goodIn_of _ (by decide +kernel)) ggX2_mergeTrees_X1_clear
set_option maxRecDepth 20000 in
theorem ggX2_mergeTrees_X2_isIn : GoodIn wsX2_mergeTrees wsX2_isIn := goodIn_r _ [16] (by decide +kernel) (by decide +kernel)
set_option maxRecDepth 20000 in
theorem gX2_mergeTrees_X2_isIn : GoodIn wsX2_mergeTrees (va_wsS RX2 174 yX2_isIn wsX2_isIn) := goodIn_app (goodIn_of _ (by decide +kernel)) ggX2_mergeTrees_X2_isIn
set_option maxRecDepth 20000 in
theorem ggX2_mergeTrees_X1_isAlive : GoodIn wsX2_mergeTrees wsX1_isAlive := goodIn_r _ [20, 12, 14, 15, 16, 98, 99, 100] (by decide +kernel) (by decide +kernel)
set_option maxRecDepth 20000 in
theorem gX2_mergeTrees_X1_isAlive : GoodIn wsX2_mergeTrees (wsV RX2 273 RX1 yX1_isAlive wsX1_isAlive) := goodIn_app (goodIn_of _ (by decide +kernel)) ggX2_mergeTrees_X1_isAlive
set_option maxRecDepth 20000 in
theorem ggX2_mergeTrees_X2_mergeNode : GoodIn wsX2_mergeTrees wsX2_mergeNode := goodIn_r _ [24, 1, 25, 2, 5, 26, 27, 28, 10, 29, 12, 30, 31, 32, 33, 34, 35, 15, 36, 37, 38, 39, 40, 41, 42, 43, 44, 45, 46, 47, 48, 49, 50, 51, 52, 53, 54, 55, 56, 57, 58, 59, 60, 61, 62, 63, 64, 65, 66, 13, 14, 16, 67, 68, 69, 70, 78, 79, 80, 81, 82, 83, 84, 85, 86, 87, 88, 89, 90, 91, 92, 93, 94, 95, 96, 97, 98, 99, 100] (by decide +kernel) (by decide +kernel)
set_option maxRecDepth 20000 in
theorem gX2_mergeTrees_X2_mergeNode : GoodIn wsX2_mergeTrees (wsV RX2 304 RX2 yX2_mergeNode wsX2_mergeNode) := goodIn_app (goodIn_of _ (by decide +kernel)) ggX2_mergeTrees_X2_mergeNode
set_option maxRecDepth 20000 in
theorem ggX2_mergeTrees_X2_upTo : GoodIn wsX2_mergeTrees wsX2_upTo := goodIn_r _ [54, 55, 78, 79, 80, 81, 82, 83, 84, 85, 86, 87] (by decide +kernel) (by decide +kernel)
set_option maxRecDepth 20000 in
theorem gX2_mergeTrees_X2_upTo : GoodIn wsX2_mergeTrees (wsV RX2 146 RX2 yX2_upTo wsX2_upTo) := goodIn_app (goodIn_of _ (by decide +kernel)) ggX2_mergeTrees_X2_upTo
set_option maxRecDepth 20000 in
theorem ggX2_mergeTrees_X1_copyNode : GoodIn wsX2_mergeTrees wsX1_copyNode := goodIn_r _ [74, 12, 75, 43, 44, 10, 45, 34, 35, 15, 36, 30, 31, 32, 33, 76, 47, 48, 49, 50, 77, 68, 69, 70, 98, 99, 100] (by decide +kernel) (by decide +kernel)
set_option maxRecDepth 20000 in
theorem gX2_mergeTrees_X1_copyNode : GoodIn wsX2_mergeTrees (wsV RX2 308 RX1 yX1_copyNode wsX1_copyNode) := goodIn_app (goodIn_of _ (by decide +kernel)) ggX2_mergeTrees_X1_copyNode
set_option maxRecDepth 20000 in
theorem ggX2_mergeNode_X1_plant : GoodIn wsX2_mergeNode wsX1_plant := goodIn_r _ [9, 10, 11, 12, 13, 8, 14, 15, 16, 17, 18, 76, 77, 78] (by decide +kernel) (by decide +kernel)
set_option maxRecDepth 20000 in
theorem gX2_mergeNode_X1_plant : GoodIn wsX2_mergeNode (wsV RX2 98 RX1 yX1_plant wsX1_plant) := goodIn_app (goodIn_of _ (by decide +kernel)) ggX2_mergeNode_X1_plant
set_option maxRecDepth 20000 in
theorem ggX2_mergeNode_X2_ownSide : GoodIn wsX2_mergeNode wsX2_ownSide := goodIn_r _ [22, 4, 23, 24, 25, 26, 8, 27, 15, 16, 17, 18, 28, 29, 30, 31, 32, 33, 34, 35, 36, 37, 56, 57, 58, 59, 60, 61, 62, 63, 64, 65, 76, 77, 78] (by decide +kernel) (by decide +kernel)
set_option maxRecDepth 20000 in
theorem gX2_mergeNode_X2_ownSide : GoodIn wsX2_mergeNode (wsV RX2 311 RX2 yX2_ownSide wsX2_ownSide) := goodIn_app (goodIn_of _ (by decide +kernel)) ggX2_mergeNode_X2_ownSide
set_option maxRecDepth 20000 in
theorem ggX2_mergeNode_X2_slot : GoodIn wsX2_mergeNode wsX2_slot := goodIn_r _ [18] (by decide +kernel) (by decide +kernel)
set_option maxRecDepth 20000 in
theorem gX2_mergeNode_X2_slot : GoodIn wsX2_mergeNode (va_wsS RX2 168 yX2_slot wsX2_slot) := goodIn_app (goodIn_of _ (by decide +kernel)) ggX2_mergeNode_X2_slot
set_option maxRecDepth 20000 in
theorem ggX2_mergeNode_X1_valueOf : GoodIn wsX2_mergeNode wsX1_valueOf := goodIn_r _ [27, 15, 16, 17, 18, 76, 77, 78] (by decide +kernel) (by decide +kernel)
set_option maxRecDepth 20000 in
theorem gX2_mergeNode_X1_valueOf : GoodIn wsX2_mergeNode (wsV RX2 212 RX1 yX1_valueOf wsX1_valueOf) := goodIn_app (goodIn_of _ (by decide +kernel)) ggX2_mergeNode_X1_valueOf
set_option maxRecDepth 20000 in
theorem ggX2_mergeNode_X1_setValue : GoodIn wsX2_mergeNode wsX1_setValue := goodIn_r _ [14, 15, 16, 17, 18, 76, 77, 78] (by decide +kernel) (by decide +kernel)
set_option maxRecDepth 20000 in
theorem gX2_mergeNode_X1_setValue : GoodIn wsX2_mergeNode (wsV RX2 122 RX1 yX1_setValue wsX1_setValue) := goodIn_app (goodIn_of _ (by decide +kernel)) ggX2_mergeNode_X1_setValue
set_option maxRecDepth 20000 in
theorem ggX2_mergeNode_X2_mergedMarks : GoodIn wsX2_mergeNode wsX2_mergedMarks := goodIn_r _ [43, 4, 44, 28, 29, 30, 8, 31, 32, 16, 17, 18, 45, 46, 47, 48, 37, 23, 49, 50, 51, 56, 57, 58, 59, 60, 61, 62, 63, 64, 65, 76, 77, 78] (by decide +kernel) (by decide +kernel)
set_option maxRecDepth 20000 in
theorem gX2_mergeNode_X2_mergedMarks : GoodIn wsX2_mergeNode (wsV RX2 315 RX2 yX2_mergedMarks wsX2_mergedMarks) := goodIn_app (goodIn_of _ (by decide +kernel)) ggX2_mergeNode_X2_mergedMarks
set_option maxRecDepth 20000 in
theorem ggX2_mergeNode_X1_setMarks : GoodIn wsX2_mergeNode wsX1_setMarks := goodIn_r _ [55, 32, 16, 17, 18, 76, 77, 78] (by decide +kernel) (by decide +kernel)
set_option maxRecDepth 20000 in
theorem gX2_mergeNode_X1_setMarks : GoodIn wsX2_mergeNode (wsV RX2 294 RX1 yX1_setMarks wsX1_setMarks) := goodIn_app (goodIn_of _ (by decide +kernel)) ggX2_mergeNode_X1_setMarks
set_option maxRecDepth 20000 in
theorem ggX2_mergedMarks_X1_marksOf : GoodIn wsX2_mergedMarks wsX1_marksOf := goodIn_r _ [7, 8, 9, 10, 11, 31, 32, 33] (by decide +kernel) (by decide +kernel)
set_option maxRecDepth 20000 in
theorem gX2_mergedMarks_X1_marksOf : GoodIn wsX2_mergedMarks (wsV RX2 217 RX1 yX1_marksOf wsX1_marksOf) := goodIn_app (goodIn_of _ (by decide +kernel)) ggX2_mergedMarks_X1_marksOf
set_option maxRecDepth 20000 in
theorem ggX2_mergedMarks_X2_latestOf : GoodIn wsX2_mergedMarks wsX2_latestOf := goodIn_r _ [15, 2, 16, 17, 18, 19, 10, 20, 21, 22, 23, 24, 25, 26, 27, 28, 29, 30] (by decide +kernel) (by decide +kernel)
set_option maxRecDepth 20000 in
theorem gX2_mergedMarks_X2_latestOf : GoodIn wsX2_mergedMarks (wsV RX2 245 RX2 yX2_latestOf wsX2_latestOf) := goodIn_app (goodIn_of _ (by decide +kernel)) ggX2_mergedMarks_X2_latestOf
set_option maxRecDepth 20000 in
theorem ggX2_ownSide_X1_valueOf : GoodIn wsX2_ownSide wsX1_valueOf := goodIn_r _ [7, 8, 9, 10, 11, 32, 33, 34] (by decide +kernel) (by decide +kernel)
set_option maxRecDepth 20000 in
theorem gX2_ownSide_X1_valueOf : GoodIn wsX2_ownSide (wsV RX2 212 RX1 yX1_valueOf wsX1_valueOf) := goodIn_app (goodIn_of _ (by decide +kernel)) ggX2_ownSide_X1_valueOf
set_option maxRecDepth 20000 in
theorem ggX2_ownSide_X1_marksOf : GoodIn wsX2_ownSide wsX1_marksOf := goodIn_r _ [15, 16, 9, 10, 11, 32, 33, 34] (by decide +kernel) (by decide +kernel)
set_option maxRecDepth 20000 in
theorem gX2_ownSide_X1_marksOf : GoodIn wsX2_ownSide (wsV RX2 217 RX1 yX1_marksOf wsX1_marksOf) := goodIn_app (goodIn_of _ (by decide +kernel)) ggX2_ownSide_X1_marksOf
set_option maxRecDepth 20000 in
theorem ggX2_ownSide_X2_upTo : GoodIn wsX2_ownSide wsX2_upTo := goodIn_r _ [20, 21, 22, 23, 24, 25, 26, 27, 28, 29, 30, 31] (by decide +kernel) (by decide +kernel)
set_option maxRecDepth 20000 in
theorem gX2_ownSide_X2_upTo : GoodIn wsX2_ownSide (wsV RX2 146 RX2 yX2_upTo wsX2_upTo) := goodIn_app (goodIn_of _ (by decide +kernel)) ggX2_ownSide_X2_upTo
set_option maxRecDepth 20000 in
theorem ggX2_listConflicts_X1_isAlive : GoodIn wsX2_listConflicts wsX1_isAlive := goodIn_r _ [9, 10, 11, 12, 13, 70, 71, 72] (by decide +kernel) (by decide +kernel)
set_option maxRecDepth 20000 in
theorem gX2_listConflicts_X1_isAlive : GoodIn wsX2_listConflicts (wsV RX2 273 RX1 yX1_isAlive wsX1_isAlive) := goodIn_app (goodIn_of _ (by decide +kernel)) ggX2_listConflicts_X1_isAlive
set_option maxRecDepth 20000 in
theorem ggX2_listConflicts_X2_slot : GoodIn wsX2_listConflicts wsX2_slot := goodIn_r _ [16] (by decide +kernel) (by decide +kernel)
set_option maxRecDepth 20000 in
theorem gX2_listConflicts_X2_slot : GoodIn wsX2_listConflicts (va_wsS RX2 168 yX2_slot wsX2_slot) := goodIn_app (goodIn_of _ (by decide +kernel)) ggX2_listConflicts_X2_slot
set_option maxRecDepth 20000 in
theorem ggX2_listConflicts_X2_isIn : GoodIn wsX2_listConflicts wsX2_isIn := goodIn_r _ [13] (by decide +kernel) (by decide +kernel)
set_option maxRecDepth 20000 in
theorem gX2_listConflicts_X2_isIn : GoodIn wsX2_listConflicts (va_wsS RX2 174 yX2_isIn wsX2_isIn) := goodIn_app (goodIn_of _ (by decide +kernel)) ggX2_listConflicts_X2_isIn
set_option maxRecDepth 20000 in
theorem ggX2_listConflicts_X0_list : GoodIn wsX2_listConflicts wsX0_list := goodIn_r _ [22, 23, 24, 25, 50, 51, 52, 53, 54, 55, 56, 57, 58, 59] (by decide +kernel) (by decide +kernel)
set_option maxRecDepth 20000 in
theorem gX2_listConflicts_X0_list : GoodIn wsX2_listConflicts (wsV RX2 319 RX0 yX0_list wsX0_list) := goodIn_app (goodIn_of _ (by decide +kernel)) ggX2_listConflicts_X0_list
set_option maxRecDepth 20000 in
theorem ggX2_listConflicts_X2_listPlaceConflict : GoodIn wsX2_listConflicts wsX2_listPlaceConflict := goodIn_r _ [29, 3, 30, 31, 32, 8, 33, 34, 35, 36, 37, 38, 15, 12, 16, 5, 6, 7, 9, 10, 11, 13, 18, 19, 20, 21, 22, 23, 24, 25, 39, 40, 41, 42, 43, 44, 45, 46, 47, 48, 49, 60, 61, 62, 63, 64, 65, 66, 67, 68, 69, 70, 71, 72, 50, 51, 52, 53, 54, 55, 56, 57, 58, 59] (by decide +kernel) (by decide +kernel)
set_option maxRecDepth 20000 in
theorem gX2_listConflicts_X2_listPlaceConflict : GoodIn wsX2_listConflicts (wsV RX2 322 RX2 yX2_listPlaceConflict wsX2_listPlaceConflict) := goodIn_app (goodIn_of _ (by decide +kernel)) ggX2_listConflicts_X2_listPlaceConflict
set_option maxRecDepth 20000 in
theorem ggX2_listPlaceConflict_X1_parentOf : GoodIn wsX2_listPlaceConflict wsX1_parentOf := goodIn_r _ [6, 7, 8, 9, 5, 10, 11, 12, 13, 14, 51, 52, 53] (by decide +kernel) (by decide +kernel)
set_option maxRecDepth 20000 in
theorem gX2_listPlaceConflict_X1_parentOf : GoodIn wsX2_listPlaceConflict (wsV RX2 206 RX1 yX1_parentOf wsX1_parentOf) := goodIn_app (goodIn_of _ (by decide +kernel)) ggX2_listPlaceConflict_X1_parentOf
set_option maxRecDepth 20000 in
theorem ggX2_listPlaceConflict_X1_isAlive : GoodIn wsX2_listPlaceConflict wsX1_isAlive := goodIn_r _ [18, 19, 20, 13, 21, 51, 52, 53] (by decide +kernel) (by decide +kernel)
set_option maxRecDepth 20000 in
theorem gX2_listPlaceConflict_X1_isAlive : GoodIn wsX2_listPlaceConflict (wsV RX2 273 RX1 yX1_isAlive wsX1_isAlive) := goodIn_app (goodIn_of _ (by decide +kernel)) ggX2_listPlaceConflict_X1_isAlive
set_option maxRecDepth 20000 in
theorem ggX2_listPlaceConflict_X0_list : GoodIn wsX2_listPlaceConflict wsX0_list := goodIn_r _ [26, 27, 28, 29, 54, 55, 56, 57, 58, 59, 60, 61, 62, 63] (by decide +kernel) (by decide +kernel)
set_option maxRecDepth 20000 in
theorem gX2_listPlaceConflict_X0_list : GoodIn wsX2_listPlaceConflict (wsV RX2 319 RX0 yX0_list wsX0_list) := goodIn_app (goodIn_of _ (by decide +kernel)) ggX2_listPlaceConflict_X0_list
set_option maxRecDepth 20000 in
theorem ggX2_listPlaceConflict_X1_valueOf : GoodIn wsX2_listPlaceConflict wsX1_valueOf := goodIn_r _ [10, 11, 12, 13, 14, 51, 52, 53] (by decide +kernel) (by decide +kernel)
set_option maxRecDepth 20000 in
theorem gX2_listPlaceConflict_X1_valueOf : GoodIn wsX2_listPlaceConflict (wsV RX2 212 RX1 yX1_valueOf wsX1_valueOf) := goodIn_app (goodIn_of _ (by decide +kernel)) ggX2_listPlaceConflict_X1_valueOf
set_option maxRecDepth 20000 in
theorem ggX2_listPlaceConflict_X1_lowestAt : GoodIn wsX2_listPlaceConflict wsX1_lowestAt := goodIn_r _ [34, 35, 16, 17, 5, 18, 19, 20, 13, 21, 7, 8, 9, 10, 11, 12, 14, 51, 52, 53] (by decide +kernel) (by decide +kernel)
set_option maxRecDepth 20000 in
theorem gX2_listPlaceConflict_X1_lowestAt : GoodIn wsX2_listPlaceConflict (wsV RX2 82 RX1 yX1_lowestAt wsX1_lowestAt) := goodIn_app (goodIn_of _ (by decide +kernel)) ggX2_listPlaceConflict_X1_lowestAt
set_option maxRecDepth 20000 in
theorem ggX2_listPlaceConflict_X1_leadsTo : GoodIn wsX2_listPlaceConflict wsX1_leadsTo := goodIn_r _ [39, 35, 16, 17, 5, 18, 19, 20, 13, 21, 40, 3, 4, 6, 7, 8, 9, 10, 11, 12, 14, 51, 52, 53] (by decide +kernel) (by decide +kernel)
set_option maxRecDepth 20000 in
theorem gX2_listPlaceConflict_X1_leadsTo : GoodIn wsX2_listPlaceConflict (wsV RX2 116 RX1 yX1_leadsTo wsX1_leadsTo) := goodIn_app (goodIn_of _ (by decide +kernel)) ggX2_listPlaceConflict_X1_leadsTo
set_option maxRecDepth 20000 in
theorem ggX3_isAlive_X3_in : GoodIn wsX3_isAlive wsX3_in := goodIn_r _ [5] (by decide +kernel) (by decide +kernel)
set_option maxRecDepth 20000 in
theorem gX3_isAlive_X3_in : GoodIn wsX3_isAlive (va_wsS RX3 79 yX3_in wsX3_in) := goodIn_app (goodIn_of _ (by decide +kernel)) ggX3_isAlive_X3_in
set_option maxRecDepth 20000 in
theorem ggX3_hasRevision_X3_in : GoodIn wsX3_hasRevision wsX3_in := goodIn_r _ [6] (by decide +kernel) (by decide +kernel)
set_option maxRecDepth 20000 in
theorem gX3_hasRevision_X3_in : GoodIn wsX3_hasRevision (va_wsS RX3 79 yX3_in wsX3_in) := goodIn_app (goodIn_of _ (by decide +kernel)) ggX3_hasRevision_X3_in
set_option maxRecDepth 20000 in
theorem ggX3_copyTree_X3_copyNode : GoodIn wsX3_copyTree wsX3_copyNode := goodIn_r _ [6, 7, 8, 9, 10, 11, 12, 13, 14, 15, 16, 17, 18, 19, 20, 21, 22, 23, 24, 25, 26, 27, 28, 29, 30, 31, 32, 33] (by decide +kernel) (by decide +kernel)
set_option maxRecDepth 20000 in
theorem gX3_copyTree_X3_copyNode : GoodIn wsX3_copyTree (wsV RX3 83 RX3 yX3_copyNode wsX3_copyNode) := goodIn_app (goodIn_of _ (by decide +kernel)) ggX3_copyTree_X3_copyNode
