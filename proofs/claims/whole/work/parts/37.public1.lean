set_option maxHeartbeats 4000000 in
set_option maxRecDepth 100000 in
theorem k_X2_open (l : Launch) (hlt : l.stackTraces = false) (G : GT) (S : SS) (sz : Nat) {rc : Nat} (hrc : S.1 139 4 = nI rc) (h40 : rc ≤ 40) (x y : Int32) : vx_Met l yX2_open wsX2_open ({ frames := 8, cells := 8, slots := 48, locals := 125 } : Room) (va_Pc [.ref (gA G 139), .int x, .int y] (fun U => U.heap.size = sz ∧ cP G S U)) (va_Qv (fun S' => cdOpen S rc x y = 0 ∧ S' = s1 (cfS S (41 + cn x) (cn y)) (129 + 5 * cn x) 4 (nI (cn y))) (cB G) (gF G sz)) (xT (fun E => E = eX (cdOpen S rc x y) ∧ ¬ cdOpen S rc x y = 0)) 8 48 (gF G sz) := by
  refine vx_ofW (cc := cX2_open) (maxL := 4) (ret := none) (by decide) rfl ?_
  intro p e s m args below meth c s₁ B hml hout hv
  obtain ⟨rfl, hsz, hW, hK⟩ := hv
  subst hsz
  have hx := B.exec
  have hb := B.bytes
  have hr := B.returns
  have hts := atoms_spec (ws := wsX2_open) B.pre
  have hown : s.vm.findClass RX2 = some m.cls := findClass_of_methodNamed B.named
  have hlocks := B.notSynchronized
  have hS : va_S (gF G s.heap.size) s.heap s.heap [] := va_S.rf
  have inX0 : ∀ w ∈ u_ws RX0 TX0 10, w ∈ wsX2_open := by decide +kernel
  have inX2 : ∀ w ∈ u_ws RX2 TX2 10, w ∈ wsX2_open := by decide +kernel
  have hl := lv_entry ([.ref (gA G 139), .int x, .int y]) (n := 4) (Nat.le_of_ble_eq_true rfl)
  rw [lg_entry_eq]
  generalize (lg_sl ([.ref (gA G 139), .int x, .int y]) ++ List.replicate (4 - (lg_sl ([.ref (gA G 139), .int x, .int y])).length) Slot.unset).toArray = ls at hl ⊢
  have hl : lv_has ls 4 [(0, .ref (gA G 139)), (1, .int x), (2, .int y)] := hl
  refine lv_aload_n hx hb dX2_open_0 rfl (lv_at hl 0 rfl) ?_
  refine lv_iload_n hx hb dX2_open_1 rfl (lv_at hl 1 rfl) ?_
  refine tv_r (vx_runV (As := [.int x]) (rest := []) ⟨hx, hb, hml, hown, hts⟩ (k_X2_peerOf l hlt G S x) (cwV 1 hts gX2_open_X2_peerOf rfl rfl rfl (by decide +kernel) ⟨Nat.le_of_ble_eq_true rfl, Nat.le_of_ble_eq_true rfl⟩) ⟨cP_blind, c_recv hW hK (k := 139) (ci := 2) cw_O rfl, cP_at hW hK hS⟩ rfl rfl hl.1 rfl (lv_room (Nat.le_of_ble_eq_true rfl)) dX2_open_2 ⟨Nat.le_of_ble_eq_true rfl, Nat.le_of_ble_eq_true rfl⟩) hout hlocks (fun E hE => thr_of (k := 1) (by unfold cdOpen; rw [if_neg (isP_no hE.2)]) hE.1 (by decide)) (Nat.le_of_ble_eq_true rfl) (Nat.le_of_ble_eq_true rfl) (fun k_1 h_2 => ?_)
  obtain ⟨i_2, hi_2, rfl, rfl⟩ := h_2
  have cn_i_2 : cn (nI i_2) = i_2 := cn_nI (by omega)
  refine lv_astore_n (lv' := [(3, .ref (gA G (129 + 5 * i_2))), (0, .ref (gA G 139)), (1, .int (nI i_2)), (2, .int y)]) hx hb dX2_open_5 rfl hl (by decide) rfl (fun ls hl => ?_)
  refine lv_aload_n hx hb dX2_open_6 rfl (lv_at hl 1 rfl) ?_
  refine lv_aload_n hx hb dX2_open_7 rfl (lv_at hl 0 rfl) ?_
  refine lv_iload_n hx hb dX2_open_8 rfl (lv_at hl 3 rfl) ?_
  refine tv_v (vx_runV (As := [.ref (gA G (129 + 5 * i_2)), .int y]) (rest := []) ⟨hx, hb, hml, hown, hts⟩ (k_X2_requireHeld l hlt G S (rc := rc) hrc (by omega) (i := i_2) (by omega) y) (cwV 2 hts gX2_open_X2_requireHeld rfl rfl rfl (by decide +kernel) ⟨Nat.le_of_ble_eq_true rfl, Nat.le_of_ble_eq_true rfl⟩) ⟨cP_blind, c_recv hW hK (k := 139) (ci := 2) cw_O rfl, cP_at hW hK hS⟩ rfl rfl hl.1 rfl (lv_room (Nat.le_of_ble_eq_true rfl)) dX2_open_9 ⟨Nat.le_of_ble_eq_true rfl, Nat.le_of_ble_eq_true rfl⟩) hout hlocks (fun E hE => thr_of (k := 1) (by unfold cdOpen; (try simp only [cn_i_2]); rw [if_pos (isP_nI hi_2), if_neg (heldB_no (by omega) hE.2)]) hE.1 (by decide)) (Nat.le_of_ble_eq_true rfl) (Nat.le_of_ble_eq_true rfl) (fun h_9 => ?_)
  obtain ⟨j_3, hj_3, rfl, hb_9⟩ := h_9
  have cn_j_3 : cn (nI j_3) = j_3 := cn_nI (by omega)
  refine lv_aload_n hx hb dX2_open_12 rfl (lv_at hl 0 rfl) ?_
  refine va_get (D := gD G) (ci := 0) (v := .ref (gA G (3 * (41 + i_2)))) (C := RX0) (T := TX0) (N := 10) hx hb hts inX0 hown hK.1 hW (129 + 5 * i_2) (cw_P (i := i_2) (by omega)) rfl 3 (by decide) (hts (.fieldLink RX2 56 "MarkedTrees$Peer" "workspace" "LMarkedTrees$Tree;") (by decide +kernel)) (fun _ h9 => h9) rfl dX2_open_13 ?_
  refine lv_aload_n hx hb dX2_open_16 rfl (lv_at hl 1 rfl) ?_
  refine va_get (D := gD G) (ci := 2) (v := .ref (gA G 140)) (C := RX2) (T := TX2) (N := 10) hx hb hts inX2 hown hK.1 hW 139 cw_O rfl 2 (by decide) (hts (.fieldLink RX2 21 "MarkedTrees" "trees" "[LMarkedTrees$Tree;") (by decide +kernel)) (fun _ h9 => h9) rfl dX2_open_17 ?_
  refine lv_iload_n hx hb dX2_open_20 rfl (lv_at hl 3 rfl) ?_
  refine nv_aald hx hb hK.1 hW 140 3 cw_R rfl (i := j_3) (b := gA G (3 * j_3)) (by omega) (by decide) rfl dX2_open_21 ?_
  refine ev_v (va_runV (As := [.ref (gA G (3 * j_3))]) (rest := []) ⟨hx, hb, hml, hown, hts⟩ (k_X1_copyFrom l G S s.heap.size (t := 41 + i_2) (by omega) (u := j_3) (by omega)) (cwV 1 hts gX2_open_X1_copyFrom rfl rfl rfl (by decide +kernel) ⟨Nat.le_of_ble_eq_true rfl, Nat.le_of_ble_eq_true rfl⟩) ⟨cQ_blind, c_recv hW hK (k := (3 * (41 + i_2))) (ci := 1) (cw_T (t := 41 + i_2) (by omega)) rfl, cQ_at hW hK hS⟩ rfl rfl hl.1 rfl (lv_room (Nat.le_of_ble_eq_true rfl)) dX2_open_22 ⟨Nat.le_of_ble_eq_true rfl, Nat.le_of_ble_eq_true rfl⟩) hS (fun S_4 t9 H locs ht9 hS_4 hW hS => ?_)
  have hW : cW G S_4 H := ht9 ▸ hW
  refine lv_aload_n hx hb dX2_open_25 rfl (lv_at hl 0 rfl) ?_
  refine lv_iload_n hx hb dX2_open_26 rfl (lv_at hl 3 rfl) ?_
  refine va_put (D := gD G) (ci := 0) (v := .int (nI j_3)) (ty := .int) (C := RX0) (T := TX0) (N := 10) hx hb hts inX0 tyX0 tyX0_ok nmX0 hown hK.1 hW (wl_D hK.2.1) hS (129 + 5 * i_2) (cw_P (i := i_2) (by omega)) rfl 4 (by decide) (hts (.fieldLink RX2 63 "MarkedTrees$Peer" "base" "I") (by decide +kernel)) (fun _ h9 => h9) rfl (by decide +kernel) rfl rfl (Nat.le_of_ble_eq_true rfl) dX2_open_27 (fun H locs hW _ hS => ?_)
  have hW : cW G (s1 S_4 (129 + 5 * i_2) 4 (nI j_3)) H := cp_P_4 (by omega) hW
  obtain ⟨S_5, eS_5⟩ : ∃ z, z = s1 S_4 (129 + 5 * i_2) 4 (nI j_3) := ⟨_, rfl⟩
  rw [← eS_5] at hW
  refine vx_ret ?_
  refine W.widen (k := 8) (n := 48) (by omega) (by omega) ?_
  exact W.vret hx hb hr (fun t9 ht9 _ => ⟨⟨S_5, rfl, ⟨(by unfold cdOpen; (try simp only [cn_i_2, cn_j_3]); rw [if_pos (isP_nI hi_2), if_pos (heldB_nI hj_3 (by omega) hb_9)]), by (try simp only [cn_i_2, cn_j_3]); subst_vars; rfl⟩, (show cW G S_5 t9.heap by rw [ht9]; exact hW)⟩, hS.F ht9⟩) hS.2.2 dX2_open_30

set_option maxHeartbeats 4000000 in
set_option maxRecDepth 100000 in
theorem k_X2_add (l : Launch) (hlt : l.stackTraces = false) (G : GT) (S : SS) (sz : Nat) {nc : Nat} (hnc : S.1 139 7 = nI nc) (h16 : nc ≤ 16) (x y z : Int32) (db : Bool) : vx_Met l yX2_add wsX2_add ({ frames := 8, cells := 8, slots := 48, locals := 125 } : Room) (va_Pc [.ref (gA G 139), .int x, .int y, .int z, .int (bI db)] (fun U => U.heap.size = sz ∧ cP G S U)) (va_Qi (fun r S' => cdAdd S nc x y z = 0 ∧ r = nI nc ∧ S' = doAdd S nc (cn x) (cn y) (cn z) db) (cB G) (gF G sz)) (xT (fun E => E = eX (cdAdd S nc x y z) ∧ ¬ cdAdd S nc x y z = 0)) 8 48 (gF G sz) := by
  refine vx_ofW (cc := cX2_add) (maxL := 8) (ret := (some .int)) (by decide) rfl ?_
  intro p e s m args below meth c s₁ B hml hout hv
  obtain ⟨rfl, hsz, hW, hK⟩ := hv
  subst hsz
  have hx := B.exec
  have hb := B.bytes
  have hr := B.returns
  have hts := atoms_spec (ws := wsX2_add) B.pre
  have hown : s.vm.findClass RX2 = some m.cls := findClass_of_methodNamed B.named
  have hlocks := B.notSynchronized
  have hS : va_S (gF G s.heap.size) s.heap s.heap [] := va_S.rf
  have inX2 : ∀ w ∈ u_ws RX2 TX2 10, w ∈ wsX2_add := by decide +kernel
  have hatA : ∀ w ∈ (vx_atS RX2 90 eA eU).filter goodWord, w.before _ s = true := fun w hw => hts w ((by decide +kernel : ∀ w ∈ (vx_atS RX2 90 eA eU).filter goodWord, w ∈ wsX2_add) w hw)
  have hatS : ∀ w ∈ (vx_atS RX2 97 eS eU).filter goodWord, w.before _ s = true := fun w hw => hts w ((by decide +kernel : ∀ w ∈ (vx_atS RX2 97 eS eU).filter goodWord, w ∈ wsX2_add) w hw)
  have hl := lv_entry ([.ref (gA G 139), .int x, .int y, .int z, .int (bI db)]) (n := 8) (Nat.le_of_ble_eq_true rfl)
  rw [lg_entry_eq]
  generalize (lg_sl ([.ref (gA G 139), .int x, .int y, .int z, .int (bI db)]) ++ List.replicate (8 - (lg_sl ([.ref (gA G 139), .int x, .int y, .int z, .int (bI db)])).length) Slot.unset).toArray = ls at hl ⊢
  have hl : lv_has ls 8 [(0, .ref (gA G 139)), (1, .int x), (2, .int y), (3, .int z), (4, .int (bI db))] := hl
  refine lv_aload_n hx hb dX2_add_0 rfl (lv_at hl 0 rfl) ?_
  refine lv_iload_n hx hb dX2_add_1 rfl (lv_at hl 1 rfl) ?_
  refine tv_r (vx_runV (As := [.int x]) (rest := []) ⟨hx, hb, hml, hown, hts⟩ (k_X2_workspaceOf l hlt G S x) (cwV 1 hts gX2_add_X2_workspaceOf rfl rfl rfl (by decide +kernel) ⟨Nat.le_of_ble_eq_true rfl, Nat.le_of_ble_eq_true rfl⟩) ⟨cP_blind, c_recv hW hK (k := 139) (ci := 2) cw_O rfl, cP_at hW hK hS⟩ rfl rfl hl.1 rfl (lv_room (Nat.le_of_ble_eq_true rfl)) dX2_add_2 ⟨Nat.le_of_ble_eq_true rfl, Nat.le_of_ble_eq_true rfl⟩) hout hlocks (fun E hE => hE.elim (fun hE => thr_of (k := 1) (by unfold cdAdd; rw [if_neg (isP_no hE.2)]) hE.1 (by decide)) (fun hE => by obtain ⟨e1, i9, hi9, rfl, hb9⟩ := hE; exact thr_of (k := 3) (by unfold cdAdd; simp only [cn_nI (show i9 < 2 ^ 31 by omega)]; rw [if_pos (isP_nI hi9), if_pos hb9]) e1 (by decide))) (Nat.le_of_ble_eq_true rfl) (Nat.le_of_ble_eq_true rfl) (fun k_1 h_2 => ?_)
  obtain ⟨i_2, hi_2, rfl, hb_2, rfl⟩ := h_2
  have cn_i_2 : cn (nI i_2) = i_2 := cn_nI (by omega)
  refine lv_astore (lv' := [(5, .ref (gA G (3 * (41 + i_2)))), (0, .ref (gA G 139)), (1, .int (nI i_2)), (2, .int y), (3, .int z), (4, .int (bI db))]) hx hb dX2_add_5 hl (by decide) rfl (fun ls hl => ?_)
  refine lv_aload hx hb dX2_add_7 (lv_at hl 0 rfl) ?_
  refine lv_iload_n hx hb dX2_add_9 rfl (lv_at hl 3 rfl) ?_
  refine tv_v (vx_runS (As := [.ref (gA G (3 * (41 + i_2))), .int y]) (rest := []) ⟨hx, hb, hml, hown, hts⟩ (k_X2_requireAlive l hlt G S (t := 41 + i_2) (by omega) y) (va_cwS 2 hts gX2_add_X2_requireAlive rfl rfl rfl (by decide +kernel) ⟨Nat.le_of_ble_eq_true rfl, Nat.le_of_ble_eq_true rfl⟩) ⟨cP_blind, cP_at hW hK hS⟩ rfl rfl hl.1 rfl (lv_room (Nat.le_of_ble_eq_true rfl)) dX2_add_10 ⟨Nat.le_of_ble_eq_true rfl, Nat.le_of_ble_eq_true rfl⟩) hout hlocks (fun E hE => thr_of (k := 1) (by unfold cdAdd; (try simp only [cn_i_2]); rw [if_pos (isP_nI hi_2), if_neg hb_2, if_neg (by rw [hE.2]; exact Bool.false_ne_true)]) hE.1 (by decide)) (Nat.le_of_ble_eq_true rfl) (Nat.le_of_ble_eq_true rfl) (fun h_10 => ?_)
  obtain ⟨n_3, hn_3, rfl⟩ := aliveB_of h_10
  have cn_n_3 : cn (nI n_3) = n_3 := cn_nI (by omega)
  refine lv_aload_n hx hb dX2_add_13 rfl (lv_at hl 1 rfl) ?_
  refine lv_iload_n hx hb dX2_add_14 rfl (lv_at hl 3 rfl) ?_
  refine lv_iload_n hx hb dX2_add_15 rfl (lv_at hl 4 rfl) ?_
  refine tv_v (vx_runV (As := [.int (nI n_3), .int z]) (rest := []) ⟨hx, hb, hml, hown, hts⟩ (k_X2_requirePlace l hlt G S (n := n_3) (by omega) z) (cwV 2 hts gX2_add_X2_requirePlace rfl rfl rfl (by decide +kernel) ⟨Nat.le_of_ble_eq_true rfl, Nat.le_of_ble_eq_true rfl⟩) ⟨cP_blind, c_recv hW hK (k := 139) (ci := 2) cw_O rfl, cP_at hW hK hS⟩ rfl rfl hl.1 rfl (lv_room (Nat.le_of_ble_eq_true rfl)) dX2_add_16 ⟨Nat.le_of_ble_eq_true rfl, Nat.le_of_ble_eq_true rfl⟩) hout hlocks (fun E hE => thr_of (k := 2) (by unfold cdAdd; (try simp only [cn_i_2, cn_n_3]); rw [if_pos (isP_nI hi_2), if_neg hb_2, if_pos h_10, if_neg (fun h9 => hE.2 ⟨h9.1, (inB_iff (by decide)).mp h9.2⟩)]) hE.1 (by decide)) (Nat.le_of_ble_eq_true rfl) (Nat.le_of_ble_eq_true rfl) (fun h_16 => ?_)
  obtain ⟨hd_16, n_4, hn_4, rfl⟩ := h_16
  have cn_n_4 : cn (nI n_4) = n_4 := cn_nI (by omega)
  refine lv_iload_n hx hb dX2_add_19 rfl (lv_at hl 3 rfl) ?_
  refine lv_iload_n hx hb dX2_add_20 rfl (lv_at hl 4 rfl) ?_
  refine pv_i (va_runS (As := [.int (nI n_3), .int (nI n_4)]) (rest := []) ⟨hx, hb, hml, hown, hts⟩ (k_X2_placeOf l n_3 n_4) (va_cwS 2 hts gX2_add_X2_placeOf rfl rfl rfl (by decide +kernel) ⟨Nat.le_of_ble_eq_true rfl, Nat.le_of_ble_eq_true rfl⟩) ⟨(fun _ _ _ _ h => h), fun U _ _ => ⟨rfl, trivial⟩⟩ rfl rfl hl.1 rfl (lv_room (Nat.le_of_ble_eq_true rfl)) dX2_add_21 ⟨Nat.le_of_ble_eq_true rfl, Nat.le_of_ble_eq_true rfl⟩) (fun r_5 hr_5 => ?_)
  have hr_5 : r_5 = nI (n_3 * 10 + n_4) := hr_5
  subst hr_5
  refine lv_istore (lv' := [(6, .int (nI (n_3 * 10 + n_4))), (5, .ref (gA G (3 * (41 + i_2)))), (0, .ref (gA G 139)), (1, .int (nI i_2)), (2, .int (nI n_3)), (3, .int (nI n_4)), (4, .int (bI db))]) hx hb dX2_add_24 hl (by decide) rfl (fun ls hl => ?_)
  refine lv_aload hx hb dX2_add_26 (lv_at hl 1 rfl) ?_
  refine lv_iload hx hb dX2_add_28 (lv_at hl 0 rfl) ?_
  refine pv_i (va_runV (As := [.int (nI (n_3 * 10 + n_4))]) (rest := []) ⟨hx, hb, hml, hown, hts⟩ (k_X1_lowestAt l G S (t := 41 + i_2) (by omega) (nI (n_3 * 10 + n_4))) (cwV 1 hts gX2_add_X1_lowestAt rfl rfl rfl (by decide +kernel) ⟨Nat.le_of_ble_eq_true rfl, Nat.le_of_ble_eq_true rfl⟩) ⟨cP_blind, c_recv hW hK (k := (3 * (41 + i_2))) (ci := 1) (cw_T (t := 41 + i_2) (by omega)) rfl, cP_at hW hK hS⟩ rfl rfl hl.1 rfl (lv_room (Nat.le_of_ble_eq_true rfl)) dX2_add_30 ⟨Nat.le_of_ble_eq_true rfl, Nat.le_of_ble_eq_true rfl⟩) (fun r_6 hr_6 => ?_)
  have hr_6 : r_6 = lowG (fun j => ti (S.1 (3 * (41 + i_2)) 0) j && (S.1 (3 * (41 + i_2) + 1) (j * 3) == nI (n_3 * 10 + n_4))) 15 1 := hr_6
  subst hr_6
  refine lv_iconst (v := (-1)) hx hb dX2_add_33 (by decide) ?_
  refine lv_icmp_eq (tgt := 47) hx hb dX2_add_34 (by decide) (fun c_34 => ?_) (fun c_34 => ?_)
  · refine lv_aload_n hx hb dX2_add_47 rfl (lv_at hl 2 rfl) ?_
    refine va_get (D := gD G) (ci := 2) (v := .int (nI nc)) (C := RX2) (T := TX2) (N := 10) hx hb hts inX2 hown hK.1 hW 139 cw_O rfl 7 (by decide) (hts (.fieldLink RX2 40 "MarkedTrees" "nodeCount" "I") (by decide +kernel)) (fun _ h9 => h9) (by rw [← hnc]; rfl) dX2_add_48 ?_
    refine lv_bipush (v := nI 16) hx hb dX2_add_51 (by decide) ?_
    refine nv_icmp_lt (tgt := 66) hx hb (by omega) (by omega) dX2_add_53 (by decide) (fun c_53 => ?_) (fun c_53 => ?_)
    · refine lv_aload_n hx hb dX2_add_66 rfl (lv_at hl 2 rfl) ?_
      refine va_get (D := gD G) (ci := 2) (v := .int (nI nc)) (C := RX2) (T := TX2) (N := 10) hx hb hts inX2 hown hK.1 hW 139 cw_O rfl 7 (by decide) (hts (.fieldLink RX2 40 "MarkedTrees" "nodeCount" "I") (by decide +kernel)) (fun _ h9 => h9) (by rw [← hnc]; rfl) dX2_add_67 ?_
      refine lv_istore (lv' := [(7, .int (nI nc)), (6, .int (nI (n_3 * 10 + n_4))), (5, .ref (gA G (3 * (41 + i_2)))), (0, .ref (gA G 139)), (1, .int (nI i_2)), (2, .int (nI n_3)), (3, .int (nI n_4)), (4, .int (bI db))]) hx hb dX2_add_70 hl (by decide) rfl (fun ls hl => ?_)
      refine lv_aload_n hx hb dX2_add_72 rfl (lv_at hl 3 rfl) ?_
      refine lv_dup hx hb dX2_add_73 rfl ?_
      refine va_get (D := gD G) (ci := 2) (v := .int (nI nc)) (C := RX2) (T := TX2) (N := 10) hx hb hts inX2 hown hK.1 hW 139 cw_O rfl 7 (by decide) (hts (.fieldLink RX2 40 "MarkedTrees" "nodeCount" "I") (by decide +kernel)) (fun _ h9 => h9) (by rw [← hnc]; rfl) dX2_add_74 ?_
      refine lv_iconst (v := nI 1) hx hb dX2_add_77 (by decide) ?_
      refine nv_iadd hx hb dX2_add_78 ?_
      refine va_put (D := gD G) (ci := 2) (v := .int (nI (nc + 1))) (ty := .int) (C := RX2) (T := TX2) (N := 10) hx hb hts inX2 tyX2 tyX2_ok nmX2 hown hK.1 hW (wl_D hK.2.1) hS 139 cw_O rfl 7 (by decide) (hts (.fieldLink RX2 40 "MarkedTrees" "nodeCount" "I") (by decide +kernel)) (fun _ h9 => h9) rfl (by decide +kernel) rfl rfl (Nat.le_of_ble_eq_true rfl) dX2_add_79 (fun H locs hW _ hS => ?_)
      have hW : cW G (s1 S 139 7 (nI (nc + 1))) H := cp_O_7 hW
      obtain ⟨S_7, eS_7⟩ : ∃ z, z = s1 S 139 7 (nI (nc + 1)) := ⟨_, rfl⟩
      rw [← eS_7] at hW
      refine lv_iload hx hb dX2_add_82 (lv_at hl 7 rfl) ?_
      refine bv_if_eq (b := db) (tgt := 100) hx hb dX2_add_84 (by decide) (fun c_84 => ?_) (fun c_84 => ?_)
      · refine lv_aload hx hb dX2_add_100 (lv_at hl 2 rfl) ?_
        refine lv_iload hx hb dX2_add_102 (lv_at hl 0 rfl) ?_
        refine lv_iload hx hb dX2_add_104 (lv_at hl 1 rfl) ?_
        refine ev_v (va_runV (As := [.int (nI nc), .int (nI (n_3 * 10 + n_4))]) (rest := []) ⟨hx, hb, hml, hown, hts⟩ (k_X1_plant l G S_7 H.size (t := 41 + i_2) (by omega) (n := nc) (by omega) (nI (n_3 * 10 + n_4))) (cwV 2 hts gX2_add_X1_plant rfl rfl rfl (by decide +kernel) ⟨Nat.le_of_ble_eq_true rfl, Nat.le_of_ble_eq_true rfl⟩) ⟨cQ_blind, c_recv hW hK (k := (3 * (41 + i_2))) (ci := 1) (cw_T (t := 41 + i_2) (by omega)) rfl, cQ_at hW hK hS⟩ rfl rfl hl.1 rfl (lv_room (Nat.le_of_ble_eq_true rfl)) dX2_add_106 ⟨Nat.le_of_ble_eq_true rfl, Nat.le_of_ble_eq_true rfl⟩) hS (fun S_8 t9 H locs ht9 hS_8 hW hS => ?_)
        have hW : cW G S_8 H := ht9 ▸ hW
        refine lv_iload hx hb dX2_add_109 (lv_at hl 0 rfl) ?_
        refine vx_ret ?_
        refine W.widen (k := 8) (n := 48) (by omega) (by omega) ?_
        exact W.iret (v := nI nc) hx hb hr (fun t9 ht9 _ => ⟨⟨_, S_8, rfl, ⟨(by unfold cdAdd; (try simp only [cn_i_2, cn_n_3, cn_n_4]); rw [if_pos (isP_nI hi_2), if_neg hb_2, if_pos h_10, if_pos ⟨hd_16, inB_nI hn_4 (by decide)⟩, if_pos c_34, if_pos c_53]), rfl, by (try simp only [cn_i_2, cn_n_3, cn_n_4]); unfold doAdd; rw [if_neg (by rw [c_84]; exact Bool.false_ne_true)]; subst_vars; rfl⟩, (show cW G S_8 t9.heap by rw [ht9]; exact hW)⟩, hS.F ht9⟩) hS.2.2 dX2_add_111
      · refine lv_aload_n hx hb dX2_add_87 rfl (lv_at hl 3 rfl) ?_
        refine lv_dup hx hb dX2_add_88 rfl ?_
        refine va_get (D := gD G) (ci := 2) (v := .int (S_7.1 139 6)) (C := RX2) (T := TX2) (N := 10) hx hb hts inX2 hown hK.1 hW 139 cw_O rfl 6 (by decide) (hts (.fieldLink RX2 37 "MarkedTrees" "directories" "I") (by decide +kernel)) (fun _ h9 => h9) rfl dX2_add_89 ?_
        refine lv_iconst (v := nI 1) hx hb dX2_add_92 (by decide) ?_
        refine lv_iload hx hb dX2_add_93 (lv_at hl 0 rfl) ?_
        refine lv_ishl hx hb dX2_add_95 ?_
        refine lv_ior hx hb dX2_add_96 ?_
        refine va_put (D := gD G) (ci := 2) (v := .int ((S_7.1 139 6) ||| ((nI 1) <<< ((nI nc) &&& 31)))) (ty := .int) (C := RX2) (T := TX2) (N := 10) hx hb hts inX2 tyX2 tyX2_ok nmX2 hown hK.1 hW (wl_D hK.2.1) hS 139 cw_O rfl 6 (by decide) (hts (.fieldLink RX2 37 "MarkedTrees" "directories" "I") (by decide +kernel)) (fun _ h9 => h9) rfl (by decide +kernel) rfl rfl (Nat.le_of_ble_eq_true rfl) dX2_add_97 (fun H locs hW _ hS => ?_)
        have hW : cW G (s1 S_7 139 6 ((S_7.1 139 6) ||| ((nI 1) <<< ((nI nc) &&& 31)))) H := cp_O_6 hW
        obtain ⟨S_9, eS_9⟩ : ∃ z, z = s1 S_7 139 6 ((S_7.1 139 6) ||| ((nI 1) <<< ((nI nc) &&& 31))) := ⟨_, rfl⟩
        rw [← eS_9] at hW
        refine lv_aload hx hb dX2_add_100 (lv_at hl 2 rfl) ?_
        refine lv_iload hx hb dX2_add_102 (lv_at hl 0 rfl) ?_
        refine lv_iload hx hb dX2_add_104 (lv_at hl 1 rfl) ?_
        refine ev_v (va_runV (As := [.int (nI nc), .int (nI (n_3 * 10 + n_4))]) (rest := []) ⟨hx, hb, hml, hown, hts⟩ (k_X1_plant l G S_9 H.size (t := 41 + i_2) (by omega) (n := nc) (by omega) (nI (n_3 * 10 + n_4))) (cwV 2 hts gX2_add_X1_plant rfl rfl rfl (by decide +kernel) ⟨Nat.le_of_ble_eq_true rfl, Nat.le_of_ble_eq_true rfl⟩) ⟨cQ_blind, c_recv hW hK (k := (3 * (41 + i_2))) (ci := 1) (cw_T (t := 41 + i_2) (by omega)) rfl, cQ_at hW hK hS⟩ rfl rfl hl.1 rfl (lv_room (Nat.le_of_ble_eq_true rfl)) dX2_add_106 ⟨Nat.le_of_ble_eq_true rfl, Nat.le_of_ble_eq_true rfl⟩) hS (fun S_10 t9 H locs ht9 hS_10 hW hS => ?_)
        have hW : cW G S_10 H := ht9 ▸ hW
        refine lv_iload hx hb dX2_add_109 (lv_at hl 0 rfl) ?_
        refine vx_ret ?_
        refine W.widen (k := 8) (n := 48) (by omega) (by omega) ?_
        exact W.iret (v := nI nc) hx hb hr (fun t9 ht9 _ => ⟨⟨_, S_10, rfl, ⟨(by unfold cdAdd; (try simp only [cn_i_2, cn_n_3, cn_n_4]); rw [if_pos (isP_nI hi_2), if_neg hb_2, if_pos h_10, if_pos ⟨hd_16, inB_nI hn_4 (by decide)⟩, if_pos c_34, if_pos c_53]), rfl, by (try simp only [cn_i_2, cn_n_3, cn_n_4]); unfold doAdd; rw [if_pos c_84]; subst_vars; rfl⟩, (show cW G S_10 t9.heap by rw [ht9]; exact hW)⟩, hS.F ht9⟩) hS.2.2 dX2_add_111
    · exact tv_throw (text := "there are 16 nodes") hx hb hlt hown hK hout hlocks (hl.1.trans hml.symm) fit_S at_Sg at_S0 (by decide) (hts (.classLink RX2 93 eS) (by decide +kernel)) (hts (.initialized eS) (by decide +kernel)) hatS (by decide) (thr_of (k := 3) (by unfold cdAdd; (try simp only [cn_i_2, cn_n_3, cn_n_4]); rw [if_pos (isP_nI hi_2), if_neg hb_2, if_pos h_10, if_pos ⟨hd_16, inB_nI hn_4 (by decide)⟩, if_pos c_34, if_neg (by omega)]) rfl (by decide)) ⟨Nat.le_of_ble_eq_true rfl, Nat.le_of_ble_eq_true rfl, Nat.le_of_ble_eq_true rfl, Nat.le_of_ble_eq_true rfl, Nat.le_of_ble_eq_true rfl, Nat.le_of_ble_eq_true rfl⟩ dX2_add_56 dX2_add_59 dX2_add_60 dX2_add_62 dX2_add_65
  · exact tv_throw (text := "a node has that place") hx hb hlt hown hK hout hlocks (hl.1.trans hml.symm) fit_A at_Ag at_A0 (by decide) (hts (.classLink RX2 86 eA) (by decide +kernel)) (hts (.initialized eA) (by decide +kernel)) hatA (by decide) (thr_of (k := 2) (by unfold cdAdd; (try simp only [cn_i_2, cn_n_3, cn_n_4]); rw [if_pos (isP_nI hi_2), if_neg hb_2, if_pos h_10, if_pos ⟨hd_16, inB_nI hn_4 (by decide)⟩, if_neg c_34]) rfl (by decide)) ⟨Nat.le_of_ble_eq_true rfl, Nat.le_of_ble_eq_true rfl, Nat.le_of_ble_eq_true rfl, Nat.le_of_ble_eq_true rfl, Nat.le_of_ble_eq_true rfl, Nat.le_of_ble_eq_true rfl⟩ dX2_add_37 dX2_add_40 dX2_add_41 dX2_add_43 dX2_add_46

set_option maxHeartbeats 4000000 in
set_option maxRecDepth 100000 in
theorem k_X2_drop (l : Launch) (hlt : l.stackTraces = false) (G : GT) (S : SS) (sz : Nat) (x y : Int32) : vx_Met l yX2_drop wsX2_drop ({ frames := 8, cells := 8, slots := 48, locals := 125 } : Room) (va_Pc [.ref (gA G 139), .int x, .int y] (fun U => U.heap.size = sz ∧ cP G S U)) (va_Qv (fun S' => cdDrop S x y = 0 ∧ S' = doDrop S (cn x) (cn y)) (cB G) (gF G sz)) (xT (fun E => E = eX (cdDrop S x y) ∧ ¬ cdDrop S x y = 0)) 8 48 (gF G sz) := by
  refine vx_ofW (cc := cX2_drop) (maxL := 4) (ret := none) (by decide) rfl ?_
  intro p e s m args below meth c s₁ B hml hout hv
  obtain ⟨rfl, hsz, hW, hK⟩ := hv
  subst hsz
  have hx := B.exec
  have hb := B.bytes
  have hr := B.returns
  have hts := atoms_spec (ws := wsX2_drop) B.pre
  have hown : s.vm.findClass RX2 = some m.cls := findClass_of_methodNamed B.named
  have hlocks := B.notSynchronized
  have hS : va_S (gF G s.heap.size) s.heap s.heap [] := va_S.rf
  have hatA : ∀ w ∈ (vx_atS RX2 90 eA eU).filter goodWord, w.before _ s = true := fun w hw => hts w ((by decide +kernel : ∀ w ∈ (vx_atS RX2 90 eA eU).filter goodWord, w ∈ wsX2_drop) w hw)
  have hl := lv_entry ([.ref (gA G 139), .int x, .int y]) (n := 4) (Nat.le_of_ble_eq_true rfl)
  rw [lg_entry_eq]
  generalize (lg_sl ([.ref (gA G 139), .int x, .int y]) ++ List.replicate (4 - (lg_sl ([.ref (gA G 139), .int x, .int y])).length) Slot.unset).toArray = ls at hl ⊢
  have hl : lv_has ls 4 [(0, .ref (gA G 139)), (1, .int x), (2, .int y)] := hl
  refine lv_aload_n hx hb dX2_drop_0 rfl (lv_at hl 0 rfl) ?_
  refine lv_iload_n hx hb dX2_drop_1 rfl (lv_at hl 1 rfl) ?_
  refine tv_r (vx_runV (As := [.int x]) (rest := []) ⟨hx, hb, hml, hown, hts⟩ (k_X2_workspaceOf l hlt G S x) (cwV 1 hts gX2_drop_X2_workspaceOf rfl rfl rfl (by decide +kernel) ⟨Nat.le_of_ble_eq_true rfl, Nat.le_of_ble_eq_true rfl⟩) ⟨cP_blind, c_recv hW hK (k := 139) (ci := 2) cw_O rfl, cP_at hW hK hS⟩ rfl rfl hl.1 rfl (lv_room (Nat.le_of_ble_eq_true rfl)) dX2_drop_2 ⟨Nat.le_of_ble_eq_true rfl, Nat.le_of_ble_eq_true rfl⟩) hout hlocks (fun E hE => hE.elim (fun hE => thr_of (k := 1) (by unfold cdDrop; rw [if_neg (isP_no hE.2)]) hE.1 (by decide)) (fun hE => by obtain ⟨e1, i9, hi9, rfl, hb9⟩ := hE; exact thr_of (k := 3) (by unfold cdDrop; simp only [cn_nI (show i9 < 2 ^ 31 by omega)]; rw [if_pos (isP_nI hi9), if_pos hb9]) e1 (by decide))) (Nat.le_of_ble_eq_true rfl) (Nat.le_of_ble_eq_true rfl) (fun k_1 h_2 => ?_)
  obtain ⟨i_2, hi_2, rfl, hb_2, rfl⟩ := h_2
  have cn_i_2 : cn (nI i_2) = i_2 := cn_nI (by omega)
  refine lv_astore_n (lv' := [(3, .ref (gA G (3 * (41 + i_2)))), (0, .ref (gA G 139)), (1, .int (nI i_2)), (2, .int y)]) hx hb dX2_drop_5 rfl hl (by decide) rfl (fun ls hl => ?_)
  refine lv_aload_n hx hb dX2_drop_6 rfl (lv_at hl 0 rfl) ?_
  refine lv_iload_n hx hb dX2_drop_7 rfl (lv_at hl 3 rfl) ?_
  refine tv_v (vx_runS (As := [.ref (gA G (3 * (41 + i_2))), .int y]) (rest := []) ⟨hx, hb, hml, hown, hts⟩ (k_X2_requireAlive l hlt G S (t := 41 + i_2) (by omega) y) (va_cwS 2 hts gX2_drop_X2_requireAlive rfl rfl rfl (by decide +kernel) ⟨Nat.le_of_ble_eq_true rfl, Nat.le_of_ble_eq_true rfl⟩) ⟨cP_blind, cP_at hW hK hS⟩ rfl rfl hl.1 rfl (lv_room (Nat.le_of_ble_eq_true rfl)) dX2_drop_8 ⟨Nat.le_of_ble_eq_true rfl, Nat.le_of_ble_eq_true rfl⟩) hout hlocks (fun E hE => thr_of (k := 1) (by unfold cdDrop; (try simp only [cn_i_2]); rw [if_pos (isP_nI hi_2), if_neg hb_2, if_neg (by rw [hE.2]; exact Bool.false_ne_true)]) hE.1 (by decide)) (Nat.le_of_ble_eq_true rfl) (Nat.le_of_ble_eq_true rfl) (fun h_8 => ?_)
  obtain ⟨n_3, hn_3, rfl⟩ := aliveB_of h_8
  have cn_n_3 : cn (nI n_3) = n_3 := cn_nI (by omega)
  refine lv_iload_n hx hb dX2_drop_11 rfl (lv_at hl 3 rfl) ?_
  refine tv_v (vx_runS (As := [.int (nI n_3)]) (rest := []) ⟨hx, hb, hml, hown, hts⟩ (k_X2_requireNotRoot l hlt G S (nI n_3)) (va_cwS 1 hts gX2_drop_X2_requireNotRoot rfl rfl rfl (by decide +kernel) ⟨Nat.le_of_ble_eq_true rfl, Nat.le_of_ble_eq_true rfl⟩) ⟨cP_blind, cP_at hW hK hS⟩ rfl rfl hl.1 rfl (lv_room (Nat.le_of_ble_eq_true rfl)) dX2_drop_12 ⟨Nat.le_of_ble_eq_true rfl, Nat.le_of_ble_eq_true rfl⟩) hout hlocks (fun E hE => thr_of (k := 2) (by unfold cdDrop; (try simp only [cn_i_2, cn_n_3]); rw [if_pos (isP_nI hi_2), if_neg hb_2, if_pos h_8, if_pos hE.2]) hE.1 (by decide)) (Nat.le_of_ble_eq_true rfl) (Nat.le_of_ble_eq_true rfl) (fun h_12 => ?_)
  refine lv_aload_n hx hb dX2_drop_15 rfl (lv_at hl 0 rfl) ?_
  refine lv_iload_n hx hb dX2_drop_16 rfl (lv_at hl 3 rfl) ?_
  refine pv_i (va_runV (As := [.int (nI n_3)]) (rest := []) ⟨hx, hb, hml, hown, hts⟩ (k_X1_isParent l G S (t := 41 + i_2) (by omega) (nI n_3)) (cwV 1 hts gX2_drop_X1_isParent rfl rfl rfl (by decide +kernel) ⟨Nat.le_of_ble_eq_true rfl, Nat.le_of_ble_eq_true rfl⟩) ⟨cP_blind, c_recv hW hK (k := (3 * (41 + i_2))) (ci := 1) (cw_T (t := 41 + i_2) (by omega)) rfl, cP_at hW hK hS⟩ rfl rfl hl.1 rfl (lv_room (Nat.le_of_ble_eq_true rfl)) dX2_drop_17 ⟨Nat.le_of_ble_eq_true rfl, Nat.le_of_ble_eq_true rfl⟩) (fun r_4 hr_4 => ?_)
  have hr_4 : r_4 = bI (anyG (fun j => ti (S.1 (3 * (41 + i_2)) 0) j && (dP (S.1 (3 * (41 + i_2) + 1) (j * 3)) == nI n_3)) 15 1) := hr_4
  subst hr_4
  refine bv_if_eq (b := anyG (fun j => ti (S.1 (3 * (41 + i_2)) 0) j && (dP (S.1 (3 * (41 + i_2) + 1) (j * 3)) == nI n_3)) 15 1) (tgt := 33) hx hb dX2_drop_20 (by decide) (fun c_20 => ?_) (fun c_20 => ?_)
  · refine lv_aload_n hx hb dX2_drop_33 rfl (lv_at hl 0 rfl) ?_
    refine lv_iload_n hx hb dX2_drop_34 rfl (lv_at hl 3 rfl) ?_
    refine ev_v (va_runV (As := [.int (nI n_3)]) (rest := []) ⟨hx, hb, hml, hown, hts⟩ (k_X1_takeOut l G S s.heap.size (t := 41 + i_2) (by omega) (n := n_3) (by omega)) (cwV 1 hts gX2_drop_X1_takeOut rfl rfl rfl (by decide +kernel) ⟨Nat.le_of_ble_eq_true rfl, Nat.le_of_ble_eq_true rfl⟩) ⟨cQ_blind, c_recv hW hK (k := (3 * (41 + i_2))) (ci := 1) (cw_T (t := 41 + i_2) (by omega)) rfl, cQ_at hW hK hS⟩ rfl rfl hl.1 rfl (lv_room (Nat.le_of_ble_eq_true rfl)) dX2_drop_35 ⟨Nat.le_of_ble_eq_true rfl, Nat.le_of_ble_eq_true rfl⟩) hS (fun S_5 t9 H locs ht9 hS_5 hW hS => ?_)
    have hW : cW G S_5 H := ht9 ▸ hW
    refine vx_ret ?_
    refine W.widen (k := 8) (n := 48) (by omega) (by omega) ?_
    exact W.vret hx hb hr (fun t9 ht9 _ => ⟨⟨S_5, rfl, ⟨(by unfold cdDrop; (try simp only [cn_i_2, cn_n_3]); rw [if_pos (isP_nI hi_2), if_neg hb_2, if_pos h_8, if_neg h_12, if_neg (ne_true_of_eq_false c_20)]), by (try simp only [cn_i_2, cn_n_3]); subst_vars; rfl⟩, (show cW G S_5 t9.heap by rw [ht9]; exact hW)⟩, hS.F ht9⟩) hS.2.2 dX2_drop_38
  · exact tv_throw (text := "a node is in it") hx hb hlt hown hK hout hlocks (hl.1.trans hml.symm) fit_A at_Ag at_A0 (by decide) (hts (.classLink RX2 86 eA) (by decide +kernel)) (hts (.initialized eA) (by decide +kernel)) hatA (by decide) (thr_of (k := 2) (by unfold cdDrop; (try simp only [cn_i_2, cn_n_3]); rw [if_pos (isP_nI hi_2), if_neg hb_2, if_pos h_8, if_neg h_12, if_pos c_20]) rfl (by decide)) ⟨Nat.le_of_ble_eq_true rfl, Nat.le_of_ble_eq_true rfl, Nat.le_of_ble_eq_true rfl, Nat.le_of_ble_eq_true rfl, Nat.le_of_ble_eq_true rfl, Nat.le_of_ble_eq_true rfl⟩ dX2_drop_23 dX2_drop_26 dX2_drop_27 dX2_drop_29 dX2_drop_32
