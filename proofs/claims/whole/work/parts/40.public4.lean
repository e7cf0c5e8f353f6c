set_option maxHeartbeats 4000000 in
set_option maxRecDepth 100000 in
theorem k_X2_exchange (l : Launch) (hlt : l.stackTraces = false) (G : GT) (S : SS) (sz : Nat) {rc : Nat} (hrc : S.1 139 4 = nI rc) (h40 : rc ≤ 40) (x : Int32) : vx_Met l yX2_exchange wsX2_exchange ({ frames := 7, cells := 8, slots := 48, locals := 102 } : Room) (va_Pc [.ref (gA G 139), .int x] (fun U => U.heap.size = sz ∧ cP G S U)) (va_Qi (fun r S' => cdExch x = 0 ∧ r = (doExch S rc (cn x)).1 ∧ S' = (doExch S rc (cn x)).2) (cB G) (gF G sz)) (xT (fun E => E = eX (cdExch x) ∧ ¬ cdExch x = 0)) 8 48 (gF G sz) := by
  refine vx_ofW (cc := cX2_exchange) (maxL := 6) (ret := (some .int)) (by decide) rfl ?_
  intro p e s m args below meth c s₁ B hml hout hv
  obtain ⟨rfl, hsz, hW, hK⟩ := hv
  subst hsz
  have hx := B.exec
  have hb := B.bytes
  have hr := B.returns
  have hts := atoms_spec (ws := wsX2_exchange) B.pre
  have hown : s.vm.findClass RX2 = some m.cls := findClass_of_methodNamed B.named
  have hlocks := B.notSynchronized
  have hS : va_S (gF G s.heap.size) s.heap s.heap [] := va_S.rf
  have inX2 : ∀ w ∈ u_ws RX2 TX2 10, w ∈ wsX2_exchange := by decide +kernel
  have hl := lv_entry ([.ref (gA G 139), .int x]) (n := 6) (Nat.le_of_ble_eq_true rfl)
  rw [lg_entry_eq]
  generalize (lg_sl ([.ref (gA G 139), .int x]) ++ List.replicate (6 - (lg_sl ([.ref (gA G 139), .int x])).length) Slot.unset).toArray = ls at hl ⊢
  have hl : lv_has ls 6 [(0, .ref (gA G 139)), (1, .int x)] := hl
  refine lv_iload_n hx hb dX2_exchange_0 rfl (lv_at hl 1 rfl) ?_
  refine tv_v (vx_runS (As := [.int x]) (rest := []) ⟨hx, hb, hml, hown, hts⟩ (k_X2_requireBranch l hlt G S x) (va_cwS 1 hts gX2_exchange_X2_requireBranch rfl rfl rfl (by decide +kernel) ⟨Nat.le_of_ble_eq_true rfl, Nat.le_of_ble_eq_true rfl⟩) ⟨cP_blind, cP_at hW hK hS⟩ rfl rfl hl.1 rfl (lv_room (Nat.le_of_ble_eq_true rfl)) dX2_exchange_1 ⟨Nat.le_of_ble_eq_true rfl, Nat.le_of_ble_eq_true rfl⟩) hout hlocks (fun E hE => thr_of (k := 1) (by unfold cdExch; rw [if_neg (fun h9 => hE.2 ((inB_iff (by decide)).mp h9))]) hE.1 (by decide)) (Nat.le_of_ble_eq_true rfl) (Nat.le_of_ble_eq_true rfl) (fun h_1 => ?_)
  obtain ⟨n_1, hn_1, rfl⟩ := h_1
  have cn_n_1 : cn (nI n_1) = n_1 := cn_nI (by omega)
  refine lv_aload_n hx hb dX2_exchange_4 rfl (lv_at hl 0 rfl) ?_
  refine lv_aload_n hx hb dX2_exchange_5 rfl (lv_at hl 0 rfl) ?_
  refine va_get (D := gD G) (ci := 2) (v := .ref (gA G (129 + 5 * 0))) (C := RX2) (T := TX2) (N := 10) hx hb hts inX2 hown hK.1 hW 139 cw_O rfl 0 (by decide) (hts (.fieldLink RX2 10 "MarkedTrees" "first" "LMarkedTrees$Peer;") (by decide +kernel)) (fun _ h9 => h9) rfl dX2_exchange_6 ?_
  refine lv_iload_n hx hb dX2_exchange_9 rfl (lv_at hl 1 rfl) ?_
  refine pv_l (va_runV (As := [.int (nI n_1)]) (rest := [.ref (gA G 139)]) ⟨hx, hb, hml, hown, hts⟩ (k_X0_membersOf l G S (i := 0) (by omega) (b := n_1) (by omega)) (cwV 1 hts gX2_exchange_X0_membersOf rfl rfl rfl (by decide +kernel) ⟨Nat.le_of_ble_eq_true rfl, Nat.le_of_ble_eq_true rfl⟩) ⟨cP_blind, c_recv hW hK (k := (129 + 5 * 0)) (ci := 0) (cw_P (i := 0) (by omega)) rfl, cP_at hW hK hS⟩ rfl rfl hl.1 rfl (lv_room (Nat.le_of_ble_eq_true rfl)) dX2_exchange_10 ⟨Nat.le_of_ble_eq_true rfl, Nat.le_of_ble_eq_true rfl⟩) (fun r_2 hr_2 => ?_)
  have hr_2 : r_2 = memG S 0 n_1 4 0 0 := hr_2
  subst hr_2
  refine pv_l (va_runV (As := [.long (memG S 0 n_1 4 0 0)]) (rest := []) ⟨hx, hb, hml, hown, hts⟩ (k_X2_withAncestors l G S (rc := rc) hrc (by omega) (memG S 0 n_1 4 0 0)) (cwV 1 hts gX2_exchange_X2_withAncestors rfl rfl rfl (by decide +kernel) ⟨Nat.le_of_ble_eq_true rfl, Nat.le_of_ble_eq_true rfl⟩) ⟨cP_blind, c_recv hW hK (k := 139) (ci := 2) cw_O rfl, cP_at hW hK hS⟩ rfl rfl hl.1 rfl (lv_room (Nat.le_of_ble_eq_true rfl)) dX2_exchange_13 ⟨Nat.le_of_ble_eq_true rfl, Nat.le_of_ble_eq_true rfl⟩) (fun r_3 hr_3 => ?_)
  have hr_3 : r_3 = waG S (memG S 0 n_1 4 0 0) rc 0 (memG S 0 n_1 4 0 0) := hr_3
  subst hr_3
  refine lv_lstore_n (lv' := [(2, .long (waG S (memG S 0 n_1 4 0 0) rc 0 (memG S 0 n_1 4 0 0))), (0, .ref (gA G 139)), (1, .int (nI n_1))]) hx hb dX2_exchange_16 rfl hl (by decide) rfl (fun ls hl => ?_)
  refine lv_aload_n hx hb dX2_exchange_17 rfl (lv_at hl 1 rfl) ?_
  refine lv_aload_n hx hb dX2_exchange_18 rfl (lv_at hl 1 rfl) ?_
  refine va_get (D := gD G) (ci := 2) (v := .ref (gA G (129 + 5 * 1))) (C := RX2) (T := TX2) (N := 10) hx hb hts inX2 hown hK.1 hW 139 cw_O rfl 1 (by decide) (hts (.fieldLink RX2 16 "MarkedTrees" "second" "LMarkedTrees$Peer;") (by decide +kernel)) (fun _ h9 => h9) rfl dX2_exchange_19 ?_
  refine lv_iload_n hx hb dX2_exchange_22 rfl (lv_at hl 2 rfl) ?_
  refine pv_l (va_runV (As := [.int (nI n_1)]) (rest := [.ref (gA G 139)]) ⟨hx, hb, hml, hown, hts⟩ (k_X0_membersOf l G S (i := 1) (by omega) (b := n_1) (by omega)) (cwV 1 hts gX2_exchange_X0_membersOf rfl rfl rfl (by decide +kernel) ⟨Nat.le_of_ble_eq_true rfl, Nat.le_of_ble_eq_true rfl⟩) ⟨cP_blind, c_recv hW hK (k := (129 + 5 * 1)) (ci := 0) (cw_P (i := 1) (by omega)) rfl, cP_at hW hK hS⟩ rfl rfl hl.1 rfl (lv_room (Nat.le_of_ble_eq_true rfl)) dX2_exchange_23 ⟨Nat.le_of_ble_eq_true rfl, Nat.le_of_ble_eq_true rfl⟩) (fun r_4 hr_4 => ?_)
  have hr_4 : r_4 = memG S 1 n_1 4 0 0 := hr_4
  subst hr_4
  refine pv_l (va_runV (As := [.long (memG S 1 n_1 4 0 0)]) (rest := []) ⟨hx, hb, hml, hown, hts⟩ (k_X2_withAncestors l G S (rc := rc) hrc (by omega) (memG S 1 n_1 4 0 0)) (cwV 1 hts gX2_exchange_X2_withAncestors rfl rfl rfl (by decide +kernel) ⟨Nat.le_of_ble_eq_true rfl, Nat.le_of_ble_eq_true rfl⟩) ⟨cP_blind, c_recv hW hK (k := 139) (ci := 2) cw_O rfl, cP_at hW hK hS⟩ rfl rfl hl.1 rfl (lv_room (Nat.le_of_ble_eq_true rfl)) dX2_exchange_26 ⟨Nat.le_of_ble_eq_true rfl, Nat.le_of_ble_eq_true rfl⟩) (fun r_5 hr_5 => ?_)
  have hr_5 : r_5 = waG S (memG S 1 n_1 4 0 0) rc 0 (memG S 1 n_1 4 0 0) := hr_5
  subst hr_5
  refine lv_lstore (lv' := [(4, .long (waG S (memG S 1 n_1 4 0 0) rc 0 (memG S 1 n_1 4 0 0))), (2, .long (waG S (memG S 0 n_1 4 0 0) rc 0 (memG S 0 n_1 4 0 0))), (0, .ref (gA G 139)), (1, .int (nI n_1))]) hx hb dX2_exchange_29 hl (by decide) rfl (fun ls hl => ?_)
  refine lv_aload_n hx hb dX2_exchange_31 rfl (lv_at hl 2 rfl) ?_
  refine va_get (D := gD G) (ci := 2) (v := .ref (gA G (129 + 5 * 1))) (C := RX2) (T := TX2) (N := 10) hx hb hts inX2 hown hK.1 hW 139 cw_O rfl 1 (by decide) (hts (.fieldLink RX2 16 "MarkedTrees" "second" "LMarkedTrees$Peer;") (by decide +kernel)) (fun _ h9 => h9) rfl dX2_exchange_32 ?_
  refine lv_aload_n hx hb dX2_exchange_35 rfl (lv_at hl 2 rfl) ?_
  refine va_get (D := gD G) (ci := 2) (v := .ref (gA G (129 + 5 * 0))) (C := RX2) (T := TX2) (N := 10) hx hb hts inX2 hown hK.1 hW 139 cw_O rfl 0 (by decide) (hts (.fieldLink RX2 10 "MarkedTrees" "first" "LMarkedTrees$Peer;") (by decide +kernel)) (fun _ h9 => h9) rfl dX2_exchange_36 ?_
  refine lv_lload_n hx hb dX2_exchange_39 rfl (lv_at hl 1 rfl) ?_
  refine ev_i (va_runV (As := [.ref (gA G (129 + 5 * 0)), .long (waG S (memG S 0 n_1 4 0 0) rc 0 (memG S 0 n_1 4 0 0))]) (rest := []) ⟨hx, hb, hml, hown, hts⟩ (k_X0_receive l G S s.heap.size (i := 1) (by omega) (j := 0) (by omega) (waG S (memG S 0 n_1 4 0 0) rc 0 (memG S 0 n_1 4 0 0))) (cwV 2 hts gX2_exchange_X0_receive rfl rfl rfl (by decide +kernel) ⟨Nat.le_of_ble_eq_true rfl, Nat.le_of_ble_eq_true rfl⟩) ⟨cQ_blind, c_recv hW hK (k := (129 + 5 * 1)) (ci := 0) (cw_P (i := 1) (by omega)) rfl, cQ_at hW hK hS⟩ rfl rfl hl.1 rfl (lv_room (Nat.le_of_ble_eq_true rfl)) dX2_exchange_40 ⟨Nat.le_of_ble_eq_true rfl, Nat.le_of_ble_eq_true rfl⟩) hS (fun r_7 S_6 t9 H locs ht9 hS_6 hW hS => ?_)
  have hW : cW G S_6 H := ht9 ▸ hW
  obtain ⟨er_S_6, es_S_6⟩ := hS_6
  refine lv_aload_n hx hb dX2_exchange_43 rfl (lv_at hl 2 rfl) ?_
  refine va_get (D := gD G) (ci := 2) (v := .ref (gA G (129 + 5 * 0))) (C := RX2) (T := TX2) (N := 10) hx hb hts inX2 hown hK.1 hW 139 cw_O rfl 0 (by decide) (hts (.fieldLink RX2 10 "MarkedTrees" "first" "LMarkedTrees$Peer;") (by decide +kernel)) (fun _ h9 => h9) rfl dX2_exchange_44 ?_
  refine lv_aload_n hx hb dX2_exchange_47 rfl (lv_at hl 2 rfl) ?_
  refine va_get (D := gD G) (ci := 2) (v := .ref (gA G (129 + 5 * 1))) (C := RX2) (T := TX2) (N := 10) hx hb hts inX2 hown hK.1 hW 139 cw_O rfl 1 (by decide) (hts (.fieldLink RX2 16 "MarkedTrees" "second" "LMarkedTrees$Peer;") (by decide +kernel)) (fun _ h9 => h9) rfl dX2_exchange_48 ?_
  refine lv_lload hx hb dX2_exchange_51 (lv_at hl 0 rfl) ?_
  refine ev_i (va_runV (As := [.ref (gA G (129 + 5 * 1)), .long (waG S (memG S 1 n_1 4 0 0) rc 0 (memG S 1 n_1 4 0 0))]) (rest := [.int r_7]) ⟨hx, hb, hml, hown, hts⟩ (k_X0_receive l G S_6 H.size (i := 0) (by omega) (j := 1) (by omega) (waG S (memG S 1 n_1 4 0 0) rc 0 (memG S 1 n_1 4 0 0))) (cwV 2 hts gX2_exchange_X0_receive rfl rfl rfl (by decide +kernel) ⟨Nat.le_of_ble_eq_true rfl, Nat.le_of_ble_eq_true rfl⟩) ⟨cQ_blind, c_recv hW hK (k := (129 + 5 * 0)) (ci := 0) (cw_P (i := 0) (by omega)) rfl, cQ_at hW hK hS⟩ rfl rfl hl.1 rfl (lv_room (Nat.le_of_ble_eq_true rfl)) dX2_exchange_53 ⟨Nat.le_of_ble_eq_true rfl, Nat.le_of_ble_eq_true rfl⟩) hS (fun r_9 S_8 t9 H locs ht9 hS_8 hW hS => ?_)
  have hW : cW G S_8 H := ht9 ▸ hW
  obtain ⟨er_S_8, es_S_8⟩ := hS_8
  refine lv_iadd hx hb dX2_exchange_56 ?_
  refine vx_ret ?_
  refine W.widen (k := 8) (n := 48) (by omega) (by omega) ?_
  exact W.iret (v := r_7 + r_9) hx hb hr (fun t9 ht9 _ => ⟨⟨_, S_8, rfl, ⟨(by unfold cdExch; (try simp only [cn_n_1]); rw [if_pos (inB_nI hn_1 (by omega))]), by rw [cn_n_1]; unfold doExch rcvS sndX; rw [er_S_8, er_S_6, es_S_6], by rw [cn_n_1]; unfold doExch rcvS sndX; rw [es_S_8, es_S_6]⟩, (show cW G S_8 t9.heap by rw [ht9]; exact hW)⟩, hS.F ht9⟩) hS.2.2 dX2_exchange_57

set_option maxHeartbeats 4000000 in
set_option maxRecDepth 100000 in
theorem k_X2_has (l : Launch) (hlt : l.stackTraces = false) (G : GT) (S : SS) (x : Int32) : vx_Met l yX2_has wsX2_has ({ frames := 7, cells := 8, slots := 48, locals := 103 } : Room) (va_Pc [.ref (gA G 139), .int x] (cP G S)) (vp_Sl (fun r => cdHas x = 0 ∧ r = S.2 (129 + 5 * cn x) 0)) (xT (fun E => E = eX (cdHas x) ∧ ¬ cdHas x = 0)) 8 48 (fun _ => False) := by
  refine vx_ofW (cc := cX2_has) (maxL := 2) (ret := (some .long)) (by decide) rfl ?_
  intro p e s m args below meth c s₁ B hml hout hv
  obtain ⟨rfl, hW, hK⟩ := hv
  have hx := B.exec
  have hb := B.bytes
  have hr := B.returns
  have hts := atoms_spec (ws := wsX2_has) B.pre
  have hown : s.vm.findClass RX2 = some m.cls := findClass_of_methodNamed B.named
  have hlocks := B.notSynchronized
  have hS : va_S (gF G s.heap.size) s.heap s.heap [] := va_S.rf
  have inX0 : ∀ w ∈ u_ws RX0 TX0 10, w ∈ wsX2_has := by decide +kernel
  have hl := lv_entry ([.ref (gA G 139), .int x]) (n := 2) (Nat.le_of_ble_eq_true rfl)
  rw [lg_entry_eq]
  generalize (lg_sl ([.ref (gA G 139), .int x]) ++ List.replicate (2 - (lg_sl ([.ref (gA G 139), .int x])).length) Slot.unset).toArray = ls at hl ⊢
  have hl : lv_has ls 2 [(0, .ref (gA G 139)), (1, .int x)] := hl
  refine lv_aload_n hx hb dX2_has_0 rfl (lv_at hl 0 rfl) ?_
  refine lv_iload_n hx hb dX2_has_1 rfl (lv_at hl 1 rfl) ?_
  refine tv_r (vx_runV (As := [.int x]) (rest := []) ⟨hx, hb, hml, hown, hts⟩ (k_X2_peerOf l hlt G S x) (cwV 1 hts gX2_has_X2_peerOf rfl rfl rfl (by decide +kernel) ⟨Nat.le_of_ble_eq_true rfl, Nat.le_of_ble_eq_true rfl⟩) ⟨cP_blind, c_recv hW hK (k := 139) (ci := 2) cw_O rfl, cP_at hW hK hS⟩ rfl rfl hl.1 rfl (lv_room (Nat.le_of_ble_eq_true rfl)) dX2_has_2 ⟨Nat.le_of_ble_eq_true rfl, Nat.le_of_ble_eq_true rfl⟩) hout hlocks (fun E hE => thr_of (k := 1) (by unfold cdHas; rw [if_neg (isP_no hE.2)]) hE.1 (by decide)) (Nat.le_of_ble_eq_true rfl) (Nat.le_of_ble_eq_true rfl) (fun k_1 h_2 => ?_)
  obtain ⟨i_2, hi_2, rfl, rfl⟩ := h_2
  have cn_i_2 : cn (nI i_2) = i_2 := cn_nI (by omega)
  refine va_get (D := gD G) (ci := 0) (v := .long (S.2 (129 + 5 * i_2) 0)) (C := RX0) (T := TX0) (N := 10) hx hb hts inX0 hown hK.1 hW (129 + 5 * i_2) (cw_P (i := i_2) (by omega)) rfl 0 (by decide) (hts (.fieldLink RX2 256 "MarkedTrees$Peer" "held" "J") (by decide +kernel)) (fun _ h9 => h9) rfl dX2_has_5 ?_
  refine vx_ret ?_
  refine W.widen (k := 8) (n := 48) (by omega) (by omega) ?_
  exact W.lret (v := S.2 (129 + 5 * i_2) 0) hx hb hr (fun t9 ht9 _ => ⟨_, rfl, ⟨(by unfold cdHas; (try simp only [cn_i_2]); rw [if_pos (isP_nI hi_2)]), by first | (rfl; done) | (simp only [cn_i_2]; done) | (simp only [cn_i_2]; rfl)⟩, ht9⟩) (fun _ h => by cases h) dX2_has_8
